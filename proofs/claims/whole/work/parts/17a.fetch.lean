/-! fetch rows -/
theorem f0_0 : zF 0 0 = some (.aload_n 0, 1, [], 0) := rfl
theorem f0_1 : zF 0 1 = some (.invokespecial 3, 3, [8], 0) := rfl
theorem f0_4 : zF 0 4 = some (.aload_n 0, 1, [], 0) := rfl
theorem f0_5 : zF 0 5 = some (.bipush 6, 2, [], 0) := rfl
theorem f0_7 : zF 0 7 = some (.anewarray 9, 3, [25], 0) := rfl
theorem f0_10 : zF 0 10 = some (.putfield 11, 3, [0, 0, 2], 0) := rfl
theorem f0_13 : zF 0 13 = some (.aload_n 0, 1, [], 0) := rfl
theorem f0_14 : zF 0 14 = some (.iconst 0, 1, [], 0) := rfl
theorem f0_15 : zF 0 15 = some (.putfield 17, 3, [0, 1, 0], 0) := rfl
theorem f0_18 : zF 0 18 = some (.iconst 0, 1, [], 0) := rfl
theorem f0_19 : zF 0 19 = some (.istore_n 3, 1, [], 0) := rfl
theorem f0_20 : zF 0 20 = some (.iload_n 3, 1, [], 0) := rfl
theorem f0_21 : zF 0 21 = some (.bipush 6, 2, [], 0) := rfl
theorem f0_23 : zF 0 23 = some (.if_icmp .ge 24, 3, [], 0) := rfl
theorem f0_26 : zF 0 26 = some (.aload_n 0, 1, [], 0) := rfl
theorem f0_27 : zF 0 27 = some (.getfield 11, 3, [0, 0, 2], 0) := rfl
theorem f0_30 : zF 0 30 = some (.iload_n 3, 1, [], 0) := rfl
theorem f0_31 : zF 0 31 = some (.new 9, 3, [6, 14], 0) := rfl
theorem f0_34 : zF 0 34 = some (.dup, 1, [], 0) := rfl
theorem f0_35 : zF 0 35 = some (.aload_n 1, 1, [], 0) := rfl
theorem f0_36 : zF 0 36 = some (.aload_n 2, 1, [], 0) := rfl
theorem f0_37 : zF 0 37 = some (.invokespecial 21, 3, [2, 51, 0, 3, 4, 10, 46], 0) := rfl
theorem f0_40 : zF 0 40 = some (.aastore, 1, [], 0) := rfl
theorem f0_41 : zF 0 41 = some (.iinc 3 1, 3, [], 0) := rfl
theorem f0_44 : zF 0 44 = some (.goto (-24), 3, [], 0) := rfl
theorem f0_47 : zF 0 47 = some (.return_, 1, [], 0) := rfl
theorem f1_0 : zF 1 0 = some (.aload_n 0, 1, [], 0) := rfl
theorem f1_1 : zF 1 1 = some (.getfield 17, 3, [0, 1, 0], 0) := rfl
theorem f1_4 : zF 1 4 = some (.ireturn, 1, [0], 0) := rfl
theorem f2_0 : zF 2 0 = some (.aload_n 0, 1, [], 0) := rfl
theorem f2_1 : zF 2 1 = some (.getfield 17, 3, [0, 1, 0], 0) := rfl
theorem f2_4 : zF 2 4 = some (.bipush 6, 2, [], 0) := rfl
theorem f2_6 : zF 2 6 = some (.if_icmp .ne 7, 3, [], 0) := rfl
theorem f2_9 : zF 2 9 = some (.aload_n 0, 1, [], 0) := rfl
theorem f2_10 : zF 2 10 = some (.invokevirtual 24, 3, [0, 5, 0, 1, 3, 0, 0], 0) := rfl
theorem f2_13 : zF 2 13 = some (.aload_n 0, 1, [], 0) := rfl
theorem f2_14 : zF 2 14 = some (.getfield 11, 3, [0, 0, 2], 0) := rfl
theorem f2_17 : zF 2 17 = some (.aload_n 0, 1, [], 0) := rfl
theorem f2_18 : zF 2 18 = some (.getfield 17, 3, [0, 1, 0], 0) := rfl
theorem f2_21 : zF 2 21 = some (.aaload, 1, [], 0) := rfl
theorem f2_22 : zF 2 22 = some (.aload_n 1, 1, [], 0) := rfl
theorem f2_23 : zF 2 23 = some (.invokevirtual 27, 3, [0, 52, 6, 2, 3, 0, 0], 0) := rfl
theorem f2_26 : zF 2 26 = some (.aload_n 0, 1, [], 0) := rfl
theorem f2_27 : zF 2 27 = some (.dup, 1, [], 0) := rfl
theorem f2_28 : zF 2 28 = some (.getfield 17, 3, [0, 1, 0], 0) := rfl
theorem f2_31 : zF 2 31 = some (.iconst 1, 1, [], 0) := rfl
theorem f2_32 : zF 2 32 = some (.iadd, 1, [], 0) := rfl
theorem f2_33 : zF 2 33 = some (.putfield 17, 3, [0, 1, 0], 0) := rfl
theorem f2_36 : zF 2 36 = some (.return_, 1, [], 0) := rfl
theorem f3_0 : zF 3 0 = some (.aload_n 0, 1, [], 0) := rfl
theorem f3_1 : zF 3 1 = some (.getfield 17, 3, [0, 1, 0], 0) := rfl
theorem f3_4 : zF 3 4 = some (.ifCond .le 26, 3, [], 0) := rfl
theorem f3_7 : zF 3 7 = some (.aload_n 0, 1, [], 0) := rfl
theorem f3_8 : zF 3 8 = some (.dup, 1, [], 0) := rfl
theorem f3_9 : zF 3 9 = some (.getfield 17, 3, [0, 1, 0], 0) := rfl
theorem f3_12 : zF 3 12 = some (.iconst 1, 1, [], 0) := rfl
theorem f3_13 : zF 3 13 = some (.isub, 1, [], 0) := rfl
theorem f3_14 : zF 3 14 = some (.putfield 17, 3, [0, 1, 0], 0) := rfl
theorem f3_17 : zF 3 17 = some (.aload_n 1, 1, [], 0) := rfl
theorem f3_18 : zF 3 18 = some (.aload_n 0, 1, [], 0) := rfl
theorem f3_19 : zF 3 19 = some (.getfield 11, 3, [0, 0, 2], 0) := rfl
theorem f3_22 : zF 3 22 = some (.aload_n 0, 1, [], 0) := rfl
theorem f3_23 : zF 3 23 = some (.getfield 17, 3, [0, 1, 0], 0) := rfl
theorem f3_26 : zF 3 26 = some (.aaload, 1, [], 0) := rfl
theorem f3_27 : zF 3 27 = some (.invokevirtual 27, 3, [0, 52, 6, 2, 3, 0, 0], 0) := rfl
theorem f3_30 : zF 3 30 = some (.return_, 1, [], 0) := rfl
theorem f4_0 : zF 4 0 = some (.aload_n 0, 1, [], 0) := rfl
theorem f4_1 : zF 4 1 = some (.aload_n 1, 1, [], 0) := rfl
theorem f4_2 : zF 4 2 = some (.getfield 17, 3, [0, 1, 0], 0) := rfl
theorem f4_5 : zF 4 5 = some (.putfield 17, 3, [0, 1, 0], 0) := rfl
theorem f4_8 : zF 4 8 = some (.iconst 0, 1, [], 0) := rfl
theorem f4_9 : zF 4 9 = some (.istore_n 2, 1, [], 0) := rfl
theorem f4_10 : zF 4 10 = some (.iload_n 2, 1, [], 0) := rfl
theorem f4_11 : zF 4 11 = some (.aload_n 0, 1, [], 0) := rfl
theorem f4_12 : zF 4 12 = some (.getfield 17, 3, [0, 1, 0], 0) := rfl
theorem f4_15 : zF 4 15 = some (.if_icmp .ge 24, 3, [], 0) := rfl
theorem f4_18 : zF 4 18 = some (.aload_n 0, 1, [], 0) := rfl
theorem f4_19 : zF 4 19 = some (.getfield 11, 3, [0, 0, 2], 0) := rfl
theorem f4_22 : zF 4 22 = some (.iload_n 2, 1, [], 0) := rfl
theorem f4_23 : zF 4 23 = some (.aaload, 1, [], 0) := rfl
theorem f4_24 : zF 4 24 = some (.aload_n 1, 1, [], 0) := rfl
theorem f4_25 : zF 4 25 = some (.getfield 11, 3, [0, 0, 2], 0) := rfl
theorem f4_28 : zF 4 28 = some (.iload_n 2, 1, [], 0) := rfl
theorem f4_29 : zF 4 29 = some (.aaload, 1, [], 0) := rfl
theorem f4_30 : zF 4 30 = some (.invokevirtual 27, 3, [0, 52, 6, 2, 3, 0, 0], 0) := rfl
theorem f4_33 : zF 4 33 = some (.iinc 2 1, 3, [], 0) := rfl
theorem f4_36 : zF 4 36 = some (.goto (-26), 3, [], 0) := rfl
theorem f4_39 : zF 4 39 = some (.return_, 1, [], 0) := rfl
theorem f5_0 : zF 5 0 = some (.aload_n 0, 1, [], 0) := rfl
theorem f5_1 : zF 5 1 = some (.getfield 11, 3, [0, 0, 2], 0) := rfl
theorem f5_4 : zF 5 4 = some (.iconst 0, 1, [], 0) := rfl
theorem f5_5 : zF 5 5 = some (.aaload, 1, [], 0) := rfl
theorem f5_6 : zF 5 6 = some (.astore_n 1, 1, [], 0) := rfl
theorem f5_7 : zF 5 7 = some (.iconst 1, 1, [], 0) := rfl
theorem f5_8 : zF 5 8 = some (.istore_n 2, 1, [], 0) := rfl
theorem f5_9 : zF 5 9 = some (.iload_n 2, 1, [], 0) := rfl
theorem f5_10 : zF 5 10 = some (.bipush 6, 2, [], 0) := rfl
theorem f5_12 : zF 5 12 = some (.if_icmp .ge 23, 3, [], 0) := rfl
theorem f5_15 : zF 5 15 = some (.aload_n 0, 1, [], 0) := rfl
theorem f5_16 : zF 5 16 = some (.getfield 11, 3, [0, 0, 2], 0) := rfl
theorem f5_19 : zF 5 19 = some (.iload_n 2, 1, [], 0) := rfl
theorem f5_20 : zF 5 20 = some (.iconst 1, 1, [], 0) := rfl
theorem f5_21 : zF 5 21 = some (.isub, 1, [], 0) := rfl
theorem f5_22 : zF 5 22 = some (.aload_n 0, 1, [], 0) := rfl
theorem f5_23 : zF 5 23 = some (.getfield 11, 3, [0, 0, 2], 0) := rfl
theorem f5_26 : zF 5 26 = some (.iload_n 2, 1, [], 0) := rfl
theorem f5_27 : zF 5 27 = some (.aaload, 1, [], 0) := rfl
theorem f5_28 : zF 5 28 = some (.aastore, 1, [], 0) := rfl
theorem f5_29 : zF 5 29 = some (.iinc 2 1, 3, [], 0) := rfl
theorem f5_32 : zF 5 32 = some (.goto (-23), 3, [], 0) := rfl
theorem f5_35 : zF 5 35 = some (.aload_n 0, 1, [], 0) := rfl
theorem f5_36 : zF 5 36 = some (.getfield 11, 3, [0, 0, 2], 0) := rfl
theorem f5_39 : zF 5 39 = some (.iconst 5, 1, [], 0) := rfl
theorem f5_40 : zF 5 40 = some (.aload_n 1, 1, [], 0) := rfl
theorem f5_41 : zF 5 41 = some (.aastore, 1, [], 0) := rfl
theorem f5_42 : zF 5 42 = some (.aload_n 0, 1, [], 0) := rfl
theorem f5_43 : zF 5 43 = some (.dup, 1, [], 0) := rfl
theorem f5_44 : zF 5 44 = some (.getfield 17, 3, [0, 1, 0], 0) := rfl
theorem f5_47 : zF 5 47 = some (.iconst 1, 1, [], 0) := rfl
theorem f5_48 : zF 5 48 = some (.isub, 1, [], 0) := rfl
theorem f5_49 : zF 5 49 = some (.putfield 17, 3, [0, 1, 0], 0) := rfl
theorem f5_52 : zF 5 52 = some (.return_, 1, [], 0) := rfl
theorem f6_0 : zF 6 0 = some (.aload_n 0, 1, [], 0) := rfl
theorem f6_1 : zF 6 1 = some (.invokespecial 3, 3, [8], 0) := rfl
theorem f6_4 : zF 6 4 = some (.aload_n 0, 1, [], 0) := rfl
theorem f6_5 : zF 6 5 = some (.bipush 6, 2, [], 0) := rfl
theorem f6_7 : zF 6 7 = some (.newarray .int, 2, [], 0) := rfl
theorem f6_9 : zF 6 9 = some (.putfield 9, 3, [1, 0, 2], 0) := rfl
theorem f6_12 : zF 6 12 = some (.return_, 1, [], 0) := rfl
theorem f7_0 : zF 7 0 = some (.aload_n 0, 1, [], 0) := rfl
theorem f7_1 : zF 7 1 = some (.getfield 9, 3, [1, 0, 2], 0) := rfl
theorem f7_4 : zF 7 4 = some (.iconst 0, 1, [], 0) := rfl
theorem f7_5 : zF 7 5 = some (.invokestatic 15, 3, [1, 246, 0, 2, 4, 0, 0], 0) := rfl
theorem f7_8 : zF 7 8 = some (.iconst 0, 1, [], 0) := rfl
theorem f7_9 : zF 7 9 = some (.istore_n 2, 1, [], 0) := rfl
theorem f7_10 : zF 7 10 = some (.iload_n 2, 1, [], 0) := rfl
theorem f7_11 : zF 7 11 = some (.iconst 4, 1, [], 0) := rfl
theorem f7_12 : zF 7 12 = some (.if_icmp .ge 18, 3, [], 0) := rfl
theorem f7_15 : zF 7 15 = some (.aload_n 0, 1, [], 0) := rfl
theorem f7_16 : zF 7 16 = some (.aload_n 1, 1, [], 0) := rfl
theorem f7_17 : zF 7 17 = some (.iload_n 2, 1, [], 0) := rfl
theorem f7_18 : zF 7 18 = some (.invokevirtual 21, 3, [0, 54, 6, 2, 2, 0, 0], 0) := rfl
theorem f7_21 : zF 7 21 = some (.invokevirtual 27, 3, [0, 10, 1, 2, 6, 0, 0], 0) := rfl
theorem f7_24 : zF 7 24 = some (.iinc 2 1, 3, [], 0) := rfl
theorem f7_27 : zF 7 27 = some (.goto (-17), 3, [], 0) := rfl
theorem f7_30 : zF 7 30 = some (.return_, 1, [], 0) := rfl
theorem f8_0 : zF 8 0 = some (.aload_n 0, 1, [], 0) := rfl
theorem f8_1 : zF 8 1 = some (.getfield 9, 3, [1, 0, 2], 0) := rfl
theorem f8_4 : zF 8 4 = some (.iload_n 1, 1, [], 0) := rfl
theorem f8_5 : zF 8 5 = some (.iaload, 1, [], 0) := rfl
theorem f8_6 : zF 8 6 = some (.iload_n 2, 1, [], 0) := rfl
theorem f8_7 : zF 8 7 = some (.invokestatic 31, 3, [3, 147, 0, 2, 2, 0, 0], 0) := rfl
theorem f8_10 : zF 8 10 = some (.ireturn, 1, [1], 0) := rfl
theorem f9_0 : zF 9 0 = some (.bipush (-4), 2, [], 0) := rfl
theorem f9_2 : zF 9 2 = some (.istore_n 2, 1, [], 0) := rfl
theorem f9_3 : zF 9 3 = some (.iconst 0, 1, [], 0) := rfl
theorem f9_4 : zF 9 4 = some (.istore_n 3, 1, [], 0) := rfl
theorem f9_5 : zF 9 5 = some (.iconst 0, 1, [], 0) := rfl
theorem f9_6 : zF 9 6 = some (.istore 4, 2, [], 0) := rfl
theorem f9_8 : zF 9 8 = some (.iload 4, 2, [], 0) := rfl
theorem f9_10 : zF 9 10 = some (.bipush 6, 2, [], 0) := rfl
theorem f9_12 : zF 9 12 = some (.if_icmp .ge 50, 3, [], 0) := rfl
theorem f9_15 : zF 9 15 = some (.aload_n 0, 1, [], 0) := rfl
theorem f9_16 : zF 9 16 = some (.iload 4, 2, [], 0) := rfl
theorem f9_18 : zF 9 18 = some (.invokevirtual 35, 3, [0, 11, 1, 2, 4, 0, 0], 0) := rfl
theorem f9_21 : zF 9 21 = some (.istore 5, 2, [], 0) := rfl
theorem f9_23 : zF 9 23 = some (.iload 5, 2, [], 0) := rfl
theorem f9_25 : zF 9 25 = some (.bipush (-4), 2, [], 0) := rfl
theorem f9_27 : zF 9 27 = some (.if_icmp .eq 29, 3, [], 0) := rfl
theorem f9_30 : zF 9 30 = some (.iload_n 3, 1, [], 0) := rfl
theorem f9_31 : zF 9 31 = some (.iload 4, 2, [], 0) := rfl
theorem f9_33 : zF 9 33 = some (.invokestatic 39, 3, [3, 146, 0, 1, 1, 0, 0], 0) := rfl
theorem f9_36 : zF 9 36 = some (.ior, 1, [], 0) := rfl
theorem f9_37 : zF 9 37 = some (.istore_n 3, 1, [], 0) := rfl
theorem f9_38 : zF 9 38 = some (.iload_n 2, 1, [], 0) := rfl
theorem f9_39 : zF 9 39 = some (.bipush (-4), 2, [], 0) := rfl
theorem f9_41 : zF 9 41 = some (.if_icmp .ne 8, 3, [], 0) := rfl
theorem f9_44 : zF 9 44 = some (.iload 5, 2, [], 0) := rfl
theorem f9_46 : zF 9 46 = some (.goto 9, 3, [], 0) := rfl
theorem f9_49 : zF 9 49 = some (.iload_n 2, 1, [], 0) := rfl
theorem f9_50 : zF 9 50 = some (.iload 5, 2, [], 0) := rfl
theorem f9_52 : zF 9 52 = some (.invokestatic 42, 3, [10], 0) := rfl
theorem f9_55 : zF 9 55 = some (.istore_n 2, 1, [], 0) := rfl
theorem f9_56 : zF 9 56 = some (.iinc 4 1, 3, [], 0) := rfl
theorem f9_59 : zF 9 59 = some (.goto (-51), 3, [], 0) := rfl
theorem f9_62 : zF 9 62 = some (.iload_n 1, 1, [], 0) := rfl
theorem f9_63 : zF 9 63 = some (.ifCond .ne 13, 3, [], 0) := rfl
theorem f9_66 : zF 9 66 = some (.iload_n 3, 1, [], 0) := rfl
theorem f9_67 : zF 9 67 = some (.ifCond .eq 7, 3, [], 0) := rfl
theorem f9_70 : zF 9 70 = some (.iconst 1, 1, [], 0) := rfl
theorem f9_71 : zF 9 71 = some (.goto 4, 3, [], 0) := rfl
theorem f9_74 : zF 9 74 = some (.iconst 0, 1, [], 0) := rfl
theorem f9_75 : zF 9 75 = some (.ireturn, 1, [0], 0) := rfl
theorem f9_76 : zF 9 76 = some (.iload_n 1, 1, [], 0) := rfl
theorem f9_77 : zF 9 77 = some (.iconst 1, 1, [], 0) := rfl
theorem f9_78 : zF 9 78 = some (.if_icmp .ne 7, 3, [], 0) := rfl
theorem f9_81 : zF 9 81 = some (.iload_n 2, 1, [], 0) := rfl
theorem f9_82 : zF 9 82 = some (.goto 4, 3, [], 0) := rfl
theorem f9_85 : zF 9 85 = some (.iload_n 3, 1, [], 0) := rfl
theorem f9_86 : zF 9 86 = some (.ireturn, 1, [0], 0) := rfl
theorem f10_0 : zF 10 0 = some (.iconst 0, 1, [], 0) := rfl
theorem f10_1 : zF 10 1 = some (.istore_n 2, 1, [], 0) := rfl
theorem f10_2 : zF 10 2 = some (.iload_n 2, 1, [], 0) := rfl
theorem f10_3 : zF 10 3 = some (.aload_n 1, 1, [], 0) := rfl
theorem f10_4 : zF 10 4 = some (.invokevirtual 48, 3, [0, 99, 8, 1, 1, 0, 0], 0) := rfl
theorem f10_7 : zF 10 7 = some (.if_icmp .ge 77, 3, [], 0) := rfl
theorem f10_10 : zF 10 10 = some (.aload_n 1, 1, [], 0) := rfl
theorem f10_11 : zF 10 11 = some (.iload_n 2, 1, [], 0) := rfl
theorem f10_12 : zF 10 12 = some (.invokevirtual 54, 3, [0, 107, 8, 2, 2, 0, 0], 0) := rfl
theorem f10_15 : zF 10 15 = some (.istore_n 3, 1, [], 0) := rfl
theorem f10_16 : zF 10 16 = some (.aload_n 1, 1, [], 0) := rfl
theorem f10_17 : zF 10 17 = some (.iload_n 2, 1, [], 0) := rfl
theorem f10_18 : zF 10 18 = some (.invokevirtual 57, 3, [0, 106, 8, 2, 2, 0, 0], 0) := rfl
theorem f10_21 : zF 10 21 = some (.istore 4, 2, [], 0) := rfl
theorem f10_23 : zF 10 23 = some (.iload_n 3, 1, [], 0) := rfl
theorem f10_24 : zF 10 24 = some (.bipush (-4), 2, [], 0) := rfl
theorem f10_26 : zF 10 26 = some (.if_icmp .eq 52, 3, [], 0) := rfl
theorem f10_29 : zF 10 29 = some (.iload 4, 2, [], 0) := rfl
theorem f10_31 : zF 10 31 = some (.iload_n 3, 1, [], 0) := rfl
theorem f10_32 : zF 10 32 = some (.invokestatic 31, 3, [3, 147, 0, 2, 2, 0, 0], 0) := rfl
theorem f10_35 : zF 10 35 = some (.ifCond .ne 43, 3, [], 0) := rfl
theorem f10_38 : zF 10 38 = some (.iconst 0, 1, [], 0) := rfl
theorem f10_39 : zF 10 39 = some (.istore 5, 2, [], 0) := rfl
theorem f10_41 : zF 10 41 = some (.iload 5, 2, [], 0) := rfl
theorem f10_43 : zF 10 43 = some (.bipush 6, 2, [], 0) := rfl
theorem f10_45 : zF 10 45 = some (.if_icmp .ge 33, 3, [], 0) := rfl
theorem f10_48 : zF 10 48 = some (.iload 4, 2, [], 0) := rfl
theorem f10_50 : zF 10 50 = some (.iload 5, 2, [], 0) := rfl
theorem f10_52 : zF 10 52 = some (.invokestatic 31, 3, [3, 147, 0, 2, 2, 0, 0], 0) := rfl
theorem f10_55 : zF 10 55 = some (.ifCond .eq 17, 3, [], 0) := rfl
theorem f10_58 : zF 10 58 = some (.aload_n 0, 1, [], 0) := rfl
theorem f10_59 : zF 10 59 = some (.getfield 9, 3, [1, 0, 2], 0) := rfl
theorem f10_62 : zF 10 62 = some (.iload 5, 2, [], 0) := rfl
theorem f10_64 : zF 10 64 = some (.dup2, 1, [], 0) := rfl
theorem f10_65 : zF 10 65 = some (.iaload, 1, [], 0) := rfl
theorem f10_66 : zF 10 66 = some (.iload_n 3, 1, [], 0) := rfl
theorem f10_67 : zF 10 67 = some (.invokestatic 39, 3, [3, 146, 0, 1, 1, 0, 0], 0) := rfl
theorem f10_70 : zF 10 70 = some (.ior, 1, [], 0) := rfl
theorem f10_71 : zF 10 71 = some (.iastore, 1, [], 0) := rfl
theorem f10_72 : zF 10 72 = some (.iinc 5 1, 3, [], 0) := rfl
theorem f10_75 : zF 10 75 = some (.goto (-34), 3, [], 0) := rfl
theorem f10_78 : zF 10 78 = some (.iinc 2 1, 3, [], 0) := rfl
theorem f10_81 : zF 10 81 = some (.goto (-79), 3, [], 0) := rfl
theorem f10_84 : zF 10 84 = some (.return_, 1, [], 0) := rfl
theorem f11_0 : zF 11 0 = some (.iload_n 1, 1, [], 0) := rfl
theorem f11_1 : zF 11 1 = some (.invokestatic 39, 3, [3, 146, 0, 1, 1, 0, 0], 0) := rfl
theorem f11_4 : zF 11 4 = some (.istore_n 2, 1, [], 0) := rfl
theorem f11_5 : zF 11 5 = some (.iconst 1, 1, [], 0) := rfl
theorem f11_6 : zF 11 6 = some (.istore_n 3, 1, [], 0) := rfl
theorem f11_7 : zF 11 7 = some (.iload_n 3, 1, [], 0) := rfl
theorem f11_8 : zF 11 8 = some (.bipush 6, 2, [], 0) := rfl
theorem f11_10 : zF 11 10 = some (.if_icmp .gt 25, 3, [], 0) := rfl
theorem f11_13 : zF 11 13 = some (.aload_n 0, 1, [], 0) := rfl
theorem f11_14 : zF 11 14 = some (.iload_n 2, 1, [], 0) := rfl
theorem f11_15 : zF 11 15 = some (.invokevirtual 60, 3, [0, 12, 1, 2, 4, 0, 0], 0) := rfl
theorem f11_18 : zF 11 18 = some (.istore_n 2, 1, [], 0) := rfl
theorem f11_19 : zF 11 19 = some (.iload_n 2, 1, [], 0) := rfl
theorem f11_20 : zF 11 20 = some (.iload_n 1, 1, [], 0) := rfl
theorem f11_21 : zF 11 21 = some (.invokestatic 31, 3, [3, 147, 0, 2, 2, 0, 0], 0) := rfl
theorem f11_24 : zF 11 24 = some (.ifCond .eq 5, 3, [], 0) := rfl
theorem f11_27 : zF 11 27 = some (.iload_n 3, 1, [], 0) := rfl
theorem f11_28 : zF 11 28 = some (.ireturn, 1, [0], 0) := rfl
theorem f11_29 : zF 11 29 = some (.iinc 3 1, 3, [], 0) := rfl
theorem f11_32 : zF 11 32 = some (.goto (-25), 3, [], 0) := rfl
theorem f11_35 : zF 11 35 = some (.bipush (-4), 2, [], 0) := rfl
theorem f11_37 : zF 11 37 = some (.ireturn, 1, [0], 0) := rfl
theorem f12_0 : zF 12 0 = some (.iconst 0, 1, [], 0) := rfl
theorem f12_1 : zF 12 1 = some (.istore_n 2, 1, [], 0) := rfl
theorem f12_2 : zF 12 2 = some (.iconst 0, 1, [], 0) := rfl
theorem f12_3 : zF 12 3 = some (.istore_n 3, 1, [], 0) := rfl
theorem f12_4 : zF 12 4 = some (.iload_n 3, 1, [], 0) := rfl
theorem f12_5 : zF 12 5 = some (.bipush 6, 2, [], 0) := rfl
theorem f12_7 : zF 12 7 = some (.if_icmp .ge 26, 3, [], 0) := rfl
theorem f12_10 : zF 12 10 = some (.iload_n 1, 1, [], 0) := rfl
theorem f12_11 : zF 12 11 = some (.iload_n 3, 1, [], 0) := rfl
theorem f12_12 : zF 12 12 = some (.invokestatic 31, 3, [3, 147, 0, 2, 2, 0, 0], 0) := rfl
theorem f12_15 : zF 12 15 = some (.ifCond .eq 12, 3, [], 0) := rfl
theorem f12_18 : zF 12 18 = some (.iload_n 2, 1, [], 0) := rfl
theorem f12_19 : zF 12 19 = some (.aload_n 0, 1, [], 0) := rfl
theorem f12_20 : zF 12 20 = some (.getfield 9, 3, [1, 0, 2], 0) := rfl
theorem f12_23 : zF 12 23 = some (.iload_n 3, 1, [], 0) := rfl
theorem f12_24 : zF 12 24 = some (.iaload, 1, [], 0) := rfl
theorem f12_25 : zF 12 25 = some (.ior, 1, [], 0) := rfl
theorem f12_26 : zF 12 26 = some (.istore_n 2, 1, [], 0) := rfl
theorem f12_27 : zF 12 27 = some (.iinc 3 1, 3, [], 0) := rfl
theorem f12_30 : zF 12 30 = some (.goto (-26), 3, [], 0) := rfl
theorem f12_33 : zF 12 33 = some (.iload_n 2, 1, [], 0) := rfl
theorem f12_34 : zF 12 34 = some (.ireturn, 1, [0], 0) := rfl
theorem f13_0 : zF 13 0 = some (.aload_n 0, 1, [], 0) := rfl
theorem f13_1 : zF 13 1 = some (.invokespecial 3, 3, [8], 0) := rfl
theorem f13_4 : zF 13 4 = some (.aload_n 0, 1, [], 0) := rfl
theorem f13_5 : zF 13 5 = some (.bipush 31, 2, [], 0) := rfl
theorem f13_7 : zF 13 7 = some (.newarray .long, 2, [], 0) := rfl
theorem f13_9 : zF 13 9 = some (.putfield 9, 3, [2, 0, 2], 0) := rfl
theorem f13_12 : zF 13 12 = some (.aload_n 0, 1, [], 0) := rfl
theorem f13_13 : zF 13 13 = some (.bipush 31, 2, [], 0) := rfl
theorem f13_15 : zF 13 15 = some (.newarray .long, 2, [], 0) := rfl
theorem f13_17 : zF 13 17 = some (.putfield 15, 3, [2, 1, 2], 0) := rfl
theorem f13_20 : zF 13 20 = some (.aload_n 0, 1, [], 0) := rfl
theorem f13_21 : zF 13 21 = some (.lconst 0, 1, [], 0) := rfl
theorem f13_22 : zF 13 22 = some (.putfield 18, 3, [2, 2, 1], 0) := rfl
theorem f13_25 : zF 13 25 = some (.aload_n 0, 1, [], 0) := rfl
theorem f13_26 : zF 13 26 = some (.lconst 0, 1, [], 0) := rfl
theorem f13_27 : zF 13 27 = some (.putfield 22, 3, [2, 3, 1], 0) := rfl
theorem f13_30 : zF 13 30 = some (.aload_n 0, 1, [], 0) := rfl
theorem f13_31 : zF 13 31 = some (.lconst 0, 1, [], 0) := rfl
theorem f13_32 : zF 13 32 = some (.putfield 25, 3, [2, 4, 1], 0) := rfl
theorem f13_35 : zF 13 35 = some (.aload_n 0, 1, [], 0) := rfl
theorem f13_36 : zF 13 36 = some (.bipush (-4), 2, [], 0) := rfl
theorem f13_38 : zF 13 38 = some (.putfield 28, 3, [2, 5, 0], 0) := rfl
theorem f13_41 : zF 13 41 = some (.aload_n 0, 1, [], 0) := rfl
theorem f13_42 : zF 13 42 = some (.aload_n 1, 1, [], 0) := rfl
theorem f13_43 : zF 13 43 = some (.putfield 32, 3, [2, 6, 2], 0) := rfl
theorem f13_46 : zF 13 46 = some (.aload_n 0, 1, [], 0) := rfl
theorem f13_47 : zF 13 47 = some (.aload_n 1, 1, [], 0) := rfl
theorem f13_48 : zF 13 48 = some (.putfield 36, 3, [2, 7, 2], 0) := rfl
theorem f13_51 : zF 13 51 = some (.return_, 1, [], 0) := rfl
theorem f14_0 : zF 14 0 = some (.aload_n 0, 1, [], 0) := rfl
theorem f14_1 : zF 14 1 = some (.getfield 18, 3, [2, 2, 1], 0) := rfl
theorem f14_4 : zF 14 4 = some (.lreturn, 1, [], 0) := rfl
theorem f15_0 : zF 15 0 = some (.aload_n 0, 1, [], 0) := rfl
theorem f15_1 : zF 15 1 = some (.getfield 22, 3, [2, 3, 1], 0) := rfl
theorem f15_4 : zF 15 4 = some (.lreturn, 1, [], 0) := rfl
theorem f16_0 : zF 16 0 = some (.aload_n 0, 1, [], 0) := rfl
theorem f16_1 : zF 16 1 = some (.getfield 28, 3, [2, 5, 0], 0) := rfl
theorem f16_4 : zF 16 4 = some (.ireturn, 1, [0], 0) := rfl
theorem f17_0 : zF 17 0 = some (.aload_n 0, 1, [], 0) := rfl
theorem f17_1 : zF 17 1 = some (.getfield 25, 3, [2, 4, 1], 0) := rfl
theorem f17_4 : zF 17 4 = some (.aload_n 0, 1, [], 0) := rfl
theorem f17_5 : zF 17 5 = some (.invokevirtual 39, 3, [0, 22, 2, 1, 2, 0, 0], 0) := rfl
theorem f17_8 : zF 17 8 = some (.lshr, 1, [], 0) := rfl
theorem f17_9 : zF 17 9 = some (.lreturn, 1, [], 0) := rfl
theorem f18_0 : zF 18 0 = some (.ldc2_w 43, 3, [], 1152921504606846976) := rfl
theorem f18_3 : zF 18 3 = some (.aload_n 0, 1, [], 0) := rfl
theorem f18_4 : zF 18 4 = some (.invokevirtual 39, 3, [0, 22, 2, 1, 2, 0, 0], 0) := rfl
theorem f18_7 : zF 18 7 = some (.lshr, 1, [], 0) := rfl
theorem f18_8 : zF 18 8 = some (.lreturn, 1, [], 0) := rfl
theorem f19_0 : zF 19 0 = some (.aload_n 0, 1, [], 0) := rfl
theorem f19_1 : zF 19 1 = some (.aload_n 1, 1, [], 0) := rfl
theorem f19_2 : zF 19 2 = some (.putfield 32, 3, [2, 6, 2], 0) := rfl
theorem f19_5 : zF 19 5 = some (.aload_n 0, 1, [], 0) := rfl
theorem f19_6 : zF 19 6 = some (.aload_n 2, 1, [], 0) := rfl
theorem f19_7 : zF 19 7 = some (.putfield 36, 3, [2, 7, 2], 0) := rfl
theorem f19_10 : zF 19 10 = some (.aload_n 0, 1, [], 0) := rfl
theorem f19_11 : zF 19 11 = some (.lconst 0, 1, [], 0) := rfl
theorem f19_12 : zF 19 12 = some (.putfield 18, 3, [2, 2, 1], 0) := rfl
theorem f19_15 : zF 19 15 = some (.aload_n 0, 1, [], 0) := rfl
theorem f19_16 : zF 19 16 = some (.lconst 0, 1, [], 0) := rfl
theorem f19_17 : zF 19 17 = some (.putfield 22, 3, [2, 3, 1], 0) := rfl
theorem f19_20 : zF 19 20 = some (.aload_n 0, 1, [], 0) := rfl
theorem f19_21 : zF 19 21 = some (.lconst 0, 1, [], 0) := rfl
theorem f19_22 : zF 19 22 = some (.putfield 25, 3, [2, 4, 1], 0) := rfl
theorem f19_25 : zF 19 25 = some (.aload_n 0, 1, [], 0) := rfl
theorem f19_26 : zF 19 26 = some (.bipush (-4), 2, [], 0) := rfl
theorem f19_28 : zF 19 28 = some (.putfield 28, 3, [2, 5, 0], 0) := rfl
theorem f19_31 : zF 19 31 = some (.aload_n 0, 1, [], 0) := rfl
theorem f19_32 : zF 19 32 = some (.getfield 9, 3, [2, 0, 2], 0) := rfl
theorem f19_35 : zF 19 35 = some (.lconst 0, 1, [], 0) := rfl
theorem f19_36 : zF 19 36 = some (.invokestatic 45, 3, [1, 245, 0, 2, 5, 0, 0], 0) := rfl
theorem f19_39 : zF 19 39 = some (.aload_n 0, 1, [], 0) := rfl
theorem f19_40 : zF 19 40 = some (.getfield 15, 3, [2, 1, 2], 0) := rfl
theorem f19_43 : zF 19 43 = some (.lconst 0, 1, [], 0) := rfl
theorem f19_44 : zF 19 44 = some (.invokestatic 45, 3, [1, 245, 0, 2, 5, 0, 0], 0) := rfl
theorem f19_47 : zF 19 47 = some (.aload_n 0, 1, [], 0) := rfl
theorem f19_48 : zF 19 48 = some (.getfield 9, 3, [2, 0, 2], 0) := rfl
theorem f19_51 : zF 19 51 = some (.iconst 0, 1, [], 0) := rfl
theorem f19_52 : zF 19 52 = some (.lconst 1, 1, [], 0) := rfl
theorem f19_53 : zF 19 53 = some (.lastore, 1, [], 0) := rfl
theorem f19_54 : zF 19 54 = some (.aload_n 0, 1, [], 0) := rfl
theorem f19_55 : zF 19 55 = some (.getfield 15, 3, [2, 1, 2], 0) := rfl
theorem f19_58 : zF 19 58 = some (.iconst 0, 1, [], 0) := rfl
theorem f19_59 : zF 19 59 = some (.ldc2_w 43, 3, [], 1152921504606846976) := rfl
theorem f19_62 : zF 19 62 = some (.lastore, 1, [], 0) := rfl
theorem f19_63 : zF 19 63 = some (.iconst 0, 1, [], 0) := rfl
theorem f19_64 : zF 19 64 = some (.istore_n 3, 1, [], 0) := rfl
theorem f19_65 : zF 19 65 = some (.iload_n 3, 1, [], 0) := rfl
theorem f19_66 : zF 19 66 = some (.aload_n 1, 1, [], 0) := rfl
theorem f19_67 : zF 19 67 = some (.invokevirtual 51, 3, [0, 99, 8, 1, 1, 0, 0], 0) := rfl
theorem f19_70 : zF 19 70 = some (.if_icmp .gt 46, 3, [], 0) := rfl
theorem f19_73 : zF 19 73 = some (.iconst 0, 1, [], 0) := rfl
theorem f19_74 : zF 19 74 = some (.istore 4, 2, [], 0) := rfl
theorem f19_76 : zF 19 76 = some (.iload 4, 2, [], 0) := rfl
theorem f19_78 : zF 19 78 = some (.aload_n 2, 1, [], 0) := rfl
theorem f19_79 : zF 19 79 = some (.invokevirtual 51, 3, [0, 99, 8, 1, 1, 0, 0], 0) := rfl
theorem f19_82 : zF 19 82 = some (.if_icmp .gt 28, 3, [], 0) := rfl
theorem f19_85 : zF 19 85 = some (.aload_n 0, 1, [], 0) := rfl
theorem f19_86 : zF 19 86 = some (.getfield 9, 3, [2, 0, 2], 0) := rfl
theorem f19_89 : zF 19 89 = some (.iload 4, 2, [], 0) := rfl
theorem f19_91 : zF 19 91 = some (.laload, 1, [], 0) := rfl
theorem f19_92 : zF 19 92 = some (.lconst 0, 1, [], 0) := rfl
theorem f19_93 : zF 19 93 = some (.lcmp, 1, [], 0) := rfl
theorem f19_94 : zF 19 94 = some (.ifCond .eq 10, 3, [], 0) := rfl
theorem f19_97 : zF 19 97 = some (.aload_n 0, 1, [], 0) := rfl
theorem f19_98 : zF 19 98 = some (.iload_n 3, 1, [], 0) := rfl
theorem f19_99 : zF 19 99 = some (.iload 4, 2, [], 0) := rfl
theorem f19_101 : zF 19 101 = some (.invokevirtual 56, 3, [0, 20, 2, 3, 11, 0, 0], 0) := rfl
theorem f19_104 : zF 19 104 = some (.iinc 4 1, 3, [], 0) := rfl
theorem f19_107 : zF 19 107 = some (.goto (-31), 3, [], 0) := rfl
theorem f19_110 : zF 19 110 = some (.iinc 3 1, 3, [], 0) := rfl
theorem f19_113 : zF 19 113 = some (.goto (-48), 3, [], 0) := rfl
theorem f19_116 : zF 19 116 = some (.return_, 1, [], 0) := rfl
theorem f20_0 : zF 20 0 = some (.aload_n 0, 1, [], 0) := rfl
theorem f20_1 : zF 20 1 = some (.getfield 9, 3, [2, 0, 2], 0) := rfl
theorem f20_4 : zF 20 4 = some (.iload_n 2, 1, [], 0) := rfl
theorem f20_5 : zF 20 5 = some (.laload, 1, [], 0) := rfl
theorem f20_6 : zF 20 6 = some (.lstore_n 3, 1, [], 0) := rfl
theorem f20_7 : zF 20 7 = some (.aload_n 0, 1, [], 0) := rfl
theorem f20_8 : zF 20 8 = some (.getfield 15, 3, [2, 1, 2], 0) := rfl
theorem f20_11 : zF 20 11 = some (.iload_n 2, 1, [], 0) := rfl
theorem f20_12 : zF 20 12 = some (.laload, 1, [], 0) := rfl
theorem f20_13 : zF 20 13 = some (.lstore 5, 2, [], 0) := rfl
theorem f20_15 : zF 20 15 = some (.aload_n 0, 1, [], 0) := rfl
theorem f20_16 : zF 20 16 = some (.getfield 32, 3, [2, 6, 2], 0) := rfl
theorem f20_19 : zF 20 19 = some (.iload_n 1, 1, [], 0) := rfl
theorem f20_20 : zF 20 20 = some (.aload_n 0, 1, [], 0) := rfl
theorem f20_21 : zF 20 21 = some (.getfield 36, 3, [2, 7, 2], 0) := rfl
theorem f20_24 : zF 20 24 = some (.iload_n 2, 1, [], 0) := rfl
theorem f20_25 : zF 20 25 = some (.invokevirtual 60, 3, [0, 106, 8, 2, 2, 0, 0], 0) := rfl
theorem f20_28 : zF 20 28 = some (.invokevirtual 64, 3, [0, 108, 8, 3, 4, 0, 0], 0) := rfl
theorem f20_31 : zF 20 31 = some (.istore 7, 2, [], 0) := rfl
theorem f20_33 : zF 20 33 = some (.aload_n 0, 1, [], 0) := rfl
theorem f20_34 : zF 20 34 = some (.getfield 36, 3, [2, 7, 2], 0) := rfl
theorem f20_37 : zF 20 37 = some (.iload_n 2, 1, [], 0) := rfl
theorem f20_38 : zF 20 38 = some (.aload_n 0, 1, [], 0) := rfl
theorem f20_39 : zF 20 39 = some (.getfield 32, 3, [2, 6, 2], 0) := rfl
theorem f20_42 : zF 20 42 = some (.iload_n 1, 1, [], 0) := rfl
theorem f20_43 : zF 20 43 = some (.invokevirtual 60, 3, [0, 106, 8, 2, 2, 0, 0], 0) := rfl
theorem f20_46 : zF 20 46 = some (.invokevirtual 64, 3, [0, 108, 8, 3, 4, 0, 0], 0) := rfl
theorem f20_49 : zF 20 49 = some (.istore 8, 2, [], 0) := rfl
theorem f20_51 : zF 20 51 = some (.iload 7, 2, [], 0) := rfl
theorem f20_53 : zF 20 53 = some (.ifCond .eq 17, 3, [], 0) := rfl
theorem f20_56 : zF 20 56 = some (.iload 8, 2, [], 0) := rfl
theorem f20_58 : zF 20 58 = some (.ifCond .eq 12, 3, [], 0) := rfl
theorem f20_61 : zF 20 61 = some (.lload 5, 2, [], 0) := rfl
theorem f20_63 : zF 20 63 = some (.ldc2_w 68, 3, [], 2) := rfl
theorem f20_66 : zF 20 66 = some (.ldiv, 1, [], 0) := rfl
theorem f20_67 : zF 20 67 = some (.goto 5, 3, [], 0) := rfl
theorem f20_70 : zF 20 70 = some (.lload 5, 2, [], 0) := rfl
theorem f20_72 : zF 20 72 = some (.lstore 9, 2, [], 0) := rfl
theorem f20_74 : zF 20 74 = some (.iload 7, 2, [], 0) := rfl
theorem f20_76 : zF 20 76 = some (.ifCond .ne 20, 3, [], 0) := rfl
theorem f20_79 : zF 20 79 = some (.aload_n 0, 1, [], 0) := rfl
theorem f20_80 : zF 20 80 = some (.getfield 9, 3, [2, 0, 2], 0) := rfl
theorem f20_83 : zF 20 83 = some (.iload_n 2, 1, [], 0) := rfl
theorem f20_84 : zF 20 84 = some (.lconst 0, 1, [], 0) := rfl
theorem f20_85 : zF 20 85 = some (.lastore, 1, [], 0) := rfl
theorem f20_86 : zF 20 86 = some (.aload_n 0, 1, [], 0) := rfl
theorem f20_87 : zF 20 87 = some (.getfield 15, 3, [2, 1, 2], 0) := rfl
theorem f20_90 : zF 20 90 = some (.iload_n 2, 1, [], 0) := rfl
theorem f20_91 : zF 20 91 = some (.lconst 0, 1, [], 0) := rfl
theorem f20_92 : zF 20 92 = some (.lastore, 1, [], 0) := rfl
theorem f20_93 : zF 20 93 = some (.goto 11, 3, [], 0) := rfl
theorem f20_96 : zF 20 96 = some (.aload_n 0, 1, [], 0) := rfl
theorem f20_97 : zF 20 97 = some (.getfield 15, 3, [2, 1, 2], 0) := rfl
theorem f20_100 : zF 20 100 = some (.iload_n 2, 1, [], 0) := rfl
theorem f20_101 : zF 20 101 = some (.lload 9, 2, [], 0) := rfl
theorem f20_103 : zF 20 103 = some (.lastore, 1, [], 0) := rfl
theorem f20_104 : zF 20 104 = some (.iload 8, 2, [], 0) := rfl
theorem f20_106 : zF 20 106 = some (.ifCond .eq 34, 3, [], 0) := rfl
theorem f20_109 : zF 20 109 = some (.iload_n 2, 1, [], 0) := rfl
theorem f20_110 : zF 20 110 = some (.bipush 30, 2, [], 0) := rfl
theorem f20_112 : zF 20 112 = some (.if_icmp .ge 28, 3, [], 0) := rfl
theorem f20_115 : zF 20 115 = some (.aload_n 0, 1, [], 0) := rfl
theorem f20_116 : zF 20 116 = some (.getfield 9, 3, [2, 0, 2], 0) := rfl
theorem f20_119 : zF 20 119 = some (.iload_n 2, 1, [], 0) := rfl
theorem f20_120 : zF 20 120 = some (.iconst 1, 1, [], 0) := rfl
theorem f20_121 : zF 20 121 = some (.iadd, 1, [], 0) := rfl
theorem f20_122 : zF 20 122 = some (.dup2, 1, [], 0) := rfl
theorem f20_123 : zF 20 123 = some (.laload, 1, [], 0) := rfl
theorem f20_124 : zF 20 124 = some (.lload_n 3, 1, [], 0) := rfl
theorem f20_125 : zF 20 125 = some (.ladd, 1, [], 0) := rfl
theorem f20_126 : zF 20 126 = some (.lastore, 1, [], 0) := by decide +kernel
theorem f20_127 : zF 20 127 = some (.aload_n 0, 1, [], 0) := by decide +kernel
theorem f20_128 : zF 20 128 = some (.getfield 15, 3, [2, 1, 2], 0) := by decide +kernel
theorem f20_131 : zF 20 131 = some (.iload_n 2, 1, [], 0) := by decide +kernel
theorem f20_132 : zF 20 132 = some (.iconst 1, 1, [], 0) := by decide +kernel
theorem f20_133 : zF 20 133 = some (.iadd, 1, [], 0) := by decide +kernel
theorem f20_134 : zF 20 134 = some (.dup2, 1, [], 0) := by decide +kernel
theorem f20_135 : zF 20 135 = some (.laload, 1, [], 0) := by decide +kernel
theorem f20_136 : zF 20 136 = some (.lload 9, 2, [], 0) := by decide +kernel
theorem f20_138 : zF 20 138 = some (.ladd, 1, [], 0) := by decide +kernel
theorem f20_139 : zF 20 139 = some (.lastore, 1, [], 0) := by decide +kernel
theorem f20_140 : zF 20 140 = some (.iload 7, 2, [], 0) := by decide +kernel
theorem f20_142 : zF 20 142 = some (.ifCond .ne 17, 3, [], 0) := by decide +kernel
theorem f20_145 : zF 20 145 = some (.iload 8, 2, [], 0) := by decide +kernel
theorem f20_147 : zF 20 147 = some (.ifCond .ne 12, 3, [], 0) := by decide +kernel
theorem f20_150 : zF 20 150 = some (.aload_n 0, 1, [], 0) := by decide +kernel
theorem f20_151 : zF 20 151 = some (.iload_n 1, 1, [], 0) := by decide +kernel
theorem f20_152 : zF 20 152 = some (.iload_n 2, 1, [], 0) := by decide +kernel
theorem f20_153 : zF 20 153 = some (.lload_n 3, 1, [], 0) := by decide +kernel
theorem f20_154 : zF 20 154 = some (.lload 5, 2, [], 0) := by decide +kernel
theorem f20_156 : zF 20 156 = some (.invokevirtual 70, 3, [0, 21, 2, 5, 7, 0, 0], 0) := by decide +kernel
theorem f20_159 : zF 20 159 = some (.return_, 1, [], 0) := by decide +kernel
theorem f21_0 : zF 21 0 = some (.iload_n 1, 1, [], 0) := rfl
theorem f21_1 : zF 21 1 = some (.aload_n 0, 1, [], 0) := rfl
theorem f21_2 : zF 21 2 = some (.getfield 32, 3, [2, 6, 2], 0) := rfl
theorem f21_5 : zF 21 5 = some (.invokevirtual 51, 3, [0, 99, 8, 1, 1, 0, 0], 0) := rfl
theorem f21_8 : zF 21 8 = some (.if_icmp .ne 25, 3, [], 0) := rfl
theorem f21_11 : zF 21 11 = some (.iload_n 2, 1, [], 0) := rfl
theorem f21_12 : zF 21 12 = some (.aload_n 0, 1, [], 0) := rfl
theorem f21_13 : zF 21 13 = some (.getfield 36, 3, [2, 7, 2], 0) := rfl
theorem f21_16 : zF 21 16 = some (.invokevirtual 51, 3, [0, 99, 8, 1, 1, 0, 0], 0) := rfl
theorem f21_19 : zF 21 19 = some (.if_icmp .ne 14, 3, [], 0) := rfl
theorem f21_22 : zF 21 22 = some (.aload_n 0, 1, [], 0) := rfl
theorem f21_23 : zF 21 23 = some (.dup, 1, [], 0) := rfl
theorem f21_24 : zF 21 24 = some (.getfield 18, 3, [2, 2, 1], 0) := rfl
theorem f21_27 : zF 21 27 = some (.lload_n 3, 1, [], 0) := rfl
theorem f21_28 : zF 21 28 = some (.ladd, 1, [], 0) := rfl
theorem f21_29 : zF 21 29 = some (.putfield 18, 3, [2, 2, 1], 0) := rfl
theorem f21_32 : zF 21 32 = some (.return_, 1, [], 0) := rfl
theorem f21_33 : zF 21 33 = some (.aload_n 0, 1, [], 0) := rfl
theorem f21_34 : zF 21 34 = some (.dup, 1, [], 0) := rfl
theorem f21_35 : zF 21 35 = some (.getfield 22, 3, [2, 3, 1], 0) := rfl
theorem f21_38 : zF 21 38 = some (.lload_n 3, 1, [], 0) := rfl
theorem f21_39 : zF 21 39 = some (.ladd, 1, [], 0) := rfl
theorem f21_40 : zF 21 40 = some (.putfield 22, 3, [2, 3, 1], 0) := rfl
theorem f21_43 : zF 21 43 = some (.aload_n 0, 1, [], 0) := rfl
theorem f21_44 : zF 21 44 = some (.dup, 1, [], 0) := rfl
theorem f21_45 : zF 21 45 = some (.getfield 25, 3, [2, 4, 1], 0) := rfl
theorem f21_48 : zF 21 48 = some (.lload 5, 2, [], 0) := rfl
theorem f21_50 : zF 21 50 = some (.ladd, 1, [], 0) := rfl
theorem f21_51 : zF 21 51 = some (.putfield 25, 3, [2, 4, 1], 0) := rfl
theorem f21_54 : zF 21 54 = some (.aload_n 0, 1, [], 0) := rfl
theorem f21_55 : zF 21 55 = some (.aload_n 0, 1, [], 0) := rfl
theorem f21_56 : zF 21 56 = some (.getfield 28, 3, [2, 5, 0], 0) := rfl
theorem f21_59 : zF 21 59 = some (.bipush (-4), 2, [], 0) := rfl
theorem f21_61 : zF 21 61 = some (.if_icmp .ne 9, 3, [], 0) := rfl
theorem f21_64 : zF 21 64 = some (.iload_n 1, 1, [], 0) := rfl
theorem f21_65 : zF 21 65 = some (.iload_n 2, 1, [], 0) := rfl
theorem f21_66 : zF 21 66 = some (.iadd, 1, [], 0) := rfl
theorem f21_67 : zF 21 67 = some (.goto 13, 3, [], 0) := rfl
theorem f21_70 : zF 21 70 = some (.aload_n 0, 1, [], 0) := rfl
theorem f21_71 : zF 21 71 = some (.getfield 28, 3, [2, 5, 0], 0) := rfl
theorem f21_74 : zF 21 74 = some (.iload_n 1, 1, [], 0) := rfl
theorem f21_75 : zF 21 75 = some (.iload_n 2, 1, [], 0) := rfl
theorem f21_76 : zF 21 76 = some (.iadd, 1, [], 0) := rfl
theorem f21_77 : zF 21 77 = some (.invokestatic 74, 3, [10], 0) := rfl
theorem f21_80 : zF 21 80 = some (.putfield 28, 3, [2, 5, 0], 0) := rfl
theorem f21_83 : zF 21 83 = some (.return_, 1, [], 0) := rfl
theorem f22_0 : zF 22 0 = some (.iconst 0, 1, [], 0) := rfl
theorem f22_1 : zF 22 1 = some (.istore_n 1, 1, [], 0) := rfl
theorem f22_2 : zF 22 2 = some (.iload_n 1, 1, [], 0) := rfl
theorem f22_3 : zF 22 3 = some (.bipush 60, 2, [], 0) := rfl
theorem f22_5 : zF 22 5 = some (.if_icmp .ge 24, 3, [], 0) := rfl
theorem f22_8 : zF 22 8 = some (.aload_n 0, 1, [], 0) := rfl
theorem f22_9 : zF 22 9 = some (.getfield 25, 3, [2, 4, 1], 0) := rfl
theorem f22_12 : zF 22 12 = some (.iload_n 1, 1, [], 0) := rfl
theorem f22_13 : zF 22 13 = some (.lshr, 1, [], 0) := rfl
theorem f22_14 : zF 22 14 = some (.ldc2_w 68, 3, [], 2) := rfl
theorem f22_17 : zF 22 17 = some (.lrem, 1, [], 0) := rfl
theorem f22_18 : zF 22 18 = some (.lconst 0, 1, [], 0) := rfl
theorem f22_19 : zF 22 19 = some (.lcmp, 1, [], 0) := rfl
theorem f22_20 : zF 22 20 = some (.ifCond .ne 9, 3, [], 0) := rfl
theorem f22_23 : zF 22 23 = some (.iinc 1 1, 3, [], 0) := rfl
theorem f22_26 : zF 22 26 = some (.goto (-24), 3, [], 0) := rfl
theorem f22_29 : zF 22 29 = some (.iload_n 1, 1, [], 0) := rfl
theorem f22_30 : zF 22 30 = some (.ireturn, 1, [0], 0) := rfl
theorem f23_0 : zF 23 0 = some (.aload_n 0, 1, [], 0) := rfl
theorem f23_1 : zF 23 1 = some (.invokespecial 3, 3, [8], 0) := rfl
theorem f23_4 : zF 23 4 = some (.aload_n 0, 1, [], 0) := rfl
theorem f23_5 : zF 23 5 = some (.new 9, 3, [4, 1], 0) := rfl
theorem f23_8 : zF 23 8 = some (.dup, 1, [], 0) := rfl
theorem f23_9 : zF 23 9 = some (.iconst 0, 1, [], 0) := rfl
theorem f23_10 : zF 23 10 = some (.newarray .char, 2, [], 0) := rfl
theorem f23_12 : zF 23 12 = some (.invokespecial 11, 3, [2, 36, 0, 2, 2, 0, 0], 0) := rfl
theorem f23_15 : zF 23 15 = some (.putfield 14, 3, [3, 0, 2], 0) := rfl
theorem f23_18 : zF 23 18 = some (.aload_n 0, 1, [], 0) := rfl
theorem f23_19 : zF 23 19 = some (.iconst 0, 1, [], 0) := rfl
theorem f23_20 : zF 23 20 = some (.putfield 20, 3, [3, 1, 0], 0) := rfl
theorem f23_23 : zF 23 23 = some (.aload_n 0, 1, [], 0) := rfl
theorem f23_24 : zF 23 24 = some (.bipush 30, 2, [], 0) := rfl
theorem f23_26 : zF 23 26 = some (.newarray .int, 2, [], 0) := rfl
theorem f23_28 : zF 23 28 = some (.putfield 24, 3, [3, 2, 2], 0) := rfl
theorem f23_31 : zF 23 31 = some (.aload_n 0, 1, [], 0) := rfl
theorem f23_32 : zF 23 32 = some (.bipush 30, 2, [], 0) := rfl
theorem f23_34 : zF 23 34 = some (.newarray .int, 2, [], 0) := rfl
theorem f23_36 : zF 23 36 = some (.putfield 28, 3, [3, 3, 2], 0) := rfl
theorem f23_39 : zF 23 39 = some (.aload_n 0, 1, [], 0) := rfl
theorem f23_40 : zF 23 40 = some (.bipush 30, 2, [], 0) := rfl
theorem f23_42 : zF 23 42 = some (.newarray .int, 2, [], 0) := rfl
theorem f23_44 : zF 23 44 = some (.putfield 31, 3, [3, 4, 2], 0) := rfl
theorem f23_47 : zF 23 47 = some (.aload_n 0, 1, [], 0) := rfl
theorem f23_48 : zF 23 48 = some (.bipush 31, 2, [], 0) := rfl
theorem f23_50 : zF 23 50 = some (.newarray .int, 2, [], 0) := rfl
theorem f23_52 : zF 23 52 = some (.putfield 34, 3, [3, 5, 2], 0) := rfl
theorem f23_55 : zF 23 55 = some (.aload_n 0, 1, [], 0) := rfl
theorem f23_56 : zF 23 56 = some (.iconst 0, 1, [], 0) := rfl
theorem f23_57 : zF 23 57 = some (.putfield 37, 3, [3, 6, 0], 0) := rfl
theorem f23_60 : zF 23 60 = some (.aload_n 0, 1, [], 0) := rfl
theorem f23_61 : zF 23 61 = some (.iconst 0, 1, [], 0) := rfl
theorem f23_62 : zF 23 62 = some (.putfield 40, 3, [3, 7, 3], 0) := rfl
theorem f23_65 : zF 23 65 = some (.aload_n 0, 1, [], 0) := rfl
theorem f23_66 : zF 23 66 = some (.bipush 6, 2, [], 0) := rfl
theorem f23_68 : zF 23 68 = some (.newarray .int, 2, [], 0) := rfl
theorem f23_70 : zF 23 70 = some (.putfield 44, 3, [3, 8, 2], 0) := rfl
theorem f23_73 : zF 23 73 = some (.aload_n 0, 1, [], 0) := rfl
theorem f23_74 : zF 23 74 = some (.iconst 0, 1, [], 0) := rfl
theorem f23_75 : zF 23 75 = some (.putfield 47, 3, [3, 9, 0], 0) := rfl
theorem f23_78 : zF 23 78 = some (.aload_n 0, 1, [], 0) := rfl
theorem f23_79 : zF 23 79 = some (.iconst 0, 1, [], 0) := rfl
theorem f23_80 : zF 23 80 = some (.putfield 50, 3, [3, 10, 0], 0) := rfl
theorem f23_83 : zF 23 83 = some (.aload_n 0, 1, [], 0) := rfl
theorem f23_84 : zF 23 84 = some (.iconst 0, 1, [], 0) := rfl
theorem f23_85 : zF 23 85 = some (.putfield 53, 3, [3, 11, 0], 0) := rfl
theorem f23_88 : zF 23 88 = some (.aload_n 0, 1, [], 0) := rfl
theorem f23_89 : zF 23 89 = some (.bipush 30, 2, [], 0) := rfl
theorem f23_91 : zF 23 91 = some (.newarray .int, 2, [], 0) := rfl
theorem f23_93 : zF 23 93 = some (.putfield 56, 3, [3, 12, 2], 0) := rfl
theorem f23_96 : zF 23 96 = some (.aload_n 0, 1, [], 0) := rfl
theorem f23_97 : zF 23 97 = some (.iconst 0, 1, [], 0) := rfl
theorem f23_98 : zF 23 98 = some (.putfield 59, 3, [3, 13, 0], 0) := rfl
theorem f23_101 : zF 23 101 = some (.aload_n 0, 1, [], 0) := rfl
theorem f23_102 : zF 23 102 = some (.iconst 0, 1, [], 0) := rfl
theorem f23_103 : zF 23 103 = some (.putfield 62, 3, [3, 14, 0], 0) := rfl
theorem f23_106 : zF 23 106 = some (.aload_n 0, 1, [], 0) := rfl
theorem f23_107 : zF 23 107 = some (.bipush (-4), 2, [], 0) := rfl
theorem f23_109 : zF 23 109 = some (.putfield 65, 3, [3, 15, 0], 0) := rfl
theorem f23_112 : zF 23 112 = some (.aload_n 0, 1, [], 0) := rfl
theorem f23_113 : zF 23 113 = some (.iconst 0, 1, [], 0) := rfl
theorem f23_114 : zF 23 114 = some (.putfield 68, 3, [3, 16, 0], 0) := rfl
theorem f23_117 : zF 23 117 = some (.aload_n 0, 1, [], 0) := rfl
theorem f23_118 : zF 23 118 = some (.iconst 0, 1, [], 0) := rfl
theorem f23_119 : zF 23 119 = some (.putfield 71, 3, [3, 17, 0], 0) := rfl
theorem f23_122 : zF 23 122 = some (.return_, 1, [], 0) := rfl
theorem f24_0 : zF 24 0 = some (.aload_n 0, 1, [], 0) := rfl
theorem f24_1 : zF 24 1 = some (.aload_n 1, 1, [], 0) := rfl
theorem f24_2 : zF 24 2 = some (.putfield 14, 3, [3, 0, 2], 0) := rfl
theorem f24_5 : zF 24 5 = some (.aload_n 0, 1, [], 0) := rfl
theorem f24_6 : zF 24 6 = some (.iload_n 2, 1, [], 0) := rfl
theorem f24_7 : zF 24 7 = some (.putfield 20, 3, [3, 1, 0], 0) := rfl
theorem f24_10 : zF 24 10 = some (.aload_n 0, 1, [], 0) := rfl
theorem f24_11 : zF 24 11 = some (.iconst 0, 1, [], 0) := rfl
theorem f24_12 : zF 24 12 = some (.putfield 37, 3, [3, 6, 0], 0) := rfl
theorem f24_15 : zF 24 15 = some (.aload_n 0, 1, [], 0) := rfl
theorem f24_16 : zF 24 16 = some (.iconst 0, 1, [], 0) := rfl
theorem f24_17 : zF 24 17 = some (.putfield 40, 3, [3, 7, 3], 0) := rfl
theorem f24_20 : zF 24 20 = some (.aload_n 0, 1, [], 0) := rfl
theorem f24_21 : zF 24 21 = some (.getfield 44, 3, [3, 8, 2], 0) := rfl
theorem f24_24 : zF 24 24 = some (.iconst 0, 1, [], 0) := rfl
theorem f24_25 : zF 24 25 = some (.invokestatic 74, 3, [1, 246, 0, 2, 4, 0, 0], 0) := rfl
theorem f24_28 : zF 24 28 = some (.aload_n 0, 1, [], 0) := rfl
theorem f24_29 : zF 24 29 = some (.iconst 0, 1, [], 0) := rfl
theorem f24_30 : zF 24 30 = some (.putfield 47, 3, [3, 9, 0], 0) := rfl
theorem f24_33 : zF 24 33 = some (.aload_n 0, 1, [], 0) := rfl
theorem f24_34 : zF 24 34 = some (.getfield 34, 3, [3, 5, 2], 0) := rfl
theorem f24_37 : zF 24 37 = some (.iconst 0, 1, [], 0) := rfl
theorem f24_38 : zF 24 38 = some (.iconst 0, 1, [], 0) := rfl
theorem f24_39 : zF 24 39 = some (.iastore, 1, [], 0) := rfl
theorem f24_40 : zF 24 40 = some (.aload_n 0, 1, [], 0) := rfl
theorem f24_41 : zF 24 41 = some (.iconst 0, 1, [], 0) := rfl
theorem f24_42 : zF 24 42 = some (.putfield 50, 3, [3, 10, 0], 0) := rfl
theorem f24_45 : zF 24 45 = some (.aload_n 0, 1, [], 0) := rfl
theorem f24_46 : zF 24 46 = some (.iconst 0, 1, [], 0) := rfl
theorem f24_47 : zF 24 47 = some (.putfield 53, 3, [3, 11, 0], 0) := rfl
theorem f24_50 : zF 24 50 = some (.aload_n 0, 1, [], 0) := rfl
theorem f24_51 : zF 24 51 = some (.iconst 0, 1, [], 0) := rfl
theorem f24_52 : zF 24 52 = some (.putfield 59, 3, [3, 13, 0], 0) := rfl
theorem f24_55 : zF 24 55 = some (.aload_n 0, 1, [], 0) := rfl
theorem f24_56 : zF 24 56 = some (.iconst 0, 1, [], 0) := rfl
theorem f24_57 : zF 24 57 = some (.putfield 62, 3, [3, 14, 0], 0) := rfl
theorem f24_60 : zF 24 60 = some (.aload_n 0, 1, [], 0) := rfl
theorem f24_61 : zF 24 61 = some (.bipush (-4), 2, [], 0) := rfl
theorem f24_63 : zF 24 63 = some (.putfield 65, 3, [3, 15, 0], 0) := rfl
theorem f24_66 : zF 24 66 = some (.aload_n 0, 1, [], 0) := rfl
theorem f24_67 : zF 24 67 = some (.iconst 0, 1, [], 0) := rfl
theorem f24_68 : zF 24 68 = some (.putfield 68, 3, [3, 16, 0], 0) := rfl
theorem f24_71 : zF 24 71 = some (.aload_n 0, 1, [], 0) := rfl
theorem f24_72 : zF 24 72 = some (.iconst 0, 1, [], 0) := rfl
theorem f24_73 : zF 24 73 = some (.putfield 71, 3, [3, 17, 0], 0) := rfl
theorem f24_76 : zF 24 76 = some (.aload_n 0, 1, [], 0) := rfl
theorem f24_77 : zF 24 77 = some (.iconst 0, 1, [], 0) := rfl
theorem f24_78 : zF 24 78 = some (.iconst 0, 1, [], 0) := rfl
theorem f24_79 : zF 24 79 = some (.invokevirtual 80, 3, [0, 25, 3, 3, 5, 0, 0], 0) := rfl
theorem f24_82 : zF 24 82 = some (.iconst (-1), 1, [], 0) := rfl
theorem f24_83 : zF 24 83 = some (.if_icmp .eq 14, 3, [], 0) := rfl
theorem f24_86 : zF 24 86 = some (.aload_n 0, 1, [], 0) := rfl
theorem f24_87 : zF 24 87 = some (.iconst 0, 1, [], 0) := rfl
theorem f24_88 : zF 24 88 = some (.putfield 62, 3, [3, 14, 0], 0) := rfl
theorem f24_91 : zF 24 91 = some (.aload_n 0, 1, [], 0) := rfl
theorem f24_92 : zF 24 92 = some (.bipush (-4), 2, [], 0) := rfl
theorem f24_94 : zF 24 94 = some (.putfield 65, 3, [3, 15, 0], 0) := rfl
theorem f24_97 : zF 24 97 = some (.aload_n 0, 1, [], 0) := rfl
theorem f24_98 : zF 24 98 = some (.getfield 40, 3, [3, 7, 3], 0) := rfl
theorem f24_101 : zF 24 101 = some (.ifCond .ne 7, 3, [], 0) := rfl
theorem f24_104 : zF 24 104 = some (.iconst 1, 1, [], 0) := rfl
theorem f24_105 : zF 24 105 = some (.goto 4, 3, [], 0) := rfl
theorem f24_108 : zF 24 108 = some (.iconst 0, 1, [], 0) := rfl
theorem f24_109 : zF 24 109 = some (.ireturn, 1, [1], 0) := rfl
theorem f25_0 : zF 25 0 = some (.iload_n 2, 1, [], 0) := rfl
theorem f25_1 : zF 25 1 = some (.bipush 6, 2, [], 0) := rfl
theorem f25_3 : zF 25 3 = some (.if_icmp .le 5, 3, [], 0) := rfl
theorem f25_6 : zF 25 6 = some (.iconst (-1), 1, [], 0) := rfl
theorem f25_7 : zF 25 7 = some (.ireturn, 1, [0], 0) := rfl
theorem f25_8 : zF 25 8 = some (.iload_n 1, 1, [], 0) := rfl
theorem f25_9 : zF 25 9 = some (.istore_n 3, 1, [], 0) := rfl
theorem f25_10 : zF 25 10 = some (.iconst 0, 1, [], 0) := rfl
theorem f25_11 : zF 25 11 = some (.istore 4, 2, [], 0) := rfl
theorem f25_13 : zF 25 13 = some (.iload 4, 2, [], 0) := rfl
theorem f25_15 : zF 25 15 = some (.bipush 60, 2, [], 0) := rfl
theorem f25_17 : zF 25 17 = some (.if_icmp .ge 34, 3, [], 0) := rfl
theorem f25_20 : zF 25 20 = some (.aload_n 0, 1, [], 0) := rfl
theorem f25_21 : zF 25 21 = some (.getfield 14, 3, [3, 0, 2], 0) := rfl
theorem f25_24 : zF 25 24 = some (.iload_n 3, 1, [], 0) := rfl
theorem f25_25 : zF 25 25 = some (.invokevirtual 84, 3, [0, 38, 4, 2, 2, 0, 0], 0) := rfl
theorem f25_28 : zF 25 28 = some (.ifCond .ne 23, 3, [], 0) := rfl
theorem f25_31 : zF 25 31 = some (.aload_n 0, 1, [], 0) := rfl
theorem f25_32 : zF 25 32 = some (.iload_n 3, 1, [], 0) := rfl
theorem f25_33 : zF 25 33 = some (.iload_n 2, 1, [], 0) := rfl
theorem f25_34 : zF 25 34 = some (.invokevirtual 88, 3, [0, 26, 3, 3, 4, 0, 0], 0) := rfl
theorem f25_37 : zF 25 37 = some (.istore_n 3, 1, [], 0) := rfl
theorem f25_38 : zF 25 38 = some (.iload_n 3, 1, [], 0) := rfl
theorem f25_39 : zF 25 39 = some (.iconst (-1), 1, [], 0) := rfl
theorem f25_40 : zF 25 40 = some (.if_icmp .ne 5, 3, [], 0) := rfl
theorem f25_43 : zF 25 43 = some (.iconst (-1), 1, [], 0) := rfl
theorem f25_44 : zF 25 44 = some (.ireturn, 1, [0], 0) := rfl
theorem f25_45 : zF 25 45 = some (.iinc 4 1, 3, [], 0) := rfl
theorem f25_48 : zF 25 48 = some (.goto (-35), 3, [], 0) := rfl
theorem f25_51 : zF 25 51 = some (.iload_n 3, 1, [], 0) := rfl
theorem f25_52 : zF 25 52 = some (.ireturn, 1, [0], 0) := rfl
theorem f26_0 : zF 26 0 = some (.aload_n 0, 1, [], 0) := rfl
theorem f26_1 : zF 26 1 = some (.getfield 14, 3, [3, 0, 2], 0) := rfl
theorem f26_4 : zF 26 4 = some (.iload_n 1, 1, [], 0) := rfl
theorem f26_5 : zF 26 5 = some (.invokevirtual 91, 3, [0, 37, 4, 2, 2, 0, 0], 0) := rfl
theorem f26_8 : zF 26 8 = some (.istore_n 3, 1, [], 0) := rfl
theorem f26_9 : zF 26 9 = some (.iload_n 3, 1, [], 0) := rfl
theorem f26_10 : zF 26 10 = some (.bipush 33, 2, [], 0) := rfl
theorem f26_12 : zF 26 12 = some (.if_icmp .ne 11, 3, [], 0) := rfl
theorem f26_15 : zF 26 15 = some (.aload_n 0, 1, [], 0) := rfl
theorem f26_16 : zF 26 16 = some (.iconst 2, 1, [], 0) := rfl
theorem f26_17 : zF 26 17 = some (.bipush (-4), 2, [], 0) := rfl
theorem f26_19 : zF 26 19 = some (.invokevirtual 95, 3, [0, 31, 3, 3, 3, 0, 0], 0) := rfl
theorem f26_22 : zF 26 22 = some (.ireturn, 1, [0], 0) := rfl
theorem f26_23 : zF 26 23 = some (.iload_n 3, 1, [], 0) := rfl
theorem f26_24 : zF 26 24 = some (.bipush 91, 2, [], 0) := rfl
theorem f26_26 : zF 26 26 = some (.if_icmp .ne 10, 3, [], 0) := rfl
theorem f26_29 : zF 26 29 = some (.aload_n 0, 1, [], 0) := rfl
theorem f26_30 : zF 26 30 = some (.iload_n 1, 1, [], 0) := rfl
theorem f26_31 : zF 26 31 = some (.iload_n 2, 1, [], 0) := rfl
theorem f26_32 : zF 26 32 = some (.invokevirtual 98, 3, [0, 29, 3, 3, 5, 0, 0], 0) := rfl
theorem f26_35 : zF 26 35 = some (.ireturn, 1, [0], 0) := rfl
theorem f26_36 : zF 26 36 = some (.iload_n 3, 1, [], 0) := rfl
theorem f26_37 : zF 26 37 = some (.bipush 50, 2, [], 0) := rfl
theorem f26_39 : zF 26 39 = some (.if_icmp .lt 20, 3, [], 0) := rfl
theorem f26_42 : zF 26 42 = some (.iload_n 3, 1, [], 0) := rfl
theorem f26_43 : zF 26 43 = some (.bipush 53, 2, [], 0) := rfl
theorem f26_45 : zF 26 45 = some (.if_icmp .gt 14, 3, [], 0) := rfl
theorem f26_48 : zF 26 48 = some (.aload_n 0, 1, [], 0) := rfl
theorem f26_49 : zF 26 49 = some (.iload_n 1, 1, [], 0) := rfl
theorem f26_50 : zF 26 50 = some (.iload_n 3, 1, [], 0) := rfl
theorem f26_51 : zF 26 51 = some (.bipush 48, 2, [], 0) := rfl
theorem f26_53 : zF 26 53 = some (.isub, 1, [], 0) := rfl
theorem f26_54 : zF 26 54 = some (.iload_n 2, 1, [], 0) := rfl
theorem f26_55 : zF 26 55 = some (.invokevirtual 101, 3, [0, 30, 3, 4, 8, 0, 0], 0) := rfl
theorem f26_58 : zF 26 58 = some (.ireturn, 1, [0], 0) := rfl
theorem f26_59 : zF 26 59 = some (.iload_n 3, 1, [], 0) := rfl
theorem f26_60 : zF 26 60 = some (.bipush 97, 2, [], 0) := rfl
theorem f26_62 : zF 26 62 = some (.isub, 1, [], 0) := rfl
theorem f26_63 : zF 26 63 = some (.invokestatic 105, 3, [3, 142, 0, 1, 1, 0, 0], 0) := rfl
theorem f26_66 : zF 26 66 = some (.ifCond .eq 5, 3, [], 0) := rfl
theorem f26_69 : zF 26 69 = some (.iconst (-1), 1, [], 0) := rfl
theorem f26_70 : zF 26 70 = some (.ireturn, 1, [0], 0) := rfl
theorem f26_71 : zF 26 71 = some (.aload_n 0, 1, [], 0) := rfl
theorem f26_72 : zF 26 72 = some (.getfield 14, 3, [3, 0, 2], 0) := rfl
theorem f26_75 : zF 26 75 = some (.iload_n 1, 1, [], 0) := rfl
theorem f26_76 : zF 26 76 = some (.iconst 1, 1, [], 0) := rfl
theorem f26_77 : zF 26 77 = some (.iadd, 1, [], 0) := rfl
theorem f26_78 : zF 26 78 = some (.invokevirtual 91, 3, [0, 37, 4, 2, 2, 0, 0], 0) := rfl
theorem f26_81 : zF 26 81 = some (.bipush 40, 2, [], 0) := rfl
theorem f26_83 : zF 26 83 = some (.if_icmp .ne 14, 3, [], 0) := rfl
theorem f26_86 : zF 26 86 = some (.aload_n 0, 1, [], 0) := rfl
theorem f26_87 : zF 26 87 = some (.iload_n 1, 1, [], 0) := rfl
theorem f26_88 : zF 26 88 = some (.iload_n 3, 1, [], 0) := rfl
theorem f26_89 : zF 26 89 = some (.bipush 97, 2, [], 0) := rfl
theorem f26_91 : zF 26 91 = some (.isub, 1, [], 0) := rfl
theorem f26_92 : zF 26 92 = some (.iload_n 2, 1, [], 0) := rfl
theorem f26_93 : zF 26 93 = some (.invokevirtual 108, 3, [0, 27, 3, 4, 6, 0, 0], 0) := rfl
theorem f26_96 : zF 26 96 = some (.ireturn, 1, [0], 0) := rfl
theorem f26_97 : zF 26 97 = some (.aload_n 0, 1, [], 0) := rfl
theorem f26_98 : zF 26 98 = some (.iload_n 1, 1, [], 0) := rfl
theorem f26_99 : zF 26 99 = some (.iload_n 3, 1, [], 0) := rfl
theorem f26_100 : zF 26 100 = some (.bipush 97, 2, [], 0) := rfl
theorem f26_102 : zF 26 102 = some (.isub, 1, [], 0) := rfl
theorem f26_103 : zF 26 103 = some (.invokevirtual 111, 3, [0, 28, 3, 3, 5, 0, 0], 0) := rfl
theorem f26_106 : zF 26 106 = some (.ireturn, 1, [0], 0) := rfl
theorem f27_0 : zF 27 0 = some (.aload_n 0, 1, [], 0) := rfl
theorem f27_1 : zF 27 1 = some (.getfield 20, 3, [3, 1, 0], 0) := rfl
theorem f27_4 : zF 27 4 = some (.iload_n 2, 1, [], 0) := rfl
theorem f27_5 : zF 27 5 = some (.invokestatic 114, 3, [3, 147, 0, 2, 2, 0, 0], 0) := rfl
theorem f27_8 : zF 27 8 = some (.ifCond .eq 10, 3, [], 0) := rfl
theorem f27_11 : zF 27 11 = some (.aload_n 0, 1, [], 0) := rfl
theorem f27_12 : zF 27 12 = some (.iconst 3, 1, [], 0) := rfl
theorem f27_13 : zF 27 13 = some (.iload_n 2, 1, [], 0) := rfl
theorem f27_14 : zF 27 14 = some (.invokevirtual 95, 3, [0, 31, 3, 3, 3, 0, 0], 0) := rfl
theorem f27_17 : zF 27 17 = some (.ireturn, 1, [0], 0) := rfl
theorem f27_18 : zF 27 18 = some (.aload_n 0, 1, [], 0) := rfl
theorem f27_19 : zF 27 19 = some (.getfield 59, 3, [3, 13, 0], 0) := rfl
theorem f27_22 : zF 27 22 = some (.istore 4, 2, [], 0) := rfl
theorem f27_24 : zF 27 24 = some (.aload_n 0, 1, [], 0) := rfl
theorem f27_25 : zF 27 25 = some (.iload_n 2, 1, [], 0) := rfl
theorem f27_26 : zF 27 26 = some (.invokevirtual 118, 3, [0, 32, 3, 2, 2, 0, 0], 0) := rfl
theorem f27_29 : zF 27 29 = some (.aload_n 0, 1, [], 0) := rfl
theorem f27_30 : zF 27 30 = some (.iload_n 1, 1, [], 0) := rfl
theorem f27_31 : zF 27 31 = some (.iconst 2, 1, [], 0) := rfl
theorem f27_32 : zF 27 32 = some (.iadd, 1, [], 0) := rfl
theorem f27_33 : zF 27 33 = some (.iload_n 3, 1, [], 0) := rfl
theorem f27_34 : zF 27 34 = some (.iconst 1, 1, [], 0) := rfl
theorem f27_35 : zF 27 35 = some (.iadd, 1, [], 0) := rfl
theorem f27_36 : zF 27 36 = some (.invokevirtual 80, 3, [0, 25, 3, 3, 5, 0, 0], 0) := rfl
theorem f27_39 : zF 27 39 = some (.istore 5, 2, [], 0) := rfl
theorem f27_41 : zF 27 41 = some (.iload 5, 2, [], 0) := rfl
theorem f27_43 : zF 27 43 = some (.iconst (-1), 1, [], 0) := rfl
theorem f27_44 : zF 27 44 = some (.if_icmp .ne 16, 3, [], 0) := rfl
theorem f27_47 : zF 27 47 = some (.aload_n 0, 1, [], 0) := rfl
theorem f27_48 : zF 27 48 = some (.iload 4, 2, [], 0) := rfl
theorem f27_50 : zF 27 50 = some (.invokevirtual 122, 3, [0, 34, 3, 2, 4, 0, 0], 0) := rfl
theorem f27_53 : zF 27 53 = some (.aload_n 0, 1, [], 0) := rfl
theorem f27_54 : zF 27 54 = some (.iload_n 2, 1, [], 0) := rfl
theorem f27_55 : zF 27 55 = some (.invokevirtual 125, 3, [0, 33, 3, 2, 2, 0, 0], 0) := rfl
theorem f27_58 : zF 27 58 = some (.iconst (-1), 1, [], 0) := rfl
theorem f27_59 : zF 27 59 = some (.ireturn, 1, [0], 0) := rfl
theorem f27_60 : zF 27 60 = some (.aload_n 0, 1, [], 0) := rfl
theorem f27_61 : zF 27 61 = some (.iload_n 2, 1, [], 0) := rfl
theorem f27_62 : zF 27 62 = some (.invokevirtual 125, 3, [0, 33, 3, 2, 2, 0, 0], 0) := rfl
theorem f27_65 : zF 27 65 = some (.aload_n 0, 1, [], 0) := rfl
theorem f27_66 : zF 27 66 = some (.iload 4, 2, [], 0) := rfl
theorem f27_68 : zF 27 68 = some (.putfield 59, 3, [3, 13, 0], 0) := rfl
theorem f27_71 : zF 27 71 = some (.aload_n 0, 1, [], 0) := rfl
theorem f27_72 : zF 27 72 = some (.getfield 40, 3, [3, 7, 3], 0) := rfl
theorem f27_75 : zF 27 75 = some (.ifCond .eq 7, 3, [], 0) := rfl
theorem f27_78 : zF 27 78 = some (.iconst (-1), 1, [], 0) := rfl
theorem f27_79 : zF 27 79 = some (.goto 7, 3, [], 0) := rfl
theorem f27_82 : zF 27 82 = some (.iload 5, 2, [], 0) := rfl
theorem f27_84 : zF 27 84 = some (.iconst 1, 1, [], 0) := rfl
theorem f27_85 : zF 27 85 = some (.iadd, 1, [], 0) := rfl
theorem f27_86 : zF 27 86 = some (.ireturn, 1, [0], 0) := rfl
theorem f28_0 : zF 28 0 = some (.aload_n 0, 1, [], 0) := rfl
theorem f28_1 : zF 28 1 = some (.getfield 44, 3, [3, 8, 2], 0) := rfl
theorem f28_4 : zF 28 4 = some (.iload_n 2, 1, [], 0) := rfl
theorem f28_5 : zF 28 5 = some (.iaload, 1, [], 0) := rfl
theorem f28_6 : zF 28 6 = some (.ifCond .ne 10, 3, [], 0) := rfl
theorem f28_9 : zF 28 9 = some (.aload_n 0, 1, [], 0) := rfl
theorem f28_10 : zF 28 10 = some (.iconst 1, 1, [], 0) := rfl
theorem f28_11 : zF 28 11 = some (.iload_n 2, 1, [], 0) := rfl
theorem f28_12 : zF 28 12 = some (.invokevirtual 95, 3, [0, 31, 3, 3, 3, 0, 0], 0) := rfl
theorem f28_15 : zF 28 15 = some (.ireturn, 1, [0], 0) := rfl
theorem f28_16 : zF 28 16 = some (.aload_n 0, 1, [], 0) := rfl
theorem f28_17 : zF 28 17 = some (.getfield 14, 3, [3, 0, 2], 0) := rfl
theorem f28_20 : zF 28 20 = some (.iload_n 1, 1, [], 0) := rfl
theorem f28_21 : zF 28 21 = some (.iconst 2, 1, [], 0) := rfl
theorem f28_22 : zF 28 22 = some (.iadd, 1, [], 0) := rfl
theorem f28_23 : zF 28 23 = some (.invokevirtual 91, 3, [0, 37, 4, 2, 2, 0, 0], 0) := rfl
theorem f28_26 : zF 28 26 = some (.bipush 48, 2, [], 0) := rfl
theorem f28_28 : zF 28 28 = some (.isub, 1, [], 0) := rfl
theorem f28_29 : zF 28 29 = some (.istore_n 3, 1, [], 0) := rfl
theorem f28_30 : zF 28 30 = some (.aload_n 0, 1, [], 0) := rfl
theorem f28_31 : zF 28 31 = some (.getfield 14, 3, [3, 0, 2], 0) := rfl
theorem f28_34 : zF 28 34 = some (.iload_n 1, 1, [], 0) := rfl
theorem f28_35 : zF 28 35 = some (.iconst 1, 1, [], 0) := rfl
theorem f28_36 : zF 28 36 = some (.iadd, 1, [], 0) := rfl
theorem f28_37 : zF 28 37 = some (.invokevirtual 91, 3, [0, 37, 4, 2, 2, 0, 0], 0) := rfl
theorem f28_40 : zF 28 40 = some (.bipush 45, 2, [], 0) := rfl
theorem f28_42 : zF 28 42 = some (.if_icmp .ne 8, 3, [], 0) := rfl
theorem f28_45 : zF 28 45 = some (.iload_n 3, 1, [], 0) := rfl
theorem f28_46 : zF 28 46 = some (.ineg, 1, [], 0) := rfl
theorem f28_47 : zF 28 47 = some (.goto 4, 3, [], 0) := rfl
theorem f28_50 : zF 28 50 = some (.iload_n 3, 1, [], 0) := rfl
theorem f28_51 : zF 28 51 = some (.istore 4, 2, [], 0) := rfl
theorem f28_53 : zF 28 53 = some (.aload_n 0, 1, [], 0) := rfl
theorem f28_54 : zF 28 54 = some (.iconst 2, 1, [], 0) := rfl
theorem f28_55 : zF 28 55 = some (.iload_n 2, 1, [], 0) := rfl
theorem f28_56 : zF 28 56 = some (.iload 4, 2, [], 0) := rfl
theorem f28_58 : zF 28 58 = some (.invokevirtual 128, 3, [0, 35, 3, 4, 4, 0, 0], 0) := rfl
theorem f28_61 : zF 28 61 = some (.aload_n 0, 1, [], 0) := rfl
theorem f28_62 : zF 28 62 = some (.getfield 40, 3, [3, 7, 3], 0) := rfl
theorem f28_65 : zF 28 65 = some (.ifCond .ne 12, 3, [], 0) := rfl
theorem f28_68 : zF 28 68 = some (.aload_n 0, 1, [], 0) := rfl
theorem f28_69 : zF 28 69 = some (.getfield 59, 3, [3, 13, 0], 0) := rfl
theorem f28_72 : zF 28 72 = some (.bipush 30, 2, [], 0) := rfl
theorem f28_74 : zF 28 74 = some (.if_icmp .lt 5, 3, [], 0) := rfl
theorem f28_77 : zF 28 77 = some (.iconst (-1), 1, [], 0) := rfl
theorem f28_78 : zF 28 78 = some (.ireturn, 1, [0], 0) := rfl
theorem f28_79 : zF 28 79 = some (.aload_n 0, 1, [], 0) := rfl
theorem f28_80 : zF 28 80 = some (.getfield 56, 3, [3, 12, 2], 0) := rfl
theorem f28_83 : zF 28 83 = some (.aload_n 0, 1, [], 0) := rfl
theorem f28_84 : zF 28 84 = some (.getfield 59, 3, [3, 13, 0], 0) := rfl
theorem f28_87 : zF 28 87 = some (.aload_n 0, 1, [], 0) := rfl
theorem f28_88 : zF 28 88 = some (.getfield 37, 3, [3, 6, 0], 0) := rfl
theorem f28_91 : zF 28 91 = some (.iconst 1, 1, [], 0) := rfl
theorem f28_92 : zF 28 92 = some (.isub, 1, [], 0) := rfl
theorem f28_93 : zF 28 93 = some (.iastore, 1, [], 0) := rfl
theorem f28_94 : zF 28 94 = some (.aload_n 0, 1, [], 0) := rfl
theorem f28_95 : zF 28 95 = some (.dup, 1, [], 0) := rfl
theorem f28_96 : zF 28 96 = some (.getfield 59, 3, [3, 13, 0], 0) := rfl
theorem f28_99 : zF 28 99 = some (.iconst 1, 1, [], 0) := rfl
theorem f28_100 : zF 28 100 = some (.iadd, 1, [], 0) := rfl
theorem f28_101 : zF 28 101 = some (.putfield 59, 3, [3, 13, 0], 0) := rfl
theorem f28_104 : zF 28 104 = some (.iload_n 1, 1, [], 0) := rfl
theorem f28_105 : zF 28 105 = some (.iconst 3, 1, [], 0) := rfl
theorem f28_106 : zF 28 106 = some (.iadd, 1, [], 0) := rfl
theorem f28_107 : zF 28 107 = some (.ireturn, 1, [0], 0) := rfl
theorem f29_0 : zF 29 0 = some (.aload_n 0, 1, [], 0) := rfl
theorem f29_1 : zF 29 1 = some (.getfield 59, 3, [3, 13, 0], 0) := rfl
theorem f29_4 : zF 29 4 = some (.istore_n 3, 1, [], 0) := rfl
theorem f29_5 : zF 29 5 = some (.aload_n 0, 1, [], 0) := rfl
theorem f29_6 : zF 29 6 = some (.iload_n 1, 1, [], 0) := rfl
theorem f29_7 : zF 29 7 = some (.iconst 1, 1, [], 0) := rfl
theorem f29_8 : zF 29 8 = some (.iadd, 1, [], 0) := rfl
theorem f29_9 : zF 29 9 = some (.iload_n 2, 1, [], 0) := rfl
theorem f29_10 : zF 29 10 = some (.iconst 1, 1, [], 0) := rfl
theorem f29_11 : zF 29 11 = some (.iadd, 1, [], 0) := rfl
theorem f29_12 : zF 29 12 = some (.invokevirtual 80, 3, [0, 25, 3, 3, 5, 0, 0], 0) := rfl
theorem f29_15 : zF 29 15 = some (.istore 4, 2, [], 0) := rfl
theorem f29_17 : zF 29 17 = some (.iload 4, 2, [], 0) := rfl
theorem f29_19 : zF 29 19 = some (.iconst (-1), 1, [], 0) := rfl
theorem f29_20 : zF 29 20 = some (.if_icmp .eq 8, 3, [], 0) := rfl
theorem f29_23 : zF 29 23 = some (.iload 4, 2, [], 0) := rfl
theorem f29_25 : zF 29 25 = some (.iconst 1, 1, [], 0) := rfl
theorem f29_26 : zF 29 26 = some (.iadd, 1, [], 0) := rfl
theorem f29_27 : zF 29 27 = some (.ireturn, 1, [0], 0) := rfl
theorem f29_28 : zF 29 28 = some (.aload_n 0, 1, [], 0) := rfl
theorem f29_29 : zF 29 29 = some (.iload_n 3, 1, [], 0) := rfl
theorem f29_30 : zF 29 30 = some (.invokevirtual 122, 3, [0, 34, 3, 2, 4, 0, 0], 0) := rfl
theorem f29_33 : zF 29 33 = some (.aload_n 0, 1, [], 0) := rfl
theorem f29_34 : zF 29 34 = some (.dup, 1, [], 0) := rfl
theorem f29_35 : zF 29 35 = some (.getfield 68, 3, [3, 16, 0], 0) := rfl
theorem f29_38 : zF 29 38 = some (.iconst 1, 1, [], 0) := rfl
theorem f29_39 : zF 29 39 = some (.iadd, 1, [], 0) := rfl
theorem f29_40 : zF 29 40 = some (.putfield 68, 3, [3, 16, 0], 0) := rfl
theorem f29_43 : zF 29 43 = some (.aload_n 0, 1, [], 0) := rfl
theorem f29_44 : zF 29 44 = some (.getfield 40, 3, [3, 7, 3], 0) := rfl
theorem f29_47 : zF 29 47 = some (.ifCond .eq 7, 3, [], 0) := rfl
theorem f29_50 : zF 29 50 = some (.iconst (-1), 1, [], 0) := rfl
theorem f29_51 : zF 29 51 = some (.goto 13, 3, [], 0) := rfl
theorem f29_54 : zF 29 54 = some (.aload_n 0, 1, [], 0) := rfl
theorem f29_55 : zF 29 55 = some (.getfield 14, 3, [3, 0, 2], 0) := rfl
theorem f29_58 : zF 29 58 = some (.iload_n 1, 1, [], 0) := rfl
theorem f29_59 : zF 29 59 = some (.invokevirtual 132, 3, [0, 39, 4, 2, 4, 0, 0], 0) := rfl
theorem f29_62 : zF 29 62 = some (.iconst 1, 1, [], 0) := rfl
theorem f29_63 : zF 29 63 = some (.iadd, 1, [], 0) := rfl
theorem f29_64 : zF 29 64 = some (.ireturn, 1, [0], 0) := rfl
theorem f30_0 : zF 30 0 = some (.iconst (-1), 1, [], 0) := rfl
theorem f30_1 : zF 30 1 = some (.istore 4, 2, [], 0) := rfl
theorem f30_3 : zF 30 3 = some (.iconst 0, 1, [], 0) := rfl
theorem f30_4 : zF 30 4 = some (.istore 5, 2, [], 0) := rfl
theorem f30_6 : zF 30 6 = some (.iload 5, 2, [], 0) := rfl
theorem f30_8 : zF 30 8 = some (.iload_n 2, 1, [], 0) := rfl
theorem f30_9 : zF 30 9 = some (.if_icmp .ge 78, 3, [], 0) := rfl
theorem f30_12 : zF 30 12 = some (.aload_n 0, 1, [], 0) := rfl
theorem f30_13 : zF 30 13 = some (.getfield 37, 3, [3, 6, 0], 0) := rfl
theorem f30_16 : zF 30 16 = some (.istore 6, 2, [], 0) := rfl
theorem f30_18 : zF 30 18 = some (.aload_n 0, 1, [], 0) := rfl
theorem f30_19 : zF 30 19 = some (.getfield 68, 3, [3, 16, 0], 0) := rfl
theorem f30_22 : zF 30 22 = some (.istore 7, 2, [], 0) := rfl
theorem f30_24 : zF 30 24 = some (.aload_n 0, 1, [], 0) := rfl
theorem f30_25 : zF 30 25 = some (.iload_n 1, 1, [], 0) := rfl
theorem f30_26 : zF 30 26 = some (.iconst 2, 1, [], 0) := rfl
theorem f30_27 : zF 30 27 = some (.iadd, 1, [], 0) := rfl
theorem f30_28 : zF 30 28 = some (.iload_n 3, 1, [], 0) := rfl
theorem f30_29 : zF 30 29 = some (.iconst 1, 1, [], 0) := rfl
theorem f30_30 : zF 30 30 = some (.iadd, 1, [], 0) := rfl
theorem f30_31 : zF 30 31 = some (.invokevirtual 80, 3, [0, 25, 3, 3, 5, 0, 0], 0) := rfl
theorem f30_34 : zF 30 34 = some (.istore 4, 2, [], 0) := rfl
theorem f30_36 : zF 30 36 = some (.iload 4, 2, [], 0) := rfl
theorem f30_38 : zF 30 38 = some (.iconst (-1), 1, [], 0) := rfl
theorem f30_39 : zF 30 39 = some (.if_icmp .ne 5, 3, [], 0) := rfl
theorem f30_42 : zF 30 42 = some (.iconst (-1), 1, [], 0) := rfl
theorem f30_43 : zF 30 43 = some (.ireturn, 1, [0], 0) := rfl
theorem f30_44 : zF 30 44 = some (.aload_n 0, 1, [], 0) := rfl
theorem f30_45 : zF 30 45 = some (.getfield 37, 3, [3, 6, 0], 0) := rfl
theorem f30_48 : zF 30 48 = some (.iload 6, 2, [], 0) := rfl
theorem f30_50 : zF 30 50 = some (.if_icmp .ne 31, 3, [], 0) := rfl
theorem f30_53 : zF 30 53 = some (.aload_n 0, 1, [], 0) := rfl
theorem f30_54 : zF 30 54 = some (.dup, 1, [], 0) := rfl
theorem f30_55 : zF 30 55 = some (.getfield 68, 3, [3, 16, 0], 0) := rfl
theorem f30_58 : zF 30 58 = some (.aload_n 0, 1, [], 0) := rfl
theorem f30_59 : zF 30 59 = some (.getfield 68, 3, [3, 16, 0], 0) := rfl
theorem f30_62 : zF 30 62 = some (.iload 7, 2, [], 0) := rfl
theorem f30_64 : zF 30 64 = some (.isub, 1, [], 0) := rfl
theorem f30_65 : zF 30 65 = some (.iload_n 2, 1, [], 0) := rfl
theorem f30_66 : zF 30 66 = some (.iconst 1, 1, [], 0) := rfl
theorem f30_67 : zF 30 67 = some (.isub, 1, [], 0) := rfl
theorem f30_68 : zF 30 68 = some (.iload 5, 2, [], 0) := rfl
theorem f30_70 : zF 30 70 = some (.isub, 1, [], 0) := rfl
theorem f30_71 : zF 30 71 = some (.imul, 1, [], 0) := rfl
theorem f30_72 : zF 30 72 = some (.iadd, 1, [], 0) := rfl
theorem f30_73 : zF 30 73 = some (.putfield 68, 3, [3, 16, 0], 0) := rfl
theorem f30_76 : zF 30 76 = some (.iload 4, 2, [], 0) := rfl
theorem f30_78 : zF 30 78 = some (.iconst 1, 1, [], 0) := rfl
theorem f30_79 : zF 30 79 = some (.iadd, 1, [], 0) := rfl
theorem f30_80 : zF 30 80 = some (.ireturn, 1, [0], 0) := rfl
theorem f30_81 : zF 30 81 = some (.iinc 5 1, 3, [], 0) := rfl
theorem f30_84 : zF 30 84 = some (.goto (-78), 3, [], 0) := rfl
theorem f30_87 : zF 30 87 = some (.iload 4, 2, [], 0) := rfl
theorem f30_89 : zF 30 89 = some (.iconst 1, 1, [], 0) := rfl
theorem f30_90 : zF 30 90 = some (.iadd, 1, [], 0) := rfl
theorem f30_91 : zF 30 91 = some (.ireturn, 1, [0], 0) := rfl
theorem f31_0 : zF 31 0 = some (.aload_n 0, 1, [], 0) := rfl
theorem f31_1 : zF 31 1 = some (.iload_n 1, 1, [], 0) := rfl
theorem f31_2 : zF 31 2 = some (.putfield 62, 3, [3, 14, 0], 0) := rfl
theorem f31_5 : zF 31 5 = some (.aload_n 0, 1, [], 0) := rfl
theorem f31_6 : zF 31 6 = some (.iload_n 2, 1, [], 0) := rfl
theorem f31_7 : zF 31 7 = some (.putfield 65, 3, [3, 15, 0], 0) := rfl
theorem f31_10 : zF 31 10 = some (.iconst (-1), 1, [], 0) := rfl
theorem f31_11 : zF 31 11 = some (.ireturn, 1, [0], 0) := rfl
theorem f32_0 : zF 32 0 = some (.aload_n 0, 1, [], 0) := rfl
theorem f32_1 : zF 32 1 = some (.getfield 44, 3, [3, 8, 2], 0) := rfl
theorem f32_4 : zF 32 4 = some (.iload_n 1, 1, [], 0) := rfl
theorem f32_5 : zF 32 5 = some (.iaload, 1, [], 0) := rfl
theorem f32_6 : zF 32 6 = some (.ifCond .le 13, 3, [], 0) := rfl
theorem f32_9 : zF 32 9 = some (.aload_n 0, 1, [], 0) := rfl
theorem f32_10 : zF 32 10 = some (.dup, 1, [], 0) := rfl
theorem f32_11 : zF 32 11 = some (.getfield 71, 3, [3, 17, 0], 0) := rfl
theorem f32_14 : zF 32 14 = some (.iconst 1, 1, [], 0) := rfl
theorem f32_15 : zF 32 15 = some (.iadd, 1, [], 0) := rfl
theorem f32_16 : zF 32 16 = some (.putfield 71, 3, [3, 17, 0], 0) := rfl
theorem f32_19 : zF 32 19 = some (.aload_n 0, 1, [], 0) := rfl
theorem f32_20 : zF 32 20 = some (.getfield 44, 3, [3, 8, 2], 0) := rfl
theorem f32_23 : zF 32 23 = some (.iload_n 1, 1, [], 0) := rfl
theorem f32_24 : zF 32 24 = some (.dup2, 1, [], 0) := rfl
theorem f32_25 : zF 32 25 = some (.iaload, 1, [], 0) := rfl
theorem f32_26 : zF 32 26 = some (.iconst 1, 1, [], 0) := rfl
theorem f32_27 : zF 32 27 = some (.iadd, 1, [], 0) := rfl
theorem f32_28 : zF 32 28 = some (.iastore, 1, [], 0) := rfl
theorem f32_29 : zF 32 29 = some (.aload_n 0, 1, [], 0) := rfl
theorem f32_30 : zF 32 30 = some (.dup, 1, [], 0) := rfl
theorem f32_31 : zF 32 31 = some (.getfield 47, 3, [3, 9, 0], 0) := rfl
theorem f32_34 : zF 32 34 = some (.iload_n 1, 1, [], 0) := rfl
theorem f32_35 : zF 32 35 = some (.invokestatic 136, 3, [3, 146, 0, 1, 1, 0, 0], 0) := rfl
theorem f32_38 : zF 32 38 = some (.ior, 1, [], 0) := rfl
theorem f32_39 : zF 32 39 = some (.putfield 47, 3, [3, 9, 0], 0) := rfl
theorem f32_42 : zF 32 42 = some (.aload_n 0, 1, [], 0) := rfl
theorem f32_43 : zF 32 43 = some (.dup, 1, [], 0) := rfl
theorem f32_44 : zF 32 44 = some (.getfield 50, 3, [3, 10, 0], 0) := rfl
theorem f32_47 : zF 32 47 = some (.iconst 1, 1, [], 0) := rfl
theorem f32_48 : zF 32 48 = some (.iadd, 1, [], 0) := rfl
theorem f32_49 : zF 32 49 = some (.putfield 50, 3, [3, 10, 0], 0) := rfl
theorem f32_52 : zF 32 52 = some (.aload_n 0, 1, [], 0) := rfl
theorem f32_53 : zF 32 53 = some (.aload_n 0, 1, [], 0) := rfl
theorem f32_54 : zF 32 54 = some (.getfield 53, 3, [3, 11, 0], 0) := rfl
theorem f32_57 : zF 32 57 = some (.aload_n 0, 1, [], 0) := rfl
theorem f32_58 : zF 32 58 = some (.getfield 50, 3, [3, 10, 0], 0) := rfl
theorem f32_61 : zF 32 61 = some (.invokestatic 139, 3, [9], 0) := rfl
theorem f32_64 : zF 32 64 = some (.putfield 53, 3, [3, 11, 0], 0) := rfl
theorem f32_67 : zF 32 67 = some (.aload_n 0, 1, [], 0) := rfl
theorem f32_68 : zF 32 68 = some (.iconst 0, 1, [], 0) := rfl
theorem f32_69 : zF 32 69 = some (.iload_n 1, 1, [], 0) := rfl
theorem f32_70 : zF 32 70 = some (.iconst 0, 1, [], 0) := rfl
theorem f32_71 : zF 32 71 = some (.invokevirtual 128, 3, [0, 35, 3, 4, 4, 0, 0], 0) := rfl
theorem f32_74 : zF 32 74 = some (.return_, 1, [], 0) := rfl
theorem f33_0 : zF 33 0 = some (.aload_n 0, 1, [], 0) := rfl
theorem f33_1 : zF 33 1 = some (.getfield 44, 3, [3, 8, 2], 0) := rfl
theorem f33_4 : zF 33 4 = some (.iload_n 1, 1, [], 0) := rfl
theorem f33_5 : zF 33 5 = some (.dup2, 1, [], 0) := rfl
theorem f33_6 : zF 33 6 = some (.iaload, 1, [], 0) := rfl
theorem f33_7 : zF 33 7 = some (.iconst 1, 1, [], 0) := rfl
theorem f33_8 : zF 33 8 = some (.isub, 1, [], 0) := rfl
theorem f33_9 : zF 33 9 = some (.iastore, 1, [], 0) := rfl
theorem f33_10 : zF 33 10 = some (.aload_n 0, 1, [], 0) := rfl
theorem f33_11 : zF 33 11 = some (.getfield 44, 3, [3, 8, 2], 0) := rfl
theorem f33_14 : zF 33 14 = some (.iload_n 1, 1, [], 0) := rfl
theorem f33_15 : zF 33 15 = some (.iaload, 1, [], 0) := rfl
theorem f33_16 : zF 33 16 = some (.ifCond .ne 18, 3, [], 0) := rfl
theorem f33_19 : zF 33 19 = some (.aload_n 0, 1, [], 0) := rfl
theorem f33_20 : zF 33 20 = some (.dup, 1, [], 0) := rfl
theorem f33_21 : zF 33 21 = some (.getfield 47, 3, [3, 9, 0], 0) := rfl
theorem f33_24 : zF 33 24 = some (.iload_n 1, 1, [], 0) := rfl
theorem f33_25 : zF 33 25 = some (.invokestatic 136, 3, [3, 146, 0, 1, 1, 0, 0], 0) := rfl
theorem f33_28 : zF 33 28 = some (.iconst (-1), 1, [], 0) := rfl
theorem f33_29 : zF 33 29 = some (.ixor, 1, [], 0) := rfl
theorem f33_30 : zF 33 30 = some (.iand, 1, [], 0) := rfl
theorem f33_31 : zF 33 31 = some (.putfield 47, 3, [3, 9, 0], 0) := rfl
theorem f33_34 : zF 33 34 = some (.aload_n 0, 1, [], 0) := rfl
theorem f33_35 : zF 33 35 = some (.dup, 1, [], 0) := rfl
theorem f33_36 : zF 33 36 = some (.getfield 50, 3, [3, 10, 0], 0) := rfl
theorem f33_39 : zF 33 39 = some (.iconst 1, 1, [], 0) := rfl
theorem f33_40 : zF 33 40 = some (.isub, 1, [], 0) := rfl
theorem f33_41 : zF 33 41 = some (.putfield 50, 3, [3, 10, 0], 0) := rfl
theorem f33_44 : zF 33 44 = some (.aload_n 0, 1, [], 0) := rfl
theorem f33_45 : zF 33 45 = some (.iconst 1, 1, [], 0) := rfl
theorem f33_46 : zF 33 46 = some (.iload_n 1, 1, [], 0) := rfl
theorem f33_47 : zF 33 47 = some (.iconst 0, 1, [], 0) := rfl
theorem f33_48 : zF 33 48 = some (.invokevirtual 128, 3, [0, 35, 3, 4, 4, 0, 0], 0) := rfl
theorem f33_51 : zF 33 51 = some (.return_, 1, [], 0) := rfl
theorem f34_0 : zF 34 0 = some (.aload_n 0, 1, [], 0) := rfl
theorem f34_1 : zF 34 1 = some (.getfield 59, 3, [3, 13, 0], 0) := rfl
theorem f34_4 : zF 34 4 = some (.iconst 1, 1, [], 0) := rfl
theorem f34_5 : zF 34 5 = some (.isub, 1, [], 0) := rfl
theorem f34_6 : zF 34 6 = some (.istore_n 2, 1, [], 0) := rfl
theorem f34_7 : zF 34 7 = some (.iload_n 2, 1, [], 0) := rfl
theorem f34_8 : zF 34 8 = some (.iload_n 1, 1, [], 0) := rfl
theorem f34_9 : zF 34 9 = some (.if_icmp .lt 34, 3, [], 0) := rfl
theorem f34_12 : zF 34 12 = some (.aload_n 0, 1, [], 0) := rfl
theorem f34_13 : zF 34 13 = some (.getfield 56, 3, [3, 12, 2], 0) := rfl
theorem f34_16 : zF 34 16 = some (.iload_n 2, 1, [], 0) := rfl
theorem f34_17 : zF 34 17 = some (.iaload, 1, [], 0) := rfl
theorem f34_18 : zF 34 18 = some (.istore_n 3, 1, [], 0) := rfl
theorem f34_19 : zF 34 19 = some (.aload_n 0, 1, [], 0) := rfl
theorem f34_20 : zF 34 20 = some (.iconst 2, 1, [], 0) := rfl
theorem f34_21 : zF 34 21 = some (.aload_n 0, 1, [], 0) := rfl
theorem f34_22 : zF 34 22 = some (.getfield 28, 3, [3, 3, 2], 0) := rfl
theorem f34_25 : zF 34 25 = some (.iload_n 3, 1, [], 0) := rfl
theorem f34_26 : zF 34 26 = some (.iaload, 1, [], 0) := rfl
theorem f34_27 : zF 34 27 = some (.aload_n 0, 1, [], 0) := rfl
theorem f34_28 : zF 34 28 = some (.getfield 31, 3, [3, 4, 2], 0) := rfl
theorem f34_31 : zF 34 31 = some (.iload_n 3, 1, [], 0) := rfl
theorem f34_32 : zF 34 32 = some (.iaload, 1, [], 0) := rfl
theorem f34_33 : zF 34 33 = some (.ineg, 1, [], 0) := rfl
theorem f34_34 : zF 34 34 = some (.invokevirtual 128, 3, [0, 35, 3, 4, 4, 0, 0], 0) := rfl
theorem f34_37 : zF 34 37 = some (.iinc 2 (-1), 3, [], 0) := rfl
theorem f34_40 : zF 34 40 = some (.goto (-33), 3, [], 0) := rfl
theorem f34_43 : zF 34 43 = some (.aload_n 0, 1, [], 0) := rfl
theorem f34_44 : zF 34 44 = some (.iload_n 1, 1, [], 0) := rfl
theorem f34_45 : zF 34 45 = some (.putfield 59, 3, [3, 13, 0], 0) := rfl
theorem f34_48 : zF 34 48 = some (.return_, 1, [], 0) := rfl
theorem f35_0 : zF 35 0 = some (.aload_n 0, 1, [], 0) := rfl
theorem f35_1 : zF 35 1 = some (.getfield 37, 3, [3, 6, 0], 0) := rfl
theorem f35_4 : zF 35 4 = some (.bipush 30, 2, [], 0) := rfl
theorem f35_6 : zF 35 6 = some (.if_icmp .lt 9, 3, [], 0) := rfl
theorem f35_9 : zF 35 9 = some (.aload_n 0, 1, [], 0) := rfl
theorem f35_10 : zF 35 10 = some (.iconst 1, 1, [], 0) := rfl
theorem f35_11 : zF 35 11 = some (.putfield 40, 3, [3, 7, 3], 0) := rfl
theorem f35_14 : zF 35 14 = some (.return_, 1, [], 0) := rfl
theorem f35_15 : zF 35 15 = some (.aload_n 0, 1, [], 0) := rfl
theorem f35_16 : zF 35 16 = some (.getfield 24, 3, [3, 2, 2], 0) := rfl
theorem f35_19 : zF 35 19 = some (.aload_n 0, 1, [], 0) := rfl
theorem f35_20 : zF 35 20 = some (.getfield 37, 3, [3, 6, 0], 0) := rfl
theorem f35_23 : zF 35 23 = some (.iload_n 1, 1, [], 0) := rfl
theorem f35_24 : zF 35 24 = some (.iastore, 1, [], 0) := rfl
theorem f35_25 : zF 35 25 = some (.aload_n 0, 1, [], 0) := rfl
theorem f35_26 : zF 35 26 = some (.getfield 28, 3, [3, 3, 2], 0) := rfl
theorem f35_29 : zF 35 29 = some (.aload_n 0, 1, [], 0) := rfl
theorem f35_30 : zF 35 30 = some (.getfield 37, 3, [3, 6, 0], 0) := rfl
theorem f35_33 : zF 35 33 = some (.iload_n 2, 1, [], 0) := rfl
theorem f35_34 : zF 35 34 = some (.iastore, 1, [], 0) := rfl
theorem f35_35 : zF 35 35 = some (.aload_n 0, 1, [], 0) := rfl
theorem f35_36 : zF 35 36 = some (.getfield 31, 3, [3, 4, 2], 0) := rfl
theorem f35_39 : zF 35 39 = some (.aload_n 0, 1, [], 0) := rfl
theorem f35_40 : zF 35 40 = some (.getfield 37, 3, [3, 6, 0], 0) := rfl
theorem f35_43 : zF 35 43 = some (.iload_n 3, 1, [], 0) := rfl
theorem f35_44 : zF 35 44 = some (.iastore, 1, [], 0) := rfl
theorem f35_45 : zF 35 45 = some (.aload_n 0, 1, [], 0) := rfl
theorem f35_46 : zF 35 46 = some (.dup, 1, [], 0) := rfl
theorem f35_47 : zF 35 47 = some (.getfield 37, 3, [3, 6, 0], 0) := rfl
theorem f35_50 : zF 35 50 = some (.iconst 1, 1, [], 0) := rfl
theorem f35_51 : zF 35 51 = some (.iadd, 1, [], 0) := rfl
theorem f35_52 : zF 35 52 = some (.putfield 37, 3, [3, 6, 0], 0) := rfl
theorem f35_55 : zF 35 55 = some (.aload_n 0, 1, [], 0) := rfl
theorem f35_56 : zF 35 56 = some (.getfield 34, 3, [3, 5, 2], 0) := rfl
theorem f35_59 : zF 35 59 = some (.aload_n 0, 1, [], 0) := rfl
theorem f35_60 : zF 35 60 = some (.getfield 37, 3, [3, 6, 0], 0) := rfl
theorem f35_63 : zF 35 63 = some (.aload_n 0, 1, [], 0) := rfl
theorem f35_64 : zF 35 64 = some (.getfield 47, 3, [3, 9, 0], 0) := rfl
theorem f35_67 : zF 35 67 = some (.iastore, 1, [], 0) := rfl
theorem f35_68 : zF 35 68 = some (.return_, 1, [], 0) := rfl
theorem f36_0 : zF 36 0 = some (.aload_n 0, 1, [], 0) := rfl
theorem f36_1 : zF 36 1 = some (.invokespecial 1, 3, [8], 0) := rfl
theorem f36_4 : zF 36 4 = some (.aload_n 0, 1, [], 0) := rfl
theorem f36_5 : zF 36 5 = some (.aload_n 1, 1, [], 0) := rfl
theorem f36_6 : zF 36 6 = some (.putfield 7, 3, [4, 0, 2], 0) := rfl
theorem f36_9 : zF 36 9 = some (.return_, 1, [], 0) := rfl
theorem f37_0 : zF 37 0 = some (.iload_n 1, 1, [], 0) := rfl
theorem f37_1 : zF 37 1 = some (.ifCond .lt 12, 3, [], 0) := rfl
theorem f37_4 : zF 37 4 = some (.iload_n 1, 1, [], 0) := rfl
theorem f37_5 : zF 37 5 = some (.aload_n 0, 1, [], 0) := rfl
theorem f37_6 : zF 37 6 = some (.getfield 7, 3, [4, 0, 2], 0) := rfl
theorem f37_9 : zF 37 9 = some (.arraylength, 1, [], 0) := rfl
theorem f37_10 : zF 37 10 = some (.if_icmp .lt 8, 3, [], 0) := rfl
theorem f37_13 : zF 37 13 = some (.bipush 41, 2, [], 0) := rfl
theorem f37_15 : zF 37 15 = some (.goto 9, 3, [], 0) := rfl
theorem f37_18 : zF 37 18 = some (.aload_n 0, 1, [], 0) := rfl
theorem f37_19 : zF 37 19 = some (.getfield 7, 3, [4, 0, 2], 0) := rfl
theorem f37_22 : zF 37 22 = some (.iload_n 1, 1, [], 0) := rfl
theorem f37_23 : zF 37 23 = some (.caload, 1, [], 0) := rfl
theorem f37_24 : zF 37 24 = some (.ireturn, 1, [2], 0) := rfl
theorem f38_0 : zF 38 0 = some (.aload_n 0, 1, [], 0) := rfl
theorem f38_1 : zF 38 1 = some (.iload_n 1, 1, [], 0) := rfl
theorem f38_2 : zF 38 2 = some (.invokevirtual 13, 3, [0, 37, 4, 2, 2, 0, 0], 0) := rfl
theorem f38_5 : zF 38 5 = some (.invokestatic 17, 3, [1, 249, 0, 1, 1, 0, 0], 0) := rfl
theorem f38_8 : zF 38 8 = some (.ireturn, 1, [1], 0) := rfl
theorem f39_0 : zF 39 0 = some (.iconst 0, 1, [], 0) := rfl
theorem f39_1 : zF 39 1 = some (.istore_n 2, 1, [], 0) := rfl
theorem f39_2 : zF 39 2 = some (.iload_n 1, 1, [], 0) := rfl
theorem f39_3 : zF 39 3 = some (.istore_n 3, 1, [], 0) := rfl
theorem f39_4 : zF 39 4 = some (.iload_n 3, 1, [], 0) := rfl
theorem f39_5 : zF 39 5 = some (.aload_n 0, 1, [], 0) := rfl
theorem f39_6 : zF 39 6 = some (.getfield 7, 3, [4, 0, 2], 0) := rfl
theorem f39_9 : zF 39 9 = some (.arraylength, 1, [], 0) := rfl
theorem f39_10 : zF 39 10 = some (.if_icmp .ge 69, 3, [], 0) := rfl
theorem f39_13 : zF 39 13 = some (.aload_n 0, 1, [], 0) := rfl
theorem f39_14 : zF 39 14 = some (.getfield 7, 3, [4, 0, 2], 0) := rfl
theorem f39_17 : zF 39 17 = some (.iload_n 3, 1, [], 0) := rfl
theorem f39_18 : zF 39 18 = some (.caload, 1, [], 0) := rfl
theorem f39_19 : zF 39 19 = some (.bipush 40, 2, [], 0) := rfl
theorem f39_21 : zF 39 21 = some (.if_icmp .eq 25, 3, [], 0) := rfl
theorem f39_24 : zF 39 24 = some (.aload_n 0, 1, [], 0) := rfl
theorem f39_25 : zF 39 25 = some (.getfield 7, 3, [4, 0, 2], 0) := rfl
theorem f39_28 : zF 39 28 = some (.iload_n 3, 1, [], 0) := rfl
theorem f39_29 : zF 39 29 = some (.caload, 1, [], 0) := rfl
theorem f39_30 : zF 39 30 = some (.bipush 91, 2, [], 0) := rfl
theorem f39_32 : zF 39 32 = some (.if_icmp .eq 14, 3, [], 0) := rfl
theorem f39_35 : zF 39 35 = some (.aload_n 0, 1, [], 0) := rfl
theorem f39_36 : zF 39 36 = some (.getfield 7, 3, [4, 0, 2], 0) := rfl
theorem f39_39 : zF 39 39 = some (.iload_n 3, 1, [], 0) := rfl
theorem f39_40 : zF 39 40 = some (.caload, 1, [], 0) := rfl
theorem f39_41 : zF 39 41 = some (.bipush 123, 2, [], 0) := rfl
theorem f39_43 : zF 39 43 = some (.if_icmp .ne 9, 3, [], 0) := rfl
theorem f39_46 : zF 39 46 = some (.iinc 2 1, 3, [], 0) := rfl
theorem f39_49 : zF 39 49 = some (.goto 18, 3, [], 0) := rfl
theorem f39_52 : zF 39 52 = some (.aload_n 0, 1, [], 0) := rfl
theorem f39_53 : zF 39 53 = some (.getfield 7, 3, [4, 0, 2], 0) := rfl
theorem f39_56 : zF 39 56 = some (.iload_n 3, 1, [], 0) := rfl
theorem f39_57 : zF 39 57 = some (.caload, 1, [], 0) := rfl
theorem f39_58 : zF 39 58 = some (.invokestatic 17, 3, [1, 249, 0, 1, 1, 0, 0], 0) := rfl
theorem f39_61 : zF 39 61 = some (.ifCond .eq 6, 3, [], 0) := rfl
theorem f39_64 : zF 39 64 = some (.iinc 2 (-1), 3, [], 0) := rfl
theorem f39_67 : zF 39 67 = some (.iload_n 2, 1, [], 0) := rfl
theorem f39_68 : zF 39 68 = some (.ifCond .ne 5, 3, [], 0) := rfl
theorem f39_71 : zF 39 71 = some (.iload_n 3, 1, [], 0) := rfl
theorem f39_72 : zF 39 72 = some (.ireturn, 1, [0], 0) := rfl
theorem f39_73 : zF 39 73 = some (.iinc 3 1, 3, [], 0) := rfl
theorem f39_76 : zF 39 76 = some (.goto (-72), 3, [], 0) := rfl
theorem f39_79 : zF 39 79 = some (.aload_n 0, 1, [], 0) := rfl
theorem f39_80 : zF 39 80 = some (.getfield 7, 3, [4, 0, 2], 0) := rfl
theorem f39_83 : zF 39 83 = some (.arraylength, 1, [], 0) := rfl
theorem f39_84 : zF 39 84 = some (.ireturn, 1, [0], 0) := rfl
theorem f40_0 : zF 40 0 = some (.aload_n 0, 1, [], 0) := rfl
theorem f40_1 : zF 40 1 = some (.invokespecial 3, 3, [8], 0) := rfl
theorem f40_4 : zF 40 4 = some (.aload_n 0, 1, [], 0) := rfl
theorem f40_5 : zF 40 5 = some (.iconst (-1), 1, [], 0) := rfl
theorem f40_6 : zF 40 6 = some (.putfield 11, 3, [5, 0, 0], 0) := rfl
theorem f40_9 : zF 40 9 = some (.aload_n 0, 1, [], 0) := rfl
theorem f40_10 : zF 40 10 = some (.iconst 0, 1, [], 0) := rfl
theorem f40_11 : zF 40 11 = some (.putfield 15, 3, [5, 1, 0], 0) := rfl
theorem f40_14 : zF 40 14 = some (.aload_n 0, 1, [], 0) := rfl
theorem f40_15 : zF 40 15 = some (.bipush 24, 2, [], 0) := rfl
theorem f40_17 : zF 40 17 = some (.newarray .long, 2, [], 0) := rfl
theorem f40_19 : zF 40 19 = some (.putfield 18, 3, [5, 2, 2], 0) := rfl
theorem f40_22 : zF 40 22 = some (.return_, 1, [], 0) := rfl
theorem f41_0 : zF 41 0 = some (.aload_n 0, 1, [], 0) := rfl
theorem f41_1 : zF 41 1 = some (.getfield 11, 3, [5, 0, 0], 0) := rfl
theorem f41_4 : zF 41 4 = some (.iconst (-1), 1, [], 0) := rfl
theorem f41_5 : zF 41 5 = some (.if_icmp .ne 7, 3, [], 0) := rfl
theorem f41_8 : zF 41 8 = some (.iconst 1, 1, [], 0) := rfl
theorem f41_9 : zF 41 9 = some (.goto 4, 3, [], 0) := rfl
theorem f41_12 : zF 41 12 = some (.iconst 0, 1, [], 0) := rfl
theorem f41_13 : zF 41 13 = some (.ireturn, 1, [1], 0) := rfl
theorem f42_0 : zF 42 0 = some (.aload_n 0, 1, [], 0) := rfl
theorem f42_1 : zF 42 1 = some (.getfield 15, 3, [5, 1, 0], 0) := rfl
theorem f42_4 : zF 42 4 = some (.aload_n 1, 1, [], 0) := rfl
theorem f42_5 : zF 42 5 = some (.getfield 15, 3, [5, 1, 0], 0) := rfl
theorem f42_8 : zF 42 8 = some (.if_icmp .ne 7, 3, [], 0) := rfl
theorem f42_11 : zF 42 11 = some (.iconst 1, 1, [], 0) := rfl
theorem f42_12 : zF 42 12 = some (.goto 4, 3, [], 0) := rfl
theorem f42_15 : zF 42 15 = some (.iconst 0, 1, [], 0) := rfl
theorem f42_16 : zF 42 16 = some (.ireturn, 1, [1], 0) := rfl
theorem f43_0 : zF 43 0 = some (.iload_n 2, 1, [], 0) := rfl
theorem f43_1 : zF 43 1 = some (.ifCond .lt 21, 3, [], 0) := rfl
theorem f43_4 : zF 43 4 = some (.iload_n 1, 1, [], 0) := rfl
theorem f43_5 : zF 43 5 = some (.ifCond .lt 17, 3, [], 0) := rfl
theorem f43_8 : zF 43 8 = some (.iload_n 1, 1, [], 0) := rfl
theorem f43_9 : zF 43 9 = some (.aload_n 0, 1, [], 0) := rfl
theorem f43_10 : zF 43 10 = some (.getfield 11, 3, [5, 0, 0], 0) := rfl
theorem f43_13 : zF 43 13 = some (.iload_n 2, 1, [], 0) := rfl
theorem f43_14 : zF 43 14 = some (.isub, 1, [], 0) := rfl
theorem f43_15 : zF 43 15 = some (.if_icmp .gt 7, 3, [], 0) := rfl
theorem f43_18 : zF 43 18 = some (.iconst 1, 1, [], 0) := rfl
theorem f43_19 : zF 43 19 = some (.goto 4, 3, [], 0) := rfl
theorem f43_22 : zF 43 22 = some (.iconst 0, 1, [], 0) := rfl
theorem f43_23 : zF 43 23 = some (.ireturn, 1, [1], 0) := rfl
theorem f44_0 : zF 44 0 = some (.aload_n 0, 1, [], 0) := rfl
theorem f44_1 : zF 44 1 = some (.invokevirtual 22, 3, [0, 41, 5, 1, 1, 0, 0], 0) := rfl
theorem f44_4 : zF 44 4 = some (.ifCond .eq 6, 3, [], 0) := rfl
theorem f44_7 : zF 44 7 = some (.bipush (-11), 2, [], 0) := rfl
theorem f44_9 : zF 44 9 = some (.ireturn, 1, [0], 0) := rfl
theorem f44_10 : zF 44 10 = some (.iload_n 1, 1, [], 0) := rfl
theorem f44_11 : zF 44 11 = some (.aload_n 0, 1, [], 0) := rfl
theorem f44_12 : zF 44 12 = some (.getfield 15, 3, [5, 1, 0], 0) := rfl
theorem f44_15 : zF 44 15 = some (.if_icmp .eq 6, 3, [], 0) := rfl
theorem f44_18 : zF 44 18 = some (.bipush (-12), 2, [], 0) := rfl
theorem f44_20 : zF 44 20 = some (.ireturn, 1, [0], 0) := rfl
theorem f44_21 : zF 44 21 = some (.aload_n 0, 1, [], 0) := rfl
theorem f44_22 : zF 44 22 = some (.iload_n 2, 1, [], 0) := rfl
theorem f44_23 : zF 44 23 = some (.iload_n 3, 1, [], 0) := rfl
theorem f44_24 : zF 44 24 = some (.invokevirtual 26, 3, [0, 43, 5, 3, 3, 0, 0], 0) := rfl
theorem f44_27 : zF 44 27 = some (.ifCond .eq 7, 3, [], 0) := rfl
theorem f44_30 : zF 44 30 = some (.iconst 0, 1, [], 0) := rfl
theorem f44_31 : zF 44 31 = some (.goto 5, 3, [], 0) := rfl
theorem f44_34 : zF 44 34 = some (.bipush (-13), 2, [], 0) := rfl
theorem f44_36 : zF 44 36 = some (.ireturn, 1, [0], 0) := rfl
theorem f45_0 : zF 45 0 = some (.aload_n 0, 1, [], 0) := rfl
theorem f45_1 : zF 45 1 = some (.iload_n 1, 1, [], 0) := rfl
theorem f45_2 : zF 45 2 = some (.putfield 15, 3, [5, 1, 0], 0) := rfl
theorem f45_5 : zF 45 5 = some (.aload_n 0, 1, [], 0) := rfl
theorem f45_6 : zF 45 6 = some (.iload_n 2, 1, [], 0) := rfl
theorem f45_7 : zF 45 7 = some (.putfield 11, 3, [5, 0, 0], 0) := rfl
theorem f45_10 : zF 45 10 = some (.aload_n 0, 1, [], 0) := rfl
theorem f45_11 : zF 45 11 = some (.getfield 18, 3, [5, 2, 2], 0) := rfl
theorem f45_14 : zF 45 14 = some (.lconst 0, 1, [], 0) := rfl
theorem f45_15 : zF 45 15 = some (.invokestatic 30, 3, [1, 245, 0, 2, 5, 0, 0], 0) := rfl
theorem f45_18 : zF 45 18 = some (.return_, 1, [], 0) := rfl
theorem f46_0 : zF 46 0 = some (.aload_n 0, 1, [], 0) := rfl
theorem f46_1 : zF 46 1 = some (.getfield 11, 3, [5, 0, 0], 0) := rfl
theorem f46_4 : zF 46 4 = some (.istore_n 1, 1, [], 0) := rfl
theorem f46_5 : zF 46 5 = some (.aload_n 0, 1, [], 0) := rfl
theorem f46_6 : zF 46 6 = some (.iconst (-1), 1, [], 0) := rfl
theorem f46_7 : zF 46 7 = some (.putfield 11, 3, [5, 0, 0], 0) := rfl
theorem f46_10 : zF 46 10 = some (.iload_n 1, 1, [], 0) := rfl
theorem f46_11 : zF 46 11 = some (.ireturn, 1, [0], 0) := rfl
theorem f47_0 : zF 47 0 = some (.aload_n 0, 1, [], 0) := rfl
theorem f47_1 : zF 47 1 = some (.iload_n 1, 1, [], 0) := rfl
theorem f47_2 : zF 47 2 = some (.iconst 1, 1, [], 0) := rfl
theorem f47_3 : zF 47 3 = some (.invokevirtual 26, 3, [0, 43, 5, 3, 3, 0, 0], 0) := rfl
theorem f47_6 : zF 47 6 = some (.ifCond .ne 4, 3, [], 0) := rfl
theorem f47_9 : zF 47 9 = some (.return_, 1, [], 0) := rfl
theorem f47_10 : zF 47 10 = some (.aload_n 0, 1, [], 0) := rfl
theorem f47_11 : zF 47 11 = some (.getfield 15, 3, [5, 1, 0], 0) := rfl
theorem f47_14 : zF 47 14 = some (.tableswitch 64 0 2 #[26, 39, 52], 26, [], 0) := rfl
theorem f47_40 : zF 47 40 = some (.aload_n 0, 1, [], 0) := rfl
theorem f47_41 : zF 47 41 = some (.getfield 18, 3, [5, 2, 2], 0) := rfl
theorem f47_44 : zF 47 44 = some (.iload_n 1, 1, [], 0) := rfl
theorem f47_45 : zF 47 45 = some (.lload_n 2, 1, [], 0) := rfl
theorem f47_46 : zF 47 46 = some (.l2i, 1, [], 0) := rfl
theorem f47_47 : zF 47 47 = some (.i2b, 1, [], 0) := rfl
theorem f47_48 : zF 47 48 = some (.i2l, 1, [], 0) := rfl
theorem f47_49 : zF 47 49 = some (.lastore, 1, [], 0) := rfl
theorem f47_50 : zF 47 50 = some (.goto 35, 3, [], 0) := rfl
theorem f47_53 : zF 47 53 = some (.aload_n 0, 1, [], 0) := rfl
theorem f47_54 : zF 47 54 = some (.getfield 18, 3, [5, 2, 2], 0) := rfl
theorem f47_57 : zF 47 57 = some (.iload_n 1, 1, [], 0) := rfl
theorem f47_58 : zF 47 58 = some (.lload_n 2, 1, [], 0) := rfl
theorem f47_59 : zF 47 59 = some (.l2i, 1, [], 0) := rfl
theorem f47_60 : zF 47 60 = some (.i2s, 1, [], 0) := rfl
theorem f47_61 : zF 47 61 = some (.i2l, 1, [], 0) := rfl
theorem f47_62 : zF 47 62 = some (.lastore, 1, [], 0) := rfl
theorem f47_63 : zF 47 63 = some (.goto 22, 3, [], 0) := rfl
theorem f47_66 : zF 47 66 = some (.aload_n 0, 1, [], 0) := rfl
theorem f47_67 : zF 47 67 = some (.getfield 18, 3, [5, 2, 2], 0) := rfl
theorem f47_70 : zF 47 70 = some (.iload_n 1, 1, [], 0) := rfl
theorem f47_71 : zF 47 71 = some (.lload_n 2, 1, [], 0) := rfl
theorem f47_72 : zF 47 72 = some (.l2i, 1, [], 0) := rfl
theorem f47_73 : zF 47 73 = some (.i2l, 1, [], 0) := rfl
theorem f47_74 : zF 47 74 = some (.lastore, 1, [], 0) := rfl
theorem f47_75 : zF 47 75 = some (.goto 10, 3, [], 0) := rfl
theorem f47_78 : zF 47 78 = some (.aload_n 0, 1, [], 0) := rfl
theorem f47_79 : zF 47 79 = some (.getfield 18, 3, [5, 2, 2], 0) := rfl
theorem f47_82 : zF 47 82 = some (.iload_n 1, 1, [], 0) := rfl
theorem f47_83 : zF 47 83 = some (.lload_n 2, 1, [], 0) := rfl
theorem f47_84 : zF 47 84 = some (.lastore, 1, [], 0) := rfl
theorem f47_85 : zF 47 85 = some (.return_, 1, [], 0) := rfl
theorem f48_0 : zF 48 0 = some (.aload_n 0, 1, [], 0) := rfl
theorem f48_1 : zF 48 1 = some (.getfield 18, 3, [5, 2, 2], 0) := rfl
theorem f48_4 : zF 48 4 = some (.iload_n 1, 1, [], 0) := rfl
theorem f48_5 : zF 48 5 = some (.aload_n 2, 1, [], 0) := rfl
theorem f48_6 : zF 48 6 = some (.getfield 18, 3, [5, 2, 2], 0) := rfl
theorem f48_9 : zF 48 9 = some (.iload_n 3, 1, [], 0) := rfl
theorem f48_10 : zF 48 10 = some (.iload 4, 2, [], 0) := rfl
theorem f48_12 : zF 48 12 = some (.invokestatic 36, 3, [5], 0) := rfl
theorem f48_15 : zF 48 15 = some (.return_, 1, [], 0) := rfl
theorem f49_0 : zF 49 0 = some (.aload_n 0, 1, [], 0) := rfl
theorem f49_1 : zF 49 1 = some (.iload_n 1, 1, [], 0) := rfl
theorem f49_2 : zF 49 2 = some (.iconst 1, 1, [], 0) := rfl
theorem f49_3 : zF 49 3 = some (.invokevirtual 26, 3, [0, 43, 5, 3, 3, 0, 0], 0) := rfl
theorem f49_6 : zF 49 6 = some (.ifCond .eq 27, 3, [], 0) := rfl
theorem f49_9 : zF 49 9 = some (.aload_n 0, 1, [], 0) := rfl
theorem f49_10 : zF 49 10 = some (.getfield 18, 3, [5, 2, 2], 0) := rfl
theorem f49_13 : zF 49 13 = some (.iload_n 1, 1, [], 0) := rfl
theorem f49_14 : zF 49 14 = some (.laload, 1, [], 0) := rfl
theorem f49_15 : zF 49 15 = some (.lconst 0, 1, [], 0) := rfl
theorem f49_16 : zF 49 16 = some (.lcmp, 1, [], 0) := rfl
theorem f49_17 : zF 49 17 = some (.ifCond .lt 16, 3, [], 0) := rfl
theorem f49_20 : zF 49 20 = some (.aload_n 0, 1, [], 0) := rfl
theorem f49_21 : zF 49 21 = some (.getfield 18, 3, [5, 2, 2], 0) := rfl
theorem f49_24 : zF 49 24 = some (.iload_n 1, 1, [], 0) := rfl
theorem f49_25 : zF 49 25 = some (.laload, 1, [], 0) := rfl
theorem f49_26 : zF 49 26 = some (.ldc2_w 42, 3, [], 4) := rfl
theorem f49_29 : zF 49 29 = some (.lcmp, 1, [], 0) := rfl
theorem f49_30 : zF 49 30 = some (.ifCond .lt 6, 3, [], 0) := rfl
theorem f49_33 : zF 49 33 = some (.bipush (-4), 2, [], 0) := rfl
theorem f49_35 : zF 49 35 = some (.ireturn, 1, [0], 0) := rfl
theorem f49_36 : zF 49 36 = some (.aload_n 0, 1, [], 0) := rfl
theorem f49_37 : zF 49 37 = some (.getfield 18, 3, [5, 2, 2], 0) := rfl
theorem f49_40 : zF 49 40 = some (.iload_n 1, 1, [], 0) := rfl
theorem f49_41 : zF 49 41 = some (.laload, 1, [], 0) := rfl
theorem f49_42 : zF 49 42 = some (.l2i, 1, [], 0) := rfl
theorem f49_43 : zF 49 43 = some (.ireturn, 1, [0], 0) := rfl
theorem f50_0 : zF 50 0 = some (.iconst 0, 1, [], 0) := rfl
theorem f50_1 : zF 50 1 = some (.istore_n 3, 1, [], 0) := rfl
theorem f50_2 : zF 50 2 = some (.iload_n 3, 1, [], 0) := rfl
theorem f50_3 : zF 50 3 = some (.iload_n 2, 1, [], 0) := rfl
theorem f50_4 : zF 50 4 = some (.if_icmp .ge 23, 3, [], 0) := rfl
theorem f50_7 : zF 50 7 = some (.aload_n 0, 1, [], 0) := rfl
theorem f50_8 : zF 50 8 = some (.iload_n 1, 1, [], 0) := rfl
theorem f50_9 : zF 50 9 = some (.iload_n 3, 1, [], 0) := rfl
theorem f50_10 : zF 50 10 = some (.iadd, 1, [], 0) := rfl
theorem f50_11 : zF 50 11 = some (.invokevirtual 44, 3, [0, 49, 5, 2, 2, 0, 0], 0) := rfl
theorem f50_14 : zF 50 14 = some (.bipush (-4), 2, [], 0) := rfl
theorem f50_16 : zF 50 16 = some (.if_icmp .ne 5, 3, [], 0) := rfl
theorem f50_19 : zF 50 19 = some (.iconst 0, 1, [], 0) := rfl
theorem f50_20 : zF 50 20 = some (.ireturn, 1, [1], 0) := rfl
theorem f50_21 : zF 50 21 = some (.iinc 3 1, 3, [], 0) := rfl
theorem f50_24 : zF 50 24 = some (.goto (-22), 3, [], 0) := rfl
theorem f50_27 : zF 50 27 = some (.iconst 1, 1, [], 0) := rfl
theorem f50_28 : zF 50 28 = some (.ireturn, 1, [1], 0) := rfl
theorem f51_0 : zF 51 0 = some (.aload_n 0, 1, [], 0) := rfl
theorem f51_1 : zF 51 1 = some (.invokespecial 3, 3, [8], 0) := rfl
theorem f51_4 : zF 51 4 = some (.aload_n 0, 1, [], 0) := rfl
theorem f51_5 : zF 51 5 = some (.iconst 4, 1, [], 0) := rfl
theorem f51_6 : zF 51 6 = some (.anewarray 9, 3, [23], 0) := rfl
theorem f51_9 : zF 51 9 = some (.putfield 11, 3, [6, 0, 2], 0) := rfl
theorem f51_12 : zF 51 12 = some (.aload_n 0, 1, [], 0) := rfl
theorem f51_13 : zF 51 13 = some (.iconst 4, 1, [], 0) := rfl
theorem f51_14 : zF 51 14 = some (.anewarray 17, 3, [24], 0) := rfl
theorem f51_17 : zF 51 17 = some (.putfield 19, 3, [6, 1, 2], 0) := rfl
theorem f51_20 : zF 51 20 = some (.aload_n 0, 1, [], 0) := rfl
theorem f51_21 : zF 51 21 = some (.iconst 0, 1, [], 0) := rfl
theorem f51_22 : zF 51 22 = some (.putfield 23, 3, [6, 2, 0], 0) := rfl
theorem f51_25 : zF 51 25 = some (.aload_n 0, 1, [], 0) := rfl
theorem f51_26 : zF 51 26 = some (.iconst 0, 1, [], 0) := rfl
theorem f51_27 : zF 51 27 = some (.putfield 27, 3, [6, 3, 0], 0) := rfl
theorem f51_30 : zF 51 30 = some (.aload_n 0, 1, [], 0) := rfl
theorem f51_31 : zF 51 31 = some (.iconst 1, 1, [], 0) := rfl
theorem f51_32 : zF 51 32 = some (.putfield 30, 3, [6, 4, 0], 0) := rfl
theorem f51_35 : zF 51 35 = some (.aload_n 0, 1, [], 0) := rfl
theorem f51_36 : zF 51 36 = some (.iconst 0, 1, [], 0) := rfl
theorem f51_37 : zF 51 37 = some (.putfield 33, 3, [6, 5, 0], 0) := rfl
theorem f51_40 : zF 51 40 = some (.aload_n 0, 1, [], 0) := rfl
theorem f51_41 : zF 51 41 = some (.bipush 6, 2, [], 0) := rfl
theorem f51_43 : zF 51 43 = some (.newarray .int, 2, [], 0) := rfl
theorem f51_45 : zF 51 45 = some (.putfield 36, 3, [6, 6, 2], 0) := rfl
theorem f51_48 : zF 51 48 = some (.aload_n 0, 1, [], 0) := rfl
theorem f51_49 : zF 51 49 = some (.bipush 6, 2, [], 0) := rfl
theorem f51_51 : zF 51 51 = some (.newarray .int, 2, [], 0) := rfl
theorem f51_53 : zF 51 53 = some (.putfield 40, 3, [6, 7, 2], 0) := rfl
theorem f51_56 : zF 51 56 = some (.aload_n 0, 1, [], 0) := rfl
theorem f51_57 : zF 51 57 = some (.bipush 6, 2, [], 0) := rfl
theorem f51_59 : zF 51 59 = some (.newarray .int, 2, [], 0) := rfl
theorem f51_61 : zF 51 61 = some (.putfield 43, 3, [6, 8, 2], 0) := rfl
theorem f51_64 : zF 51 64 = some (.aload_n 0, 1, [], 0) := rfl
theorem f51_65 : zF 51 65 = some (.iconst 4, 1, [], 0) := rfl
theorem f51_66 : zF 51 66 = some (.newarray .int, 2, [], 0) := rfl
theorem f51_68 : zF 51 68 = some (.putfield 46, 3, [6, 9, 2], 0) := rfl
theorem f51_71 : zF 51 71 = some (.aload_n 0, 1, [], 0) := rfl
theorem f51_72 : zF 51 72 = some (.iconst 4, 1, [], 0) := rfl
theorem f51_73 : zF 51 73 = some (.newarray .int, 2, [], 0) := rfl
theorem f51_75 : zF 51 75 = some (.putfield 49, 3, [6, 10, 2], 0) := rfl
theorem f51_78 : zF 51 78 = some (.aload_n 0, 1, [], 0) := rfl
theorem f51_79 : zF 51 79 = some (.iconst 4, 1, [], 0) := rfl
theorem f51_80 : zF 51 80 = some (.newarray .int, 2, [], 0) := rfl
theorem f51_82 : zF 51 82 = some (.putfield 52, 3, [6, 11, 2], 0) := rfl
theorem f51_85 : zF 51 85 = some (.aload_n 0, 1, [], 0) := rfl
theorem f51_86 : zF 51 86 = some (.iconst 4, 1, [], 0) := rfl
theorem f51_87 : zF 51 87 = some (.newarray .int, 2, [], 0) := rfl
theorem f51_89 : zF 51 89 = some (.putfield 55, 3, [6, 12, 2], 0) := rfl
theorem f51_92 : zF 51 92 = some (.aload_n 0, 1, [], 0) := rfl
theorem f51_93 : zF 51 93 = some (.iconst 4, 1, [], 0) := rfl
theorem f51_94 : zF 51 94 = some (.newarray .int, 2, [], 0) := rfl
theorem f51_96 : zF 51 96 = some (.putfield 58, 3, [6, 13, 2], 0) := rfl
theorem f51_99 : zF 51 99 = some (.aload_n 0, 1, [], 0) := rfl
theorem f51_100 : zF 51 100 = some (.getfield 40, 3, [6, 7, 2], 0) := rfl
theorem f51_103 : zF 51 103 = some (.bipush (-4), 2, [], 0) := rfl
theorem f51_105 : zF 51 105 = some (.invokestatic 61, 3, [1, 246, 0, 2, 4, 0, 0], 0) := rfl
theorem f51_108 : zF 51 108 = some (.aload_n 0, 1, [], 0) := rfl
theorem f51_109 : zF 51 109 = some (.getfield 52, 3, [6, 11, 2], 0) := rfl
theorem f51_112 : zF 51 112 = some (.bipush (-4), 2, [], 0) := rfl
theorem f51_114 : zF 51 114 = some (.invokestatic 61, 3, [1, 246, 0, 2, 4, 0, 0], 0) := rfl
theorem f51_117 : zF 51 117 = some (.aload_n 0, 1, [], 0) := rfl
theorem f51_118 : zF 51 118 = some (.getfield 55, 3, [6, 12, 2], 0) := rfl
theorem f51_121 : zF 51 121 = some (.bipush (-4), 2, [], 0) := rfl
theorem f51_123 : zF 51 123 = some (.invokestatic 61, 3, [1, 246, 0, 2, 4, 0, 0], 0) := rfl
theorem f51_126 : zF 51 126 = some (.iconst 0, 1, [], 0) := rfl
theorem f51_127 : zF 51 127 = some (.istore_n 3, 1, [], 0) := rfl
theorem f51_128 : zF 51 128 = some (.iload_n 3, 1, [], 0) := rfl
theorem f51_129 : zF 51 129 = some (.iconst 4, 1, [], 0) := rfl
theorem f51_130 : zF 51 130 = some (.if_icmp .ge 23, 3, [], 0) := by decide +kernel
theorem f51_133 : zF 51 133 = some (.aload_n 0, 1, [], 0) := by decide +kernel
theorem f51_134 : zF 51 134 = some (.getfield 11, 3, [6, 0, 2], 0) := by decide +kernel
theorem f51_137 : zF 51 137 = some (.iload_n 3, 1, [], 0) := by decide +kernel
theorem f51_138 : zF 51 138 = some (.aload_n 1, 1, [], 0) := by decide +kernel
theorem f51_139 : zF 51 139 = some (.aastore, 1, [], 0) := by decide +kernel
theorem f51_140 : zF 51 140 = some (.aload_n 0, 1, [], 0) := by decide +kernel
theorem f51_141 : zF 51 141 = some (.getfield 19, 3, [6, 1, 2], 0) := by decide +kernel
theorem f51_144 : zF 51 144 = some (.iload_n 3, 1, [], 0) := by decide +kernel
theorem f51_145 : zF 51 145 = some (.aload_n 2, 1, [], 0) := by decide +kernel
theorem f51_146 : zF 51 146 = some (.aastore, 1, [], 0) := by decide +kernel
theorem f51_147 : zF 51 147 = some (.iinc 3 1, 3, [], 0) := by decide +kernel
theorem f51_150 : zF 51 150 = some (.goto (-22), 3, [], 0) := by decide +kernel
theorem f51_153 : zF 51 153 = some (.return_, 1, [], 0) := by decide +kernel
theorem f52_0 : zF 52 0 = some (.aload_n 0, 1, [], 0) := rfl
theorem f52_1 : zF 52 1 = some (.aload_n 1, 1, [], 0) := rfl
theorem f52_2 : zF 52 2 = some (.getfield 23, 3, [6, 2, 0], 0) := rfl
theorem f52_5 : zF 52 5 = some (.putfield 23, 3, [6, 2, 0], 0) := rfl
theorem f52_8 : zF 52 8 = some (.aload_n 0, 1, [], 0) := rfl
theorem f52_9 : zF 52 9 = some (.aload_n 1, 1, [], 0) := rfl
theorem f52_10 : zF 52 10 = some (.getfield 27, 3, [6, 3, 0], 0) := rfl
theorem f52_13 : zF 52 13 = some (.putfield 27, 3, [6, 3, 0], 0) := rfl
theorem f52_16 : zF 52 16 = some (.aload_n 0, 1, [], 0) := rfl
theorem f52_17 : zF 52 17 = some (.aload_n 1, 1, [], 0) := rfl
theorem f52_18 : zF 52 18 = some (.getfield 30, 3, [6, 4, 0], 0) := rfl
theorem f52_21 : zF 52 21 = some (.putfield 30, 3, [6, 4, 0], 0) := rfl
theorem f52_24 : zF 52 24 = some (.aload_n 0, 1, [], 0) := rfl
theorem f52_25 : zF 52 25 = some (.aload_n 1, 1, [], 0) := rfl
theorem f52_26 : zF 52 26 = some (.getfield 33, 3, [6, 5, 0], 0) := rfl
theorem f52_29 : zF 52 29 = some (.putfield 33, 3, [6, 5, 0], 0) := rfl
theorem f52_32 : zF 52 32 = some (.iconst 0, 1, [], 0) := rfl
theorem f52_33 : zF 52 33 = some (.istore_n 2, 1, [], 0) := rfl
theorem f52_34 : zF 52 34 = some (.iload_n 2, 1, [], 0) := rfl
theorem f52_35 : zF 52 35 = some (.bipush 6, 2, [], 0) := rfl
theorem f52_37 : zF 52 37 = some (.if_icmp .ge 45, 3, [], 0) := rfl
theorem f52_40 : zF 52 40 = some (.aload_n 0, 1, [], 0) := rfl
theorem f52_41 : zF 52 41 = some (.getfield 36, 3, [6, 6, 2], 0) := rfl
theorem f52_44 : zF 52 44 = some (.iload_n 2, 1, [], 0) := rfl
theorem f52_45 : zF 52 45 = some (.aload_n 1, 1, [], 0) := rfl
theorem f52_46 : zF 52 46 = some (.getfield 36, 3, [6, 6, 2], 0) := rfl
theorem f52_49 : zF 52 49 = some (.iload_n 2, 1, [], 0) := rfl
theorem f52_50 : zF 52 50 = some (.iaload, 1, [], 0) := rfl
theorem f52_51 : zF 52 51 = some (.iastore, 1, [], 0) := rfl
theorem f52_52 : zF 52 52 = some (.aload_n 0, 1, [], 0) := rfl
theorem f52_53 : zF 52 53 = some (.getfield 40, 3, [6, 7, 2], 0) := rfl
theorem f52_56 : zF 52 56 = some (.iload_n 2, 1, [], 0) := rfl
theorem f52_57 : zF 52 57 = some (.aload_n 1, 1, [], 0) := rfl
theorem f52_58 : zF 52 58 = some (.getfield 40, 3, [6, 7, 2], 0) := rfl
theorem f52_61 : zF 52 61 = some (.iload_n 2, 1, [], 0) := rfl
theorem f52_62 : zF 52 62 = some (.iaload, 1, [], 0) := rfl
theorem f52_63 : zF 52 63 = some (.iastore, 1, [], 0) := rfl
theorem f52_64 : zF 52 64 = some (.aload_n 0, 1, [], 0) := rfl
theorem f52_65 : zF 52 65 = some (.getfield 43, 3, [6, 8, 2], 0) := rfl
theorem f52_68 : zF 52 68 = some (.iload_n 2, 1, [], 0) := rfl
theorem f52_69 : zF 52 69 = some (.aload_n 1, 1, [], 0) := rfl
theorem f52_70 : zF 52 70 = some (.getfield 43, 3, [6, 8, 2], 0) := rfl
theorem f52_73 : zF 52 73 = some (.iload_n 2, 1, [], 0) := rfl
theorem f52_74 : zF 52 74 = some (.iaload, 1, [], 0) := rfl
theorem f52_75 : zF 52 75 = some (.iastore, 1, [], 0) := rfl
theorem f52_76 : zF 52 76 = some (.iinc 2 1, 3, [], 0) := rfl
theorem f52_79 : zF 52 79 = some (.goto (-45), 3, [], 0) := rfl
theorem f52_82 : zF 52 82 = some (.iconst 0, 1, [], 0) := rfl
theorem f52_83 : zF 52 83 = some (.istore_n 2, 1, [], 0) := rfl
theorem f52_84 : zF 52 84 = some (.iload_n 2, 1, [], 0) := rfl
theorem f52_85 : zF 52 85 = some (.iconst 4, 1, [], 0) := rfl
theorem f52_86 : zF 52 86 = some (.if_icmp .ge 93, 3, [], 0) := rfl
theorem f52_89 : zF 52 89 = some (.aload_n 0, 1, [], 0) := rfl
theorem f52_90 : zF 52 90 = some (.getfield 11, 3, [6, 0, 2], 0) := rfl
theorem f52_93 : zF 52 93 = some (.iload_n 2, 1, [], 0) := rfl
theorem f52_94 : zF 52 94 = some (.aload_n 1, 1, [], 0) := rfl
theorem f52_95 : zF 52 95 = some (.getfield 11, 3, [6, 0, 2], 0) := rfl
theorem f52_98 : zF 52 98 = some (.iload_n 2, 1, [], 0) := rfl
theorem f52_99 : zF 52 99 = some (.aaload, 1, [], 0) := rfl
theorem f52_100 : zF 52 100 = some (.aastore, 1, [], 0) := rfl
theorem f52_101 : zF 52 101 = some (.aload_n 0, 1, [], 0) := rfl
theorem f52_102 : zF 52 102 = some (.getfield 19, 3, [6, 1, 2], 0) := rfl
theorem f52_105 : zF 52 105 = some (.iload_n 2, 1, [], 0) := rfl
theorem f52_106 : zF 52 106 = some (.aload_n 1, 1, [], 0) := rfl
theorem f52_107 : zF 52 107 = some (.getfield 19, 3, [6, 1, 2], 0) := rfl
theorem f52_110 : zF 52 110 = some (.iload_n 2, 1, [], 0) := rfl
theorem f52_111 : zF 52 111 = some (.aaload, 1, [], 0) := rfl
theorem f52_112 : zF 52 112 = some (.aastore, 1, [], 0) := rfl
theorem f52_113 : zF 52 113 = some (.aload_n 0, 1, [], 0) := rfl
theorem f52_114 : zF 52 114 = some (.getfield 46, 3, [6, 9, 2], 0) := rfl
theorem f52_117 : zF 52 117 = some (.iload_n 2, 1, [], 0) := by decide +kernel
theorem f52_118 : zF 52 118 = some (.aload_n 1, 1, [], 0) := by decide +kernel
theorem f52_119 : zF 52 119 = some (.getfield 46, 3, [6, 9, 2], 0) := by decide +kernel
theorem f52_122 : zF 52 122 = some (.iload_n 2, 1, [], 0) := by decide +kernel
theorem f52_123 : zF 52 123 = some (.iaload, 1, [], 0) := by decide +kernel
theorem f52_124 : zF 52 124 = some (.iastore, 1, [], 0) := by decide +kernel
theorem f52_125 : zF 52 125 = some (.aload_n 0, 1, [], 0) := by decide +kernel
theorem f52_126 : zF 52 126 = some (.getfield 49, 3, [6, 10, 2], 0) := by decide +kernel
theorem f52_129 : zF 52 129 = some (.iload_n 2, 1, [], 0) := by decide +kernel
theorem f52_130 : zF 52 130 = some (.aload_n 1, 1, [], 0) := by decide +kernel
theorem f52_131 : zF 52 131 = some (.getfield 49, 3, [6, 10, 2], 0) := by decide +kernel
theorem f52_134 : zF 52 134 = some (.iload_n 2, 1, [], 0) := by decide +kernel
theorem f52_135 : zF 52 135 = some (.iaload, 1, [], 0) := by decide +kernel
theorem f52_136 : zF 52 136 = some (.iastore, 1, [], 0) := by decide +kernel
theorem f52_137 : zF 52 137 = some (.aload_n 0, 1, [], 0) := by decide +kernel
theorem f52_138 : zF 52 138 = some (.getfield 52, 3, [6, 11, 2], 0) := by decide +kernel
theorem f52_141 : zF 52 141 = some (.iload_n 2, 1, [], 0) := by decide +kernel
theorem f52_142 : zF 52 142 = some (.aload_n 1, 1, [], 0) := by decide +kernel
theorem f52_143 : zF 52 143 = some (.getfield 52, 3, [6, 11, 2], 0) := by decide +kernel
theorem f52_146 : zF 52 146 = some (.iload_n 2, 1, [], 0) := by decide +kernel
theorem f52_147 : zF 52 147 = some (.iaload, 1, [], 0) := by decide +kernel
theorem f52_148 : zF 52 148 = some (.iastore, 1, [], 0) := by decide +kernel
theorem f52_149 : zF 52 149 = some (.aload_n 0, 1, [], 0) := by decide +kernel
theorem f52_150 : zF 52 150 = some (.getfield 55, 3, [6, 12, 2], 0) := by decide +kernel
theorem f52_153 : zF 52 153 = some (.iload_n 2, 1, [], 0) := by decide +kernel
theorem f52_154 : zF 52 154 = some (.aload_n 1, 1, [], 0) := by decide +kernel
theorem f52_155 : zF 52 155 = some (.getfield 55, 3, [6, 12, 2], 0) := by decide +kernel
theorem f52_158 : zF 52 158 = some (.iload_n 2, 1, [], 0) := by decide +kernel
theorem f52_159 : zF 52 159 = some (.iaload, 1, [], 0) := by decide +kernel
theorem f52_160 : zF 52 160 = some (.iastore, 1, [], 0) := by decide +kernel
theorem f52_161 : zF 52 161 = some (.aload_n 0, 1, [], 0) := by decide +kernel
theorem f52_162 : zF 52 162 = some (.getfield 58, 3, [6, 13, 2], 0) := by decide +kernel
theorem f52_165 : zF 52 165 = some (.iload_n 2, 1, [], 0) := by decide +kernel
theorem f52_166 : zF 52 166 = some (.aload_n 1, 1, [], 0) := by decide +kernel
theorem f52_167 : zF 52 167 = some (.getfield 58, 3, [6, 13, 2], 0) := by decide +kernel
theorem f52_170 : zF 52 170 = some (.iload_n 2, 1, [], 0) := by decide +kernel
theorem f52_171 : zF 52 171 = some (.iaload, 1, [], 0) := by decide +kernel
theorem f52_172 : zF 52 172 = some (.iastore, 1, [], 0) := by decide +kernel
theorem f52_173 : zF 52 173 = some (.iinc 2 1, 3, [], 0) := by decide +kernel
theorem f52_176 : zF 52 176 = some (.goto (-92), 3, [], 0) := by decide +kernel
theorem f52_179 : zF 52 179 = some (.return_, 1, [], 0) := by decide +kernel
theorem f53_0 : zF 53 0 = some (.aload_n 0, 1, [], 0) := rfl
theorem f53_1 : zF 53 1 = some (.getfield 11, 3, [6, 0, 2], 0) := rfl
theorem f53_4 : zF 53 4 = some (.iload_n 1, 1, [], 0) := rfl
theorem f53_5 : zF 53 5 = some (.aaload, 1, [], 0) := rfl
theorem f53_6 : zF 53 6 = some (.areturn, 1, [], 0) := rfl
theorem f54_0 : zF 54 0 = some (.aload_n 0, 1, [], 0) := rfl
theorem f54_1 : zF 54 1 = some (.getfield 19, 3, [6, 1, 2], 0) := rfl
theorem f54_4 : zF 54 4 = some (.iload_n 1, 1, [], 0) := rfl
theorem f54_5 : zF 54 5 = some (.aaload, 1, [], 0) := rfl
theorem f54_6 : zF 54 6 = some (.areturn, 1, [], 0) := rfl
theorem f55_0 : zF 55 0 = some (.aload_n 0, 1, [], 0) := rfl
theorem f55_1 : zF 55 1 = some (.getfield 23, 3, [6, 2, 0], 0) := rfl
theorem f55_4 : zF 55 4 = some (.ireturn, 1, [0], 0) := rfl
theorem f56_0 : zF 56 0 = some (.aload_n 0, 1, [], 0) := rfl
theorem f56_1 : zF 56 1 = some (.getfield 27, 3, [6, 3, 0], 0) := rfl
theorem f56_4 : zF 56 4 = some (.ireturn, 1, [0], 0) := rfl
theorem f57_0 : zF 57 0 = some (.aload_n 0, 1, [], 0) := rfl
theorem f57_1 : zF 57 1 = some (.getfield 49, 3, [6, 10, 2], 0) := rfl
theorem f57_4 : zF 57 4 = some (.iload_n 1, 1, [], 0) := rfl
theorem f57_5 : zF 57 5 = some (.iaload, 1, [], 0) := rfl
theorem f57_6 : zF 57 6 = some (.ireturn, 1, [0], 0) := rfl
theorem f58_0 : zF 58 0 = some (.aload_n 0, 1, [], 0) := rfl
theorem f58_1 : zF 58 1 = some (.getfield 46, 3, [6, 9, 2], 0) := rfl
theorem f58_4 : zF 58 4 = some (.iload_n 1, 1, [], 0) := rfl
theorem f58_5 : zF 58 5 = some (.iaload, 1, [], 0) := rfl
theorem f58_6 : zF 58 6 = some (.iconst 3, 1, [], 0) := rfl
theorem f58_7 : zF 58 7 = some (.if_icmp .eq 13, 3, [], 0) := rfl
theorem f58_10 : zF 58 10 = some (.aload_n 0, 1, [], 0) := rfl
theorem f58_11 : zF 58 11 = some (.getfield 46, 3, [6, 9, 2], 0) := rfl
theorem f58_14 : zF 58 14 = some (.iload_n 1, 1, [], 0) := rfl
theorem f58_15 : zF 58 15 = some (.iaload, 1, [], 0) := rfl
theorem f58_16 : zF 58 16 = some (.iconst 4, 1, [], 0) := rfl
theorem f58_17 : zF 58 17 = some (.if_icmp .ne 7, 3, [], 0) := rfl
theorem f58_20 : zF 58 20 = some (.iconst 1, 1, [], 0) := rfl
theorem f58_21 : zF 58 21 = some (.goto 4, 3, [], 0) := rfl
theorem f58_24 : zF 58 24 = some (.iconst 0, 1, [], 0) := rfl
theorem f58_25 : zF 58 25 = some (.ireturn, 1, [1], 0) := rfl
theorem f59_0 : zF 59 0 = some (.aload_n 0, 1, [], 0) := rfl
theorem f59_1 : zF 59 1 = some (.getfield 46, 3, [6, 9, 2], 0) := rfl
theorem f59_4 : zF 59 4 = some (.iload_n 1, 1, [], 0) := rfl
theorem f59_5 : zF 59 5 = some (.iaload, 1, [], 0) := rfl
theorem f59_6 : zF 59 6 = some (.iconst 2, 1, [], 0) := rfl
theorem f59_7 : zF 59 7 = some (.if_icmp .ne 7, 3, [], 0) := rfl
theorem f59_10 : zF 59 10 = some (.iconst 1, 1, [], 0) := rfl
theorem f59_11 : zF 59 11 = some (.goto 4, 3, [], 0) := rfl
theorem f59_14 : zF 59 14 = some (.iconst 0, 1, [], 0) := rfl
theorem f59_15 : zF 59 15 = some (.ireturn, 1, [1], 0) := rfl
theorem f60_0 : zF 60 0 = some (.aload_n 0, 1, [], 0) := rfl
theorem f60_1 : zF 60 1 = some (.iconst 1, 1, [], 0) := rfl
theorem f60_2 : zF 60 2 = some (.invokevirtual 67, 3, [0, 62, 6, 2, 4, 0, 0], 0) := rfl
theorem f60_5 : zF 60 5 = some (.aload_n 0, 1, [], 0) := rfl
theorem f60_6 : zF 60 6 = some (.iconst 2, 1, [], 0) := rfl
theorem f60_7 : zF 60 7 = some (.invokevirtual 67, 3, [0, 62, 6, 2, 4, 0, 0], 0) := rfl
theorem f60_10 : zF 60 10 = some (.ior, 1, [], 0) := rfl
theorem f60_11 : zF 60 11 = some (.ifCond .eq 7, 3, [], 0) := rfl
theorem f60_14 : zF 60 14 = some (.iconst 1, 1, [], 0) := rfl
theorem f60_15 : zF 60 15 = some (.goto 4, 3, [], 0) := rfl
theorem f60_18 : zF 60 18 = some (.iconst 0, 1, [], 0) := rfl
theorem f60_19 : zF 60 19 = some (.ireturn, 1, [1], 0) := rfl
theorem f61_0 : zF 61 0 = some (.aload_n 0, 1, [], 0) := rfl
theorem f61_1 : zF 61 1 = some (.iconst 0, 1, [], 0) := rfl
theorem f61_2 : zF 61 2 = some (.invokevirtual 67, 3, [0, 62, 6, 2, 4, 0, 0], 0) := rfl
theorem f61_5 : zF 61 5 = some (.iconst 4, 1, [], 0) := rfl
theorem f61_6 : zF 61 6 = some (.invokestatic 71, 3, [3, 146, 0, 1, 1, 0, 0], 0) := rfl
theorem f61_9 : zF 61 9 = some (.iconst 1, 1, [], 0) := rfl
theorem f61_10 : zF 61 10 = some (.isub, 1, [], 0) := rfl
theorem f61_11 : zF 61 11 = some (.if_icmp .ne 14, 3, [], 0) := rfl
theorem f61_14 : zF 61 14 = some (.aload_n 0, 1, [], 0) := rfl
theorem f61_15 : zF 61 15 = some (.getfield 33, 3, [6, 5, 0], 0) := rfl
theorem f61_18 : zF 61 18 = some (.ifCond .ne 7, 3, [], 0) := rfl
theorem f61_21 : zF 61 21 = some (.iconst 1, 1, [], 0) := rfl
theorem f61_22 : zF 61 22 = some (.goto 4, 3, [], 0) := rfl
theorem f61_25 : zF 61 25 = some (.iconst 0, 1, [], 0) := rfl
theorem f61_26 : zF 61 26 = some (.ireturn, 1, [1], 0) := rfl
theorem f62_0 : zF 62 0 = some (.iconst 0, 1, [], 0) := rfl
theorem f62_1 : zF 62 1 = some (.istore_n 2, 1, [], 0) := rfl
theorem f62_2 : zF 62 2 = some (.iconst 0, 1, [], 0) := rfl
theorem f62_3 : zF 62 3 = some (.istore_n 3, 1, [], 0) := rfl
theorem f62_4 : zF 62 4 = some (.iload_n 3, 1, [], 0) := rfl
theorem f62_5 : zF 62 5 = some (.iconst 4, 1, [], 0) := rfl
theorem f62_6 : zF 62 6 = some (.if_icmp .ge 26, 3, [], 0) := rfl
theorem f62_9 : zF 62 9 = some (.aload_n 0, 1, [], 0) := rfl
theorem f62_10 : zF 62 10 = some (.getfield 46, 3, [6, 9, 2], 0) := rfl
theorem f62_13 : zF 62 13 = some (.iload_n 3, 1, [], 0) := rfl
theorem f62_14 : zF 62 14 = some (.iaload, 1, [], 0) := rfl
theorem f62_15 : zF 62 15 = some (.iload_n 1, 1, [], 0) := rfl
theorem f62_16 : zF 62 16 = some (.if_icmp .ne 10, 3, [], 0) := rfl
theorem f62_19 : zF 62 19 = some (.iload_n 2, 1, [], 0) := rfl
theorem f62_20 : zF 62 20 = some (.iload_n 3, 1, [], 0) := rfl
theorem f62_21 : zF 62 21 = some (.invokestatic 71, 3, [3, 146, 0, 1, 1, 0, 0], 0) := rfl
theorem f62_24 : zF 62 24 = some (.ior, 1, [], 0) := rfl
theorem f62_25 : zF 62 25 = some (.istore_n 2, 1, [], 0) := rfl
theorem f62_26 : zF 62 26 = some (.iinc 3 1, 3, [], 0) := rfl
theorem f62_29 : zF 62 29 = some (.goto (-25), 3, [], 0) := rfl
theorem f62_32 : zF 62 32 = some (.iload_n 2, 1, [], 0) := rfl
theorem f62_33 : zF 62 33 = some (.ireturn, 1, [0], 0) := rfl
theorem f63_0 : zF 63 0 = some (.aload_n 0, 1, [], 0) := rfl
theorem f63_1 : zF 63 1 = some (.iconst 0, 1, [], 0) := rfl
theorem f63_2 : zF 63 2 = some (.invokevirtual 67, 3, [0, 62, 6, 2, 4, 0, 0], 0) := rfl
theorem f63_5 : zF 63 5 = some (.aload_n 0, 1, [], 0) := rfl
theorem f63_6 : zF 63 6 = some (.iconst 1, 1, [], 0) := rfl
theorem f63_7 : zF 63 7 = some (.invokevirtual 67, 3, [0, 62, 6, 2, 4, 0, 0], 0) := rfl
theorem f63_10 : zF 63 10 = some (.ior, 1, [], 0) := rfl
theorem f63_11 : zF 63 11 = some (.aload_n 0, 1, [], 0) := rfl
theorem f63_12 : zF 63 12 = some (.iconst 2, 1, [], 0) := rfl
theorem f63_13 : zF 63 13 = some (.invokevirtual 67, 3, [0, 62, 6, 2, 4, 0, 0], 0) := rfl
theorem f63_16 : zF 63 16 = some (.ior, 1, [], 0) := rfl
theorem f63_17 : zF 63 17 = some (.ireturn, 1, [0], 0) := rfl
theorem f64_0 : zF 64 0 = some (.iload_n 2, 1, [], 0) := rfl
theorem f64_1 : zF 64 1 = some (.tableswitch 82 0 4 #[35, 45, 52, 59, 76], 35, [], 0) := rfl
theorem f64_36 : zF 64 36 = some (.aload_n 0, 1, [], 0) := rfl
theorem f64_37 : zF 64 37 = some (.getfield 36, 3, [6, 6, 2], 0) := rfl
theorem f64_40 : zF 64 40 = some (.iload_n 1, 1, [], 0) := rfl
theorem f64_41 : zF 64 41 = some (.iaload, 1, [], 0) := rfl
theorem f64_42 : zF 64 42 = some (.ldc 74, 2, [], 1000000) := rfl
theorem f64_44 : zF 64 44 = some (.iadd, 1, [], 0) := rfl
theorem f64_45 : zF 64 45 = some (.ireturn, 1, [0], 0) := rfl
theorem f64_46 : zF 64 46 = some (.aload_n 0, 1, [], 0) := rfl
theorem f64_47 : zF 64 47 = some (.getfield 40, 3, [6, 7, 2], 0) := rfl
theorem f64_50 : zF 64 50 = some (.iload_n 1, 1, [], 0) := rfl
theorem f64_51 : zF 64 51 = some (.iaload, 1, [], 0) := rfl
theorem f64_52 : zF 64 52 = some (.ireturn, 1, [0], 0) := rfl
theorem f64_53 : zF 64 53 = some (.aload_n 0, 1, [], 0) := rfl
theorem f64_54 : zF 64 54 = some (.getfield 43, 3, [6, 8, 2], 0) := rfl
theorem f64_57 : zF 64 57 = some (.iload_n 1, 1, [], 0) := rfl
theorem f64_58 : zF 64 58 = some (.iaload, 1, [], 0) := rfl
theorem f64_59 : zF 64 59 = some (.ireturn, 1, [0], 0) := rfl
theorem f64_60 : zF 64 60 = some (.aload_n 0, 1, [], 0) := rfl
theorem f64_61 : zF 64 61 = some (.getfield 23, 3, [6, 2, 0], 0) := rfl
theorem f64_64 : zF 64 64 = some (.iload_n 1, 1, [], 0) := rfl
theorem f64_65 : zF 64 65 = some (.invokestatic 75, 3, [3, 147, 0, 2, 2, 0, 0], 0) := rfl
theorem f64_68 : zF 64 68 = some (.ifCond .eq 7, 3, [], 0) := rfl
theorem f64_71 : zF 64 71 = some (.iconst 1, 1, [], 0) := rfl
theorem f64_72 : zF 64 72 = some (.goto 4, 3, [], 0) := rfl
theorem f64_75 : zF 64 75 = some (.iconst 0, 1, [], 0) := rfl
theorem f64_76 : zF 64 76 = some (.ireturn, 1, [0], 0) := rfl
theorem f64_77 : zF 64 77 = some (.aload_n 0, 1, [], 0) := rfl
theorem f64_78 : zF 64 78 = some (.iload_n 1, 1, [], 0) := rfl
theorem f64_79 : zF 64 79 = some (.invokevirtual 79, 3, [0, 67, 6, 2, 4, 0, 0], 0) := rfl
theorem f64_82 : zF 64 82 = some (.ireturn, 1, [0], 0) := rfl
theorem f64_83 : zF 64 83 = some (.iconst (-1), 1, [], 0) := rfl
theorem f64_84 : zF 64 84 = some (.ireturn, 1, [0], 0) := rfl
theorem f65_0 : zF 65 0 = some (.iload_n 2, 1, [], 0) := rfl
theorem f65_1 : zF 65 1 = some (.tableswitch 98 0 6 #[43, 50, 57, 63, 70, 77, 84], 43, [], 0) := rfl
theorem f65_44 : zF 65 44 = some (.aload_n 0, 1, [], 0) := rfl
theorem f65_45 : zF 65 45 = some (.getfield 46, 3, [6, 9, 2], 0) := rfl
theorem f65_48 : zF 65 48 = some (.iload_n 1, 1, [], 0) := rfl
theorem f65_49 : zF 65 49 = some (.iaload, 1, [], 0) := rfl
theorem f65_50 : zF 65 50 = some (.ireturn, 1, [0], 0) := rfl
theorem f65_51 : zF 65 51 = some (.aload_n 0, 1, [], 0) := rfl
theorem f65_52 : zF 65 52 = some (.getfield 49, 3, [6, 10, 2], 0) := rfl
theorem f65_55 : zF 65 55 = some (.iload_n 1, 1, [], 0) := rfl
theorem f65_56 : zF 65 56 = some (.iaload, 1, [], 0) := rfl
theorem f65_57 : zF 65 57 = some (.ireturn, 1, [0], 0) := rfl
theorem f65_58 : zF 65 58 = some (.aload_n 0, 1, [], 0) := rfl
theorem f65_59 : zF 65 59 = some (.iload_n 1, 1, [], 0) := rfl
theorem f65_60 : zF 65 60 = some (.invokevirtual 82, 3, [0, 68, 6, 2, 4, 0, 0], 0) := rfl
theorem f65_63 : zF 65 63 = some (.ireturn, 1, [0], 0) := rfl
theorem f65_64 : zF 65 64 = some (.aload_n 0, 1, [], 0) := rfl
theorem f65_65 : zF 65 65 = some (.getfield 52, 3, [6, 11, 2], 0) := rfl
theorem f65_68 : zF 65 68 = some (.iload_n 1, 1, [], 0) := rfl
theorem f65_69 : zF 65 69 = some (.iaload, 1, [], 0) := rfl
theorem f65_70 : zF 65 70 = some (.ireturn, 1, [0], 0) := rfl
theorem f65_71 : zF 65 71 = some (.aload_n 0, 1, [], 0) := rfl
theorem f65_72 : zF 65 72 = some (.getfield 55, 3, [6, 12, 2], 0) := rfl
theorem f65_75 : zF 65 75 = some (.iload_n 1, 1, [], 0) := rfl
theorem f65_76 : zF 65 76 = some (.iaload, 1, [], 0) := rfl
theorem f65_77 : zF 65 77 = some (.ireturn, 1, [0], 0) := rfl
theorem f65_78 : zF 65 78 = some (.aload_n 0, 1, [], 0) := rfl
theorem f65_79 : zF 65 79 = some (.getfield 58, 3, [6, 13, 2], 0) := rfl
theorem f65_82 : zF 65 82 = some (.iload_n 1, 1, [], 0) := rfl
theorem f65_83 : zF 65 83 = some (.iaload, 1, [], 0) := rfl
theorem f65_84 : zF 65 84 = some (.ireturn, 1, [0], 0) := rfl
theorem f65_85 : zF 65 85 = some (.aload_n 0, 1, [], 0) := rfl
theorem f65_86 : zF 65 86 = some (.iload_n 1, 1, [], 0) := rfl
theorem f65_87 : zF 65 87 = some (.invokevirtual 85, 3, [0, 70, 6, 2, 5, 0, 0], 0) := rfl
theorem f65_90 : zF 65 90 = some (.ifCond .eq 7, 3, [], 0) := rfl
theorem f65_93 : zF 65 93 = some (.iconst 1, 1, [], 0) := rfl
theorem f65_94 : zF 65 94 = some (.goto 4, 3, [], 0) := rfl
theorem f65_97 : zF 65 97 = some (.iconst 0, 1, [], 0) := rfl
theorem f65_98 : zF 65 98 = some (.ireturn, 1, [0], 0) := rfl
theorem f65_99 : zF 65 99 = some (.iconst (-1), 1, [], 0) := rfl
theorem f65_100 : zF 65 100 = some (.ireturn, 1, [0], 0) := rfl
theorem f66_0 : zF 66 0 = some (.iload_n 1, 1, [], 0) := rfl
theorem f66_1 : zF 66 1 = some (.tableswitch 73 0 7 #[47, 52, 52, 52, 52, 58, 63, 68], 47, [], 0) := rfl
theorem f66_48 : zF 66 48 = some (.aload_n 0, 1, [], 0) := rfl
theorem f66_49 : zF 66 49 = some (.getfield 27, 3, [6, 3, 0], 0) := rfl
theorem f66_52 : zF 66 52 = some (.ireturn, 1, [0], 0) := rfl
theorem f66_53 : zF 66 53 = some (.aload_n 0, 1, [], 0) := rfl
theorem f66_54 : zF 66 54 = some (.iload_n 1, 1, [], 0) := rfl
theorem f66_55 : zF 66 55 = some (.invokevirtual 67, 3, [0, 62, 6, 2, 4, 0, 0], 0) := rfl
theorem f66_58 : zF 66 58 = some (.ireturn, 1, [0], 0) := rfl
theorem f66_59 : zF 66 59 = some (.aload_n 0, 1, [], 0) := rfl
theorem f66_60 : zF 66 60 = some (.invokevirtual 88, 3, [0, 69, 6, 1, 3, 0, 0], 0) := rfl
theorem f66_63 : zF 66 63 = some (.ireturn, 1, [0], 0) := rfl
theorem f66_64 : zF 66 64 = some (.aload_n 0, 1, [], 0) := rfl
theorem f66_65 : zF 66 65 = some (.getfield 23, 3, [6, 2, 0], 0) := rfl
theorem f66_68 : zF 66 68 = some (.ireturn, 1, [0], 0) := rfl
theorem f66_69 : zF 66 69 = some (.aload_n 0, 1, [], 0) := rfl
theorem f66_70 : zF 66 70 = some (.getfield 33, 3, [6, 5, 0], 0) := rfl
theorem f66_73 : zF 66 73 = some (.ireturn, 1, [0], 0) := rfl
theorem f66_74 : zF 66 74 = some (.iconst (-1), 1, [], 0) := rfl
theorem f66_75 : zF 66 75 = some (.ireturn, 1, [0], 0) := rfl
theorem f67_0 : zF 67 0 = some (.iconst 0, 1, [], 0) := rfl
theorem f67_1 : zF 67 1 = some (.istore_n 2, 1, [], 0) := rfl
theorem f67_2 : zF 67 2 = some (.iconst 0, 1, [], 0) := rfl
theorem f67_3 : zF 67 3 = some (.istore_n 3, 1, [], 0) := rfl
theorem f67_4 : zF 67 4 = some (.iload_n 3, 1, [], 0) := rfl
theorem f67_5 : zF 67 5 = some (.iconst 4, 1, [], 0) := rfl
theorem f67_6 : zF 67 6 = some (.if_icmp .ge 26, 3, [], 0) := rfl
theorem f67_9 : zF 67 9 = some (.aload_n 0, 1, [], 0) := rfl
theorem f67_10 : zF 67 10 = some (.getfield 52, 3, [6, 11, 2], 0) := rfl
theorem f67_13 : zF 67 13 = some (.iload_n 3, 1, [], 0) := rfl
theorem f67_14 : zF 67 14 = some (.iaload, 1, [], 0) := rfl
theorem f67_15 : zF 67 15 = some (.iload_n 1, 1, [], 0) := rfl
theorem f67_16 : zF 67 16 = some (.if_icmp .ne 10, 3, [], 0) := rfl
theorem f67_19 : zF 67 19 = some (.iload_n 2, 1, [], 0) := rfl
theorem f67_20 : zF 67 20 = some (.iload_n 3, 1, [], 0) := rfl
theorem f67_21 : zF 67 21 = some (.invokestatic 71, 3, [3, 146, 0, 1, 1, 0, 0], 0) := rfl
theorem f67_24 : zF 67 24 = some (.ior, 1, [], 0) := rfl
theorem f67_25 : zF 67 25 = some (.istore_n 2, 1, [], 0) := rfl
theorem f67_26 : zF 67 26 = some (.iinc 3 1, 3, [], 0) := rfl
theorem f67_29 : zF 67 29 = some (.goto (-25), 3, [], 0) := rfl
theorem f67_32 : zF 67 32 = some (.iload_n 2, 1, [], 0) := rfl
theorem f67_33 : zF 67 33 = some (.ireturn, 1, [0], 0) := rfl
theorem f68_0 : zF 68 0 = some (.iconst 0, 1, [], 0) := rfl
theorem f68_1 : zF 68 1 = some (.istore_n 2, 1, [], 0) := rfl
theorem f68_2 : zF 68 2 = some (.iconst 0, 1, [], 0) := rfl
theorem f68_3 : zF 68 3 = some (.istore_n 3, 1, [], 0) := rfl
theorem f68_4 : zF 68 4 = some (.iload_n 3, 1, [], 0) := rfl
theorem f68_5 : zF 68 5 = some (.bipush 6, 2, [], 0) := rfl
theorem f68_7 : zF 68 7 = some (.if_icmp .ge 25, 3, [], 0) := rfl
theorem f68_10 : zF 68 10 = some (.aload_n 0, 1, [], 0) := rfl
theorem f68_11 : zF 68 11 = some (.getfield 40, 3, [6, 7, 2], 0) := rfl
theorem f68_14 : zF 68 14 = some (.iload_n 3, 1, [], 0) := rfl
theorem f68_15 : zF 68 15 = some (.iaload, 1, [], 0) := rfl
theorem f68_16 : zF 68 16 = some (.iload_n 1, 1, [], 0) := rfl
theorem f68_17 : zF 68 17 = some (.if_icmp .ne 9, 3, [], 0) := rfl
theorem f68_20 : zF 68 20 = some (.iload_n 2, 1, [], 0) := rfl
theorem f68_21 : zF 68 21 = some (.iconst 1, 1, [], 0) := rfl
theorem f68_22 : zF 68 22 = some (.iload_n 3, 1, [], 0) := rfl
theorem f68_23 : zF 68 23 = some (.ishl, 1, [], 0) := rfl
theorem f68_24 : zF 68 24 = some (.ior, 1, [], 0) := rfl
theorem f68_25 : zF 68 25 = some (.istore_n 2, 1, [], 0) := rfl
theorem f68_26 : zF 68 26 = some (.iinc 3 1, 3, [], 0) := rfl
theorem f68_29 : zF 68 29 = some (.goto (-25), 3, [], 0) := rfl
theorem f68_32 : zF 68 32 = some (.iload_n 2, 1, [], 0) := rfl
theorem f68_33 : zF 68 33 = some (.ireturn, 1, [0], 0) := rfl
theorem f69_0 : zF 69 0 = some (.iconst 0, 1, [], 0) := rfl
theorem f69_1 : zF 69 1 = some (.istore_n 1, 1, [], 0) := rfl
theorem f69_2 : zF 69 2 = some (.iconst 0, 1, [], 0) := rfl
theorem f69_3 : zF 69 3 = some (.istore_n 2, 1, [], 0) := rfl
theorem f69_4 : zF 69 4 = some (.iload_n 2, 1, [], 0) := rfl
theorem f69_5 : zF 69 5 = some (.iconst 4, 1, [], 0) := rfl
theorem f69_6 : zF 69 6 = some (.if_icmp .ge 17, 3, [], 0) := rfl
theorem f69_9 : zF 69 9 = some (.iload_n 1, 1, [], 0) := rfl
theorem f69_10 : zF 69 10 = some (.aload_n 0, 1, [], 0) := rfl
theorem f69_11 : zF 69 11 = some (.iload_n 2, 1, [], 0) := rfl
theorem f69_12 : zF 69 12 = some (.invokevirtual 85, 3, [0, 70, 6, 2, 5, 0, 0], 0) := rfl
theorem f69_15 : zF 69 15 = some (.ior, 1, [], 0) := rfl
theorem f69_16 : zF 69 16 = some (.istore_n 1, 1, [], 0) := rfl
theorem f69_17 : zF 69 17 = some (.iinc 2 1, 3, [], 0) := rfl
theorem f69_20 : zF 69 20 = some (.goto (-16), 3, [], 0) := rfl
theorem f69_23 : zF 69 23 = some (.iload_n 1, 1, [], 0) := rfl
theorem f69_24 : zF 69 24 = some (.ireturn, 1, [0], 0) := rfl
theorem f70_0 : zF 70 0 = some (.iconst 0, 1, [], 0) := rfl
theorem f70_1 : zF 70 1 = some (.istore_n 2, 1, [], 0) := rfl
theorem f70_2 : zF 70 2 = some (.iload_n 1, 1, [], 0) := rfl
theorem f70_3 : zF 70 3 = some (.istore_n 3, 1, [], 0) := rfl
theorem f70_4 : zF 70 4 = some (.iconst 0, 1, [], 0) := rfl
theorem f70_5 : zF 70 5 = some (.istore 4, 2, [], 0) := rfl
theorem f70_7 : zF 70 7 = some (.iload 4, 2, [], 0) := rfl
theorem f70_9 : zF 70 9 = some (.iconst 4, 1, [], 0) := rfl
theorem f70_10 : zF 70 10 = some (.if_icmp .ge 35, 3, [], 0) := rfl
theorem f70_13 : zF 70 13 = some (.iload_n 3, 1, [], 0) := rfl
theorem f70_14 : zF 70 14 = some (.bipush (-4), 2, [], 0) := rfl
theorem f70_16 : zF 70 16 = some (.if_icmp .eq 29, 3, [], 0) := rfl
theorem f70_19 : zF 70 19 = some (.iload_n 2, 1, [], 0) := rfl
theorem f70_20 : zF 70 20 = some (.iload_n 3, 1, [], 0) := rfl
theorem f70_21 : zF 70 21 = some (.invokestatic 71, 3, [3, 146, 0, 1, 1, 0, 0], 0) := rfl
theorem f70_24 : zF 70 24 = some (.ior, 1, [], 0) := rfl
theorem f70_25 : zF 70 25 = some (.istore_n 2, 1, [], 0) := rfl
theorem f70_26 : zF 70 26 = some (.aload_n 0, 1, [], 0) := rfl
theorem f70_27 : zF 70 27 = some (.iload_n 3, 1, [], 0) := rfl
theorem f70_28 : zF 70 28 = some (.invokevirtual 92, 3, [0, 71, 6, 2, 3, 0, 0], 0) := rfl
theorem f70_31 : zF 70 31 = some (.istore_n 3, 1, [], 0) := rfl
theorem f70_32 : zF 70 32 = some (.iload_n 3, 1, [], 0) := rfl
theorem f70_33 : zF 70 33 = some (.iload_n 1, 1, [], 0) := rfl
theorem f70_34 : zF 70 34 = some (.if_icmp .ne 5, 3, [], 0) := rfl
theorem f70_37 : zF 70 37 = some (.iload_n 2, 1, [], 0) := rfl
theorem f70_38 : zF 70 38 = some (.ireturn, 1, [0], 0) := rfl
theorem f70_39 : zF 70 39 = some (.iinc 4 1, 3, [], 0) := rfl
theorem f70_42 : zF 70 42 = some (.goto (-35), 3, [], 0) := rfl
theorem f70_45 : zF 70 45 = some (.iconst 0, 1, [], 0) := rfl
theorem f70_46 : zF 70 46 = some (.ireturn, 1, [0], 0) := rfl
theorem f71_0 : zF 71 0 = some (.aload_n 0, 1, [], 0) := rfl
theorem f71_1 : zF 71 1 = some (.getfield 52, 3, [6, 11, 2], 0) := rfl
theorem f71_4 : zF 71 4 = some (.iload_n 1, 1, [], 0) := rfl
theorem f71_5 : zF 71 5 = some (.iaload, 1, [], 0) := rfl
theorem f71_6 : zF 71 6 = some (.istore_n 2, 1, [], 0) := rfl
theorem f71_7 : zF 71 7 = some (.iload_n 2, 1, [], 0) := rfl
theorem f71_8 : zF 71 8 = some (.invokestatic 95, 3, [3, 142, 0, 1, 1, 0, 0], 0) := rfl
theorem f71_11 : zF 71 11 = some (.ifCond .eq 8, 3, [], 0) := rfl
theorem f71_14 : zF 71 14 = some (.bipush (-4), 2, [], 0) := rfl
theorem f71_16 : zF 71 16 = some (.goto 9, 3, [], 0) := rfl
theorem f71_19 : zF 71 19 = some (.aload_n 0, 1, [], 0) := rfl
theorem f71_20 : zF 71 20 = some (.getfield 40, 3, [6, 7, 2], 0) := rfl
theorem f71_23 : zF 71 23 = some (.iload_n 2, 1, [], 0) := rfl
theorem f71_24 : zF 71 24 = some (.iaload, 1, [], 0) := rfl
theorem f71_25 : zF 71 25 = some (.ireturn, 1, [0], 0) := rfl
theorem f72_0 : zF 72 0 = some (.aload_n 0, 1, [], 0) := rfl
theorem f72_1 : zF 72 1 = some (.getfield 11, 3, [6, 0, 2], 0) := rfl
theorem f72_4 : zF 72 4 = some (.iload_n 1, 1, [], 0) := rfl
theorem f72_5 : zF 72 5 = some (.aload_n 2, 1, [], 0) := rfl
theorem f72_6 : zF 72 6 = some (.aastore, 1, [], 0) := rfl
theorem f72_7 : zF 72 7 = some (.aload_n 0, 1, [], 0) := rfl
theorem f72_8 : zF 72 8 = some (.getfield 19, 3, [6, 1, 2], 0) := rfl
theorem f72_11 : zF 72 11 = some (.iload_n 1, 1, [], 0) := rfl
theorem f72_12 : zF 72 12 = some (.aload_n 3, 1, [], 0) := rfl
theorem f72_13 : zF 72 13 = some (.aastore, 1, [], 0) := rfl
theorem f72_14 : zF 72 14 = some (.aload_n 0, 1, [], 0) := rfl
theorem f72_15 : zF 72 15 = some (.iload_n 1, 1, [], 0) := rfl
theorem f72_16 : zF 72 16 = some (.invokevirtual 99, 3, [0, 87, 6, 2, 2, 0, 0], 0) := rfl
theorem f72_19 : zF 72 19 = some (.return_, 1, [], 0) := rfl
theorem f73_0 : zF 73 0 = some (.aload_n 0, 1, [], 0) := rfl
theorem f73_1 : zF 73 1 = some (.iload_n 1, 1, [], 0) := rfl
theorem f73_2 : zF 73 2 = some (.putfield 23, 3, [6, 2, 0], 0) := rfl
theorem f73_5 : zF 73 5 = some (.iconst 0, 1, [], 0) := rfl
theorem f73_6 : zF 73 6 = some (.istore_n 3, 1, [], 0) := rfl
theorem f73_7 : zF 73 7 = some (.iload_n 3, 1, [], 0) := rfl
theorem f73_8 : zF 73 8 = some (.iconst 4, 1, [], 0) := rfl
theorem f73_9 : zF 73 9 = some (.if_icmp .ge 29, 3, [], 0) := rfl
theorem f73_12 : zF 73 12 = some (.iload_n 3, 1, [], 0) := rfl
theorem f73_13 : zF 73 13 = some (.aload_n 2, 1, [], 0) := rfl
theorem f73_14 : zF 73 14 = some (.arraylength, 1, [], 0) := rfl
theorem f73_15 : zF 73 15 = some (.if_icmp .ge 23, 3, [], 0) := rfl
theorem f73_18 : zF 73 18 = some (.aload_n 0, 1, [], 0) := rfl
theorem f73_19 : zF 73 19 = some (.getfield 19, 3, [6, 1, 2], 0) := rfl
theorem f73_22 : zF 73 22 = some (.iload_n 3, 1, [], 0) := rfl
theorem f73_23 : zF 73 23 = some (.aload_n 2, 1, [], 0) := rfl
theorem f73_24 : zF 73 24 = some (.iload_n 3, 1, [], 0) := rfl
theorem f73_25 : zF 73 25 = some (.aaload, 1, [], 0) := rfl
theorem f73_26 : zF 73 26 = some (.aastore, 1, [], 0) := rfl
theorem f73_27 : zF 73 27 = some (.aload_n 0, 1, [], 0) := rfl
theorem f73_28 : zF 73 28 = some (.iload_n 3, 1, [], 0) := rfl
theorem f73_29 : zF 73 29 = some (.invokevirtual 99, 3, [0, 87, 6, 2, 2, 0, 0], 0) := rfl
theorem f73_32 : zF 73 32 = some (.iinc 3 1, 3, [], 0) := rfl
theorem f73_35 : zF 73 35 = some (.goto (-28), 3, [], 0) := rfl
theorem f73_38 : zF 73 38 = some (.return_, 1, [], 0) := rfl
theorem f74_0 : zF 74 0 = some (.aload_n 0, 1, [], 0) := rfl
theorem f74_1 : zF 74 1 = some (.iload_n 1, 1, [], 0) := rfl
theorem f74_2 : zF 74 2 = some (.putfield 27, 3, [6, 3, 0], 0) := rfl
theorem f74_5 : zF 74 5 = some (.return_, 1, [], 0) := rfl
theorem f75_0 : zF 75 0 = some (.aload_n 0, 1, [], 0) := rfl
theorem f75_1 : zF 75 1 = some (.getfield 30, 3, [6, 4, 0], 0) := rfl
theorem f75_4 : zF 75 4 = some (.istore_n 2, 1, [], 0) := rfl
theorem f75_5 : zF 75 5 = some (.aload_n 0, 1, [], 0) := rfl
theorem f75_6 : zF 75 6 = some (.iload_n 1, 1, [], 0) := rfl
theorem f75_7 : zF 75 7 = some (.putfield 30, 3, [6, 4, 0], 0) := rfl
theorem f75_10 : zF 75 10 = some (.iload_n 2, 1, [], 0) := rfl
theorem f75_11 : zF 75 11 = some (.ireturn, 1, [0], 0) := rfl
theorem f76_0 : zF 76 0 = some (.aload_n 0, 1, [], 0) := rfl
theorem f76_1 : zF 76 1 = some (.getfield 19, 3, [6, 1, 2], 0) := rfl
theorem f76_4 : zF 76 4 = some (.iload_n 1, 1, [], 0) := rfl
theorem f76_5 : zF 76 5 = some (.aaload, 1, [], 0) := rfl
theorem f76_6 : zF 76 6 = some (.aload_n 0, 1, [], 0) := rfl
theorem f76_7 : zF 76 7 = some (.getfield 36, 3, [6, 6, 2], 0) := rfl
theorem f76_10 : zF 76 10 = some (.aload_n 0, 1, [], 0) := rfl
theorem f76_11 : zF 76 11 = some (.getfield 19, 3, [6, 1, 2], 0) := rfl
theorem f76_14 : zF 76 14 = some (.iload_n 1, 1, [], 0) := rfl
theorem f76_15 : zF 76 15 = some (.aaload, 1, [], 0) := rfl
theorem f76_16 : zF 76 16 = some (.invokevirtual 103, 3, [0, 99, 8, 1, 1, 0, 0], 0) := rfl
theorem f76_19 : zF 76 19 = some (.iconst 1, 1, [], 0) := rfl
theorem f76_20 : zF 76 20 = some (.invokevirtual 106, 3, [0, 105, 8, 4, 5, 0, 0], 0) := rfl
theorem f76_23 : zF 76 23 = some (.return_, 1, [], 0) := rfl
theorem f77_0 : zF 77 0 = some (.iconst 4, 1, [], 0) := rfl
theorem f77_1 : zF 77 1 = some (.aload_n 0, 1, [], 0) := rfl
theorem f77_2 : zF 77 2 = some (.iconst 0, 1, [], 0) := rfl
theorem f77_3 : zF 77 3 = some (.invokevirtual 67, 3, [0, 62, 6, 2, 4, 0, 0], 0) := rfl
theorem f77_6 : zF 77 6 = some (.invokestatic 110, 3, [1, 244, 0, 1, 1, 0, 0], 0) := rfl
theorem f77_9 : zF 77 9 = some (.isub, 1, [], 0) := rfl
theorem f77_10 : zF 77 10 = some (.istore_n 1, 1, [], 0) := rfl
theorem f77_11 : zF 77 11 = some (.iconst 0, 1, [], 0) := rfl
theorem f77_12 : zF 77 12 = some (.istore_n 2, 1, [], 0) := rfl
theorem f77_13 : zF 77 13 = some (.iload_n 2, 1, [], 0) := rfl
theorem f77_14 : zF 77 14 = some (.iconst 4, 1, [], 0) := rfl
theorem f77_15 : zF 77 15 = some (.if_icmp .ge 46, 3, [], 0) := rfl
theorem f77_18 : zF 77 18 = some (.aload_n 0, 1, [], 0) := rfl
theorem f77_19 : zF 77 19 = some (.getfield 46, 3, [6, 9, 2], 0) := rfl
theorem f77_22 : zF 77 22 = some (.iload_n 2, 1, [], 0) := rfl
theorem f77_23 : zF 77 23 = some (.iaload, 1, [], 0) := rfl
theorem f77_24 : zF 77 24 = some (.iconst 1, 1, [], 0) := rfl
theorem f77_25 : zF 77 25 = some (.if_icmp .eq 13, 3, [], 0) := rfl
theorem f77_28 : zF 77 28 = some (.aload_n 0, 1, [], 0) := rfl
theorem f77_29 : zF 77 29 = some (.getfield 46, 3, [6, 9, 2], 0) := rfl
theorem f77_32 : zF 77 32 = some (.iload_n 2, 1, [], 0) := rfl
theorem f77_33 : zF 77 33 = some (.iaload, 1, [], 0) := rfl
theorem f77_34 : zF 77 34 = some (.iconst 2, 1, [], 0) := rfl
theorem f77_35 : zF 77 35 = some (.if_icmp .ne 8, 3, [], 0) := rfl
theorem f77_38 : zF 77 38 = some (.aload_n 0, 1, [], 0) := rfl
theorem f77_39 : zF 77 39 = some (.iload_n 2, 1, [], 0) := rfl
theorem f77_40 : zF 77 40 = some (.invokevirtual 115, 3, [0, 86, 6, 2, 3, 0, 0], 0) := rfl
theorem f77_43 : zF 77 43 = some (.aload_n 0, 1, [], 0) := rfl
theorem f77_44 : zF 77 44 = some (.iload_n 2, 1, [], 0) := rfl
theorem f77_45 : zF 77 45 = some (.invokevirtual 99, 3, [0, 87, 6, 2, 2, 0, 0], 0) := rfl
theorem f77_48 : zF 77 48 = some (.aload_n 0, 1, [], 0) := rfl
theorem f77_49 : zF 77 49 = some (.getfield 58, 3, [6, 13, 2], 0) := rfl
theorem f77_52 : zF 77 52 = some (.iload_n 2, 1, [], 0) := rfl
theorem f77_53 : zF 77 53 = some (.iconst 0, 1, [], 0) := rfl
theorem f77_54 : zF 77 54 = some (.iastore, 1, [], 0) := rfl
theorem f77_55 : zF 77 55 = some (.iinc 2 1, 3, [], 0) := rfl
theorem f77_58 : zF 77 58 = some (.goto (-45), 3, [], 0) := rfl
theorem f77_61 : zF 77 61 = some (.aload_n 0, 1, [], 0) := rfl
theorem f77_62 : zF 77 62 = some (.iconst 0, 1, [], 0) := rfl
theorem f77_63 : zF 77 63 = some (.putfield 33, 3, [6, 5, 0], 0) := rfl
theorem f77_66 : zF 77 66 = some (.iload_n 1, 1, [], 0) := rfl
theorem f77_67 : zF 77 67 = some (.ireturn, 1, [0], 0) := rfl
theorem f78_0 : zF 78 0 = some (.aload_n 0, 1, [], 0) := rfl
theorem f78_1 : zF 78 1 = some (.invokevirtual 118, 3, [0, 81, 6, 1, 1, 0, 0], 0) := rfl
theorem f78_4 : zF 78 4 = some (.istore_n 1, 1, [], 0) := rfl
theorem f78_5 : zF 78 5 = some (.aload_n 0, 1, [], 0) := rfl
theorem f78_6 : zF 78 6 = some (.invokevirtual 121, 3, [0, 63, 6, 1, 1, 0, 0], 0) := rfl
theorem f78_9 : zF 78 9 = some (.istore_n 2, 1, [], 0) := rfl
theorem f78_10 : zF 78 10 = some (.iload_n 2, 1, [], 0) := rfl
theorem f78_11 : zF 78 11 = some (.invokestatic 110, 3, [1, 244, 0, 1, 1, 0, 0], 0) := rfl
theorem f78_14 : zF 78 14 = some (.istore_n 3, 1, [], 0) := rfl
theorem f78_15 : zF 78 15 = some (.iload_n 3, 1, [], 0) := rfl
theorem f78_16 : zF 78 16 = some (.ifCond .ne 4, 3, [], 0) := rfl
theorem f78_19 : zF 78 19 = some (.return_, 1, [], 0) := rfl
theorem f78_20 : zF 78 20 = some (.iload_n 1, 1, [], 0) := rfl
theorem f78_21 : zF 78 21 = some (.iload_n 3, 1, [], 0) := rfl
theorem f78_22 : zF 78 22 = some (.irem, 1, [], 0) := rfl
theorem f78_23 : zF 78 23 = some (.istore 4, 2, [], 0) := rfl
theorem f78_25 : zF 78 25 = some (.iconst 0, 1, [], 0) := rfl
theorem f78_26 : zF 78 26 = some (.istore 5, 2, [], 0) := rfl
theorem f78_28 : zF 78 28 = some (.iload 5, 2, [], 0) := rfl
theorem f78_30 : zF 78 30 = some (.iconst 4, 1, [], 0) := rfl
theorem f78_31 : zF 78 31 = some (.if_icmp .ge 34, 3, [], 0) := rfl
theorem f78_34 : zF 78 34 = some (.iload_n 2, 1, [], 0) := rfl
theorem f78_35 : zF 78 35 = some (.iload 5, 2, [], 0) := rfl
theorem f78_37 : zF 78 37 = some (.invokestatic 75, 3, [3, 147, 0, 2, 2, 0, 0], 0) := rfl
theorem f78_40 : zF 78 40 = some (.ifCond .eq 19, 3, [], 0) := rfl
theorem f78_43 : zF 78 43 = some (.iload 4, 2, [], 0) := rfl
theorem f78_45 : zF 78 45 = some (.ifCond .ne 11, 3, [], 0) := rfl
theorem f78_48 : zF 78 48 = some (.aload_n 0, 1, [], 0) := rfl
theorem f78_49 : zF 78 49 = some (.iload 5, 2, [], 0) := rfl
theorem f78_51 : zF 78 51 = some (.invokevirtual 124, 3, [0, 80, 6, 2, 3, 0, 0], 0) := rfl
theorem f78_54 : zF 78 54 = some (.pop, 1, [], 0) := rfl
theorem f78_55 : zF 78 55 = some (.return_, 1, [], 0) := rfl
theorem f78_56 : zF 78 56 = some (.iinc 4 (-1), 3, [], 0) := rfl
theorem f78_59 : zF 78 59 = some (.iinc 5 1, 3, [], 0) := rfl
theorem f78_62 : zF 78 62 = some (.goto (-34), 3, [], 0) := rfl
theorem f78_65 : zF 78 65 = some (.return_, 1, [], 0) := rfl
theorem f79_0 : zF 79 0 = some (.aload_n 0, 1, [], 0) := rfl
theorem f79_1 : zF 79 1 = some (.invokevirtual 118, 3, [0, 81, 6, 1, 1, 0, 0], 0) := rfl
theorem f79_4 : zF 79 4 = some (.istore_n 1, 1, [], 0) := rfl
theorem f79_5 : zF 79 5 = some (.iload_n 1, 1, [], 0) := rfl
theorem f79_6 : zF 79 6 = some (.bipush 8, 2, [], 0) := rfl
theorem f79_8 : zF 79 8 = some (.irem, 1, [], 0) := rfl
theorem f79_9 : zF 79 9 = some (.istore_n 2, 1, [], 0) := rfl
theorem f79_10 : zF 79 10 = some (.iload_n 1, 1, [], 0) := rfl
theorem f79_11 : zF 79 11 = some (.bipush 8, 2, [], 0) := rfl
theorem f79_13 : zF 79 13 = some (.idiv, 1, [], 0) := rfl
theorem f79_14 : zF 79 14 = some (.istore_n 3, 1, [], 0) := rfl
theorem f79_15 : zF 79 15 = some (.iload_n 2, 1, [], 0) := rfl
theorem f79_16 : zF 79 16 = some (.bipush 6, 2, [], 0) := rfl
theorem f79_18 : zF 79 18 = some (.if_icmp .ne 18, 3, [], 0) := rfl
theorem f79_21 : zF 79 21 = some (.aload_n 0, 1, [], 0) := rfl
theorem f79_22 : zF 79 22 = some (.invokevirtual 127, 3, [0, 61, 6, 1, 1, 0, 0], 0) := rfl
theorem f79_25 : zF 79 25 = some (.ifCond .ne 45, 3, [], 0) := rfl
theorem f79_28 : zF 79 28 = some (.aload_n 0, 1, [], 0) := rfl
theorem f79_29 : zF 79 29 = some (.invokevirtual 131, 3, [0, 77, 6, 1, 3, 0, 0], 0) := rfl
theorem f79_32 : zF 79 32 = some (.pop, 1, [], 0) := rfl
theorem f79_33 : zF 79 33 = some (.goto 37, 3, [], 0) := rfl
theorem f79_36 : zF 79 36 = some (.iload_n 2, 1, [], 0) := rfl
theorem f79_37 : zF 79 37 = some (.bipush 7, 2, [], 0) := rfl
theorem f79_39 : zF 79 39 = some (.if_icmp .ne 13, 3, [], 0) := rfl
theorem f79_42 : zF 79 42 = some (.aload_n 0, 1, [], 0) := rfl
theorem f79_43 : zF 79 43 = some (.iload_n 3, 1, [], 0) := rfl
theorem f79_44 : zF 79 44 = some (.iconst 5, 1, [], 0) := rfl
theorem f79_45 : zF 79 45 = some (.irem, 1, [], 0) := rfl
theorem f79_46 : zF 79 46 = some (.putfield 27, 3, [6, 3, 0], 0) := rfl
theorem f79_49 : zF 79 49 = some (.goto 21, 3, [], 0) := rfl
theorem f79_52 : zF 79 52 = some (.aload_n 0, 1, [], 0) := rfl
theorem f79_53 : zF 79 53 = some (.iload_n 3, 1, [], 0) := rfl
theorem f79_54 : zF 79 54 = some (.iconst 4, 1, [], 0) := rfl
theorem f79_55 : zF 79 55 = some (.irem, 1, [], 0) := rfl
theorem f79_56 : zF 79 56 = some (.invokevirtual 134, 3, [0, 58, 6, 2, 2, 0, 0], 0) := rfl
theorem f79_59 : zF 79 59 = some (.ifCond .ne 11, 3, [], 0) := rfl
theorem f79_62 : zF 79 62 = some (.aload_n 0, 1, [], 0) := rfl
theorem f79_63 : zF 79 63 = some (.iload_n 3, 1, [], 0) := rfl
theorem f79_64 : zF 79 64 = some (.iconst 4, 1, [], 0) := rfl
theorem f79_65 : zF 79 65 = some (.irem, 1, [], 0) := rfl
theorem f79_66 : zF 79 66 = some (.invokevirtual 124, 3, [0, 80, 6, 2, 3, 0, 0], 0) := rfl
theorem f79_69 : zF 79 69 = some (.pop, 1, [], 0) := rfl
theorem f79_70 : zF 79 70 = some (.return_, 1, [], 0) := rfl
theorem f80_0 : zF 80 0 = some (.aload_n 0, 1, [], 0) := rfl
theorem f80_1 : zF 80 1 = some (.getfield 46, 3, [6, 9, 2], 0) := rfl
theorem f80_4 : zF 80 4 = some (.iload_n 1, 1, [], 0) := rfl
theorem f80_5 : zF 80 5 = some (.iaload, 1, [], 0) := rfl
theorem f80_6 : zF 80 6 = some (.ifCond .ne 23, 3, [], 0) := rfl
theorem f80_9 : zF 80 9 = some (.aload_n 0, 1, [], 0) := rfl
theorem f80_10 : zF 80 10 = some (.getfield 55, 3, [6, 12, 2], 0) := rfl
theorem f80_13 : zF 80 13 = some (.iload_n 1, 1, [], 0) := rfl
theorem f80_14 : zF 80 14 = some (.aload_n 0, 1, [], 0) := rfl
theorem f80_15 : zF 80 15 = some (.getfield 33, 3, [6, 5, 0], 0) := rfl
theorem f80_18 : zF 80 18 = some (.iastore, 1, [], 0) := rfl
theorem f80_19 : zF 80 19 = some (.aload_n 0, 1, [], 0) := rfl
theorem f80_20 : zF 80 20 = some (.dup, 1, [], 0) := rfl
theorem f80_21 : zF 80 21 = some (.getfield 33, 3, [6, 5, 0], 0) := rfl
theorem f80_24 : zF 80 24 = some (.iconst 1, 1, [], 0) := rfl
theorem f80_25 : zF 80 25 = some (.iadd, 1, [], 0) := rfl
theorem f80_26 : zF 80 26 = some (.putfield 33, 3, [6, 5, 0], 0) := rfl
theorem f80_29 : zF 80 29 = some (.aload_n 0, 1, [], 0) := rfl
theorem f80_30 : zF 80 30 = some (.getfield 19, 3, [6, 1, 2], 0) := rfl
theorem f80_33 : zF 80 33 = some (.iload_n 1, 1, [], 0) := rfl
theorem f80_34 : zF 80 34 = some (.aaload, 1, [], 0) := rfl
theorem f80_35 : zF 80 35 = some (.aload_n 0, 1, [], 0) := rfl
theorem f80_36 : zF 80 36 = some (.getfield 49, 3, [6, 10, 2], 0) := rfl
theorem f80_39 : zF 80 39 = some (.iload_n 1, 1, [], 0) := rfl
theorem f80_40 : zF 80 40 = some (.iaload, 1, [], 0) := rfl
theorem f80_41 : zF 80 41 = some (.invokevirtual 137, 3, [0, 107, 8, 2, 2, 0, 0], 0) := rfl
theorem f80_44 : zF 80 44 = some (.istore_n 2, 1, [], 0) := rfl
theorem f80_45 : zF 80 45 = some (.iload_n 2, 1, [], 0) := rfl
theorem f80_46 : zF 80 46 = some (.bipush (-4), 2, [], 0) := rfl
theorem f80_48 : zF 80 48 = some (.if_icmp .eq 31, 3, [], 0) := rfl
theorem f80_51 : zF 80 51 = some (.aload_n 0, 1, [], 0) := rfl
theorem f80_52 : zF 80 52 = some (.getfield 40, 3, [6, 7, 2], 0) := rfl
theorem f80_55 : zF 80 55 = some (.iload_n 2, 1, [], 0) := rfl
theorem f80_56 : zF 80 56 = some (.iaload, 1, [], 0) := rfl
theorem f80_57 : zF 80 57 = some (.bipush (-4), 2, [], 0) := rfl
theorem f80_59 : zF 80 59 = some (.if_icmp .eq 20, 3, [], 0) := rfl
theorem f80_62 : zF 80 62 = some (.aload_n 0, 1, [], 0) := rfl
theorem f80_63 : zF 80 63 = some (.getfield 40, 3, [6, 7, 2], 0) := rfl
theorem f80_66 : zF 80 66 = some (.iload_n 2, 1, [], 0) := rfl
theorem f80_67 : zF 80 67 = some (.iaload, 1, [], 0) := rfl
theorem f80_68 : zF 80 68 = some (.iload_n 1, 1, [], 0) := rfl
theorem f80_69 : zF 80 69 = some (.if_icmp .eq 10, 3, [], 0) := rfl
theorem f80_72 : zF 80 72 = some (.aload_n 0, 1, [], 0) := rfl
theorem f80_73 : zF 80 73 = some (.iload_n 1, 1, [], 0) := rfl
theorem f80_74 : zF 80 74 = some (.iload_n 2, 1, [], 0) := rfl
theorem f80_75 : zF 80 75 = some (.invokevirtual 140, 3, [0, 82, 6, 3, 5, 0, 0], 0) := rfl
theorem f80_78 : zF 80 78 = some (.ireturn, 1, [0], 0) := rfl
theorem f80_79 : zF 80 79 = some (.aload_n 0, 1, [], 0) := rfl
theorem f80_80 : zF 80 80 = some (.iload_n 1, 1, [], 0) := rfl
theorem f80_81 : zF 80 81 = some (.invokevirtual 144, 3, [0, 83, 6, 2, 5, 0, 0], 0) := rfl
theorem f80_84 : zF 80 84 = some (.aload_n 0, 1, [], 0) := rfl
theorem f80_85 : zF 80 85 = some (.getfield 52, 3, [6, 11, 2], 0) := rfl
theorem f80_88 : zF 80 88 = some (.iload_n 1, 1, [], 0) := rfl
theorem f80_89 : zF 80 89 = some (.bipush (-4), 2, [], 0) := rfl
theorem f80_91 : zF 80 91 = some (.iastore, 1, [], 0) := rfl
theorem f80_92 : zF 80 92 = some (.aload_n 0, 1, [], 0) := rfl
theorem f80_93 : zF 80 93 = some (.getfield 19, 3, [6, 1, 2], 0) := rfl
theorem f80_96 : zF 80 96 = some (.iload_n 1, 1, [], 0) := rfl
theorem f80_97 : zF 80 97 = some (.aaload, 1, [], 0) := rfl
theorem f80_98 : zF 80 98 = some (.aload_n 0, 1, [], 0) := rfl
theorem f80_99 : zF 80 99 = some (.getfield 49, 3, [6, 10, 2], 0) := rfl
theorem f80_102 : zF 80 102 = some (.iload_n 1, 1, [], 0) := rfl
theorem f80_103 : zF 80 103 = some (.iaload, 1, [], 0) := rfl
theorem f80_104 : zF 80 104 = some (.invokevirtual 147, 3, [0, 101, 8, 2, 2, 0, 0], 0) := rfl
theorem f80_107 : zF 80 107 = some (.ifCond .eq 12, 3, [], 0) := rfl
theorem f80_110 : zF 80 110 = some (.aload_n 0, 1, [], 0) := rfl
theorem f80_111 : zF 80 111 = some (.getfield 46, 3, [6, 9, 2], 0) := rfl
theorem f80_114 : zF 80 114 = some (.iload_n 1, 1, [], 0) := rfl
theorem f80_115 : zF 80 115 = some (.iconst 1, 1, [], 0) := rfl
theorem f80_116 : zF 80 116 = some (.iastore, 1, [], 0) := rfl
theorem f80_117 : zF 80 117 = some (.iconst 0, 1, [], 0) := by decide +kernel
theorem f80_118 : zF 80 118 = some (.ireturn, 1, [0], 0) := by decide +kernel
theorem f80_119 : zF 80 119 = some (.aload_n 0, 1, [], 0) := by decide +kernel
theorem f80_120 : zF 80 120 = some (.getfield 46, 3, [6, 9, 2], 0) := by decide +kernel
theorem f80_123 : zF 80 123 = some (.iload_n 1, 1, [], 0) := by decide +kernel
theorem f80_124 : zF 80 124 = some (.aload_n 0, 1, [], 0) := by decide +kernel
theorem f80_125 : zF 80 125 = some (.getfield 19, 3, [6, 1, 2], 0) := by decide +kernel
theorem f80_128 : zF 80 128 = some (.iload_n 1, 1, [], 0) := by decide +kernel
theorem f80_129 : zF 80 129 = some (.aaload, 1, [], 0) := by decide +kernel
theorem f80_130 : zF 80 130 = some (.invokevirtual 150, 3, [0, 100, 8, 1, 1, 0, 0], 0) := by decide +kernel
theorem f80_133 : zF 80 133 = some (.ifCond .eq 7, 3, [], 0) := by decide +kernel
theorem f80_136 : zF 80 136 = some (.iconst 4, 1, [], 0) := by decide +kernel
theorem f80_137 : zF 80 137 = some (.goto 4, 3, [], 0) := by decide +kernel
theorem f80_140 : zF 80 140 = some (.iconst 3, 1, [], 0) := by decide +kernel
theorem f80_141 : zF 80 141 = some (.iastore, 1, [], 0) := by decide +kernel
theorem f80_142 : zF 80 142 = some (.aload_n 0, 1, [], 0) := by decide +kernel
theorem f80_143 : zF 80 143 = some (.getfield 46, 3, [6, 9, 2], 0) := by decide +kernel
theorem f80_146 : zF 80 146 = some (.iload_n 1, 1, [], 0) := by decide +kernel
theorem f80_147 : zF 80 147 = some (.iaload, 1, [], 0) := by decide +kernel
theorem f80_148 : zF 80 148 = some (.iconst 4, 1, [], 0) := by decide +kernel
theorem f80_149 : zF 80 149 = some (.if_icmp .ne 7, 3, [], 0) := by decide +kernel
theorem f80_152 : zF 80 152 = some (.iconst 3, 1, [], 0) := by decide +kernel
theorem f80_153 : zF 80 153 = some (.goto 4, 3, [], 0) := by decide +kernel
theorem f80_156 : zF 80 156 = some (.iconst 2, 1, [], 0) := by decide +kernel
theorem f80_157 : zF 80 157 = some (.ireturn, 1, [0], 0) := by decide +kernel
theorem f81_0 : zF 81 0 = some (.aload_n 0, 1, [], 0) := rfl
theorem f81_1 : zF 81 1 = some (.aload_n 0, 1, [], 0) := rfl
theorem f81_2 : zF 81 2 = some (.getfield 30, 3, [6, 4, 0], 0) := rfl
theorem f81_5 : zF 81 5 = some (.i2l, 1, [], 0) := rfl
theorem f81_6 : zF 81 6 = some (.ldc2_w 153, 3, [], 1103515245) := rfl
theorem f81_9 : zF 81 9 = some (.lmul, 1, [], 0) := rfl
theorem f81_10 : zF 81 10 = some (.ldc2_w 155, 3, [], 12345) := rfl
theorem f81_13 : zF 81 13 = some (.ladd, 1, [], 0) := rfl
theorem f81_14 : zF 81 14 = some (.ldc2_w 157, 3, [], 2147483647) := rfl
theorem f81_17 : zF 81 17 = some (.land, 1, [], 0) := rfl
theorem f81_18 : zF 81 18 = some (.l2i, 1, [], 0) := rfl
theorem f81_19 : zF 81 19 = some (.putfield 30, 3, [6, 4, 0], 0) := rfl
theorem f81_22 : zF 81 22 = some (.aload_n 0, 1, [], 0) := rfl
theorem f81_23 : zF 81 23 = some (.getfield 30, 3, [6, 4, 0], 0) := rfl
theorem f81_26 : zF 81 26 = some (.ldc 159, 2, [], 65536) := rfl
theorem f81_28 : zF 81 28 = some (.idiv, 1, [], 0) := rfl
theorem f81_29 : zF 81 29 = some (.ireturn, 1, [0], 0) := rfl
theorem f82_0 : zF 82 0 = some (.aload_n 0, 1, [], 0) := rfl
theorem f82_1 : zF 82 1 = some (.getfield 46, 3, [6, 9, 2], 0) := rfl
theorem f82_4 : zF 82 4 = some (.iload_n 1, 1, [], 0) := rfl
theorem f82_5 : zF 82 5 = some (.iconst 2, 1, [], 0) := rfl
theorem f82_6 : zF 82 6 = some (.iastore, 1, [], 0) := rfl
theorem f82_7 : zF 82 7 = some (.aload_n 0, 1, [], 0) := rfl
theorem f82_8 : zF 82 8 = some (.getfield 52, 3, [6, 11, 2], 0) := rfl
theorem f82_11 : zF 82 11 = some (.iload_n 1, 1, [], 0) := rfl
theorem f82_12 : zF 82 12 = some (.iload_n 2, 1, [], 0) := rfl
theorem f82_13 : zF 82 13 = some (.iastore, 1, [], 0) := rfl
theorem f82_14 : zF 82 14 = some (.aload_n 0, 1, [], 0) := rfl
theorem f82_15 : zF 82 15 = some (.iload_n 1, 1, [], 0) := rfl
theorem f82_16 : zF 82 16 = some (.invokevirtual 85, 3, [0, 70, 6, 2, 5, 0, 0], 0) := rfl
theorem f82_19 : zF 82 19 = some (.istore_n 3, 1, [], 0) := rfl
theorem f82_20 : zF 82 20 = some (.iload_n 3, 1, [], 0) := rfl
theorem f82_21 : zF 82 21 = some (.ifCond .ne 5, 3, [], 0) := rfl
theorem f82_24 : zF 82 24 = some (.iconst 1, 1, [], 0) := rfl
theorem f82_25 : zF 82 25 = some (.ireturn, 1, [0], 0) := rfl
theorem f82_26 : zF 82 26 = some (.aload_n 0, 1, [], 0) := rfl
theorem f82_27 : zF 82 27 = some (.getfield 27, 3, [6, 3, 0], 0) := rfl
theorem f82_30 : zF 82 30 = some (.ifCond .ne 5, 3, [], 0) := rfl
theorem f82_33 : zF 82 33 = some (.iconst 4, 1, [], 0) := rfl
theorem f82_34 : zF 82 34 = some (.ireturn, 1, [0], 0) := rfl
theorem f82_35 : zF 82 35 = some (.aload_n 0, 1, [], 0) := rfl
theorem f82_36 : zF 82 36 = some (.iload_n 3, 1, [], 0) := rfl
theorem f82_37 : zF 82 37 = some (.invokevirtual 160, 3, [0, 84, 6, 2, 4, 0, 0], 0) := rfl
theorem f82_40 : zF 82 40 = some (.istore 4, 2, [], 0) := rfl
theorem f82_42 : zF 82 42 = some (.aload_n 0, 1, [], 0) := rfl
theorem f82_43 : zF 82 43 = some (.iload 4, 2, [], 0) := rfl
theorem f82_45 : zF 82 45 = some (.invokevirtual 115, 3, [0, 86, 6, 2, 3, 0, 0], 0) := rfl
theorem f82_48 : zF 82 48 = some (.aload_n 0, 1, [], 0) := rfl
theorem f82_49 : zF 82 49 = some (.iload 4, 2, [], 0) := rfl
theorem f82_51 : zF 82 51 = some (.invokevirtual 99, 3, [0, 87, 6, 2, 2, 0, 0], 0) := rfl
theorem f82_54 : zF 82 54 = some (.aload_n 0, 1, [], 0) := rfl
theorem f82_55 : zF 82 55 = some (.getfield 58, 3, [6, 13, 2], 0) := rfl
theorem f82_58 : zF 82 58 = some (.iload 4, 2, [], 0) := rfl
theorem f82_60 : zF 82 60 = some (.dup2, 1, [], 0) := rfl
theorem f82_61 : zF 82 61 = some (.iaload, 1, [], 0) := rfl
theorem f82_62 : zF 82 62 = some (.iconst 1, 1, [], 0) := rfl
theorem f82_63 : zF 82 63 = some (.iadd, 1, [], 0) := rfl
theorem f82_64 : zF 82 64 = some (.iastore, 1, [], 0) := rfl
theorem f82_65 : zF 82 65 = some (.bipush 10, 2, [], 0) := rfl
theorem f82_67 : zF 82 67 = some (.iload 4, 2, [], 0) := rfl
theorem f82_69 : zF 82 69 = some (.iadd, 1, [], 0) := rfl
theorem f82_70 : zF 82 70 = some (.ireturn, 1, [0], 0) := rfl
theorem f83_0 : zF 83 0 = some (.aload_n 0, 1, [], 0) := rfl
theorem f83_1 : zF 83 1 = some (.getfield 19, 3, [6, 1, 2], 0) := rfl
theorem f83_4 : zF 83 4 = some (.iload_n 1, 1, [], 0) := rfl
theorem f83_5 : zF 83 5 = some (.aaload, 1, [], 0) := rfl
theorem f83_6 : zF 83 6 = some (.astore_n 2, 1, [], 0) := rfl
theorem f83_7 : zF 83 7 = some (.aload_n 0, 1, [], 0) := rfl
theorem f83_8 : zF 83 8 = some (.getfield 49, 3, [6, 10, 2], 0) := rfl
theorem f83_11 : zF 83 11 = some (.iload_n 1, 1, [], 0) := rfl
theorem f83_12 : zF 83 12 = some (.iaload, 1, [], 0) := rfl
theorem f83_13 : zF 83 13 = some (.istore_n 3, 1, [], 0) := rfl
theorem f83_14 : zF 83 14 = some (.aload_n 2, 1, [], 0) := rfl
theorem f83_15 : zF 83 15 = some (.iload_n 3, 1, [], 0) := rfl
theorem f83_16 : zF 83 16 = some (.invokevirtual 147, 3, [0, 101, 8, 2, 2, 0, 0], 0) := rfl
theorem f83_19 : zF 83 19 = some (.ifCond .ne 4, 3, [], 0) := rfl
theorem f83_22 : zF 83 22 = some (.return_, 1, [], 0) := rfl
theorem f83_23 : zF 83 23 = some (.aload_n 2, 1, [], 0) := rfl
theorem f83_24 : zF 83 24 = some (.iload_n 3, 1, [], 0) := rfl
theorem f83_25 : zF 83 25 = some (.invokevirtual 163, 3, [0, 103, 8, 2, 2, 0, 0], 0) := rfl
theorem f83_28 : zF 83 28 = some (.istore 4, 2, [], 0) := rfl
theorem f83_30 : zF 83 30 = some (.aload_n 2, 1, [], 0) := rfl
theorem f83_31 : zF 83 31 = some (.iload_n 3, 1, [], 0) := rfl
theorem f83_32 : zF 83 32 = some (.invokevirtual 166, 3, [0, 102, 8, 2, 2, 0, 0], 0) := rfl
theorem f83_35 : zF 83 35 = some (.ifCond .ne 25, 3, [], 0) := rfl
theorem f83_38 : zF 83 38 = some (.aload_n 0, 1, [], 0) := rfl
theorem f83_39 : zF 83 39 = some (.getfield 40, 3, [6, 7, 2], 0) := rfl
theorem f83_42 : zF 83 42 = some (.iload 4, 2, [], 0) := rfl
theorem f83_44 : zF 83 44 = some (.iload_n 1, 1, [], 0) := rfl
theorem f83_45 : zF 83 45 = some (.iastore, 1, [], 0) := rfl
theorem f83_46 : zF 83 46 = some (.aload_n 0, 1, [], 0) := rfl
theorem f83_47 : zF 83 47 = some (.getfield 43, 3, [6, 8, 2], 0) := rfl
theorem f83_50 : zF 83 50 = some (.iload 4, 2, [], 0) := rfl
theorem f83_52 : zF 83 52 = some (.dup2, 1, [], 0) := rfl
theorem f83_53 : zF 83 53 = some (.iaload, 1, [], 0) := rfl
theorem f83_54 : zF 83 54 = some (.iconst 1, 1, [], 0) := rfl
theorem f83_55 : zF 83 55 = some (.iadd, 1, [], 0) := rfl
theorem f83_56 : zF 83 56 = some (.iastore, 1, [], 0) := rfl
theorem f83_57 : zF 83 57 = some (.goto 60, 3, [], 0) := rfl
theorem f83_60 : zF 83 60 = some (.aload_n 2, 1, [], 0) := rfl
theorem f83_61 : zF 83 61 = some (.iload_n 3, 1, [], 0) := rfl
theorem f83_62 : zF 83 62 = some (.invokevirtual 166, 3, [0, 102, 8, 2, 2, 0, 0], 0) := rfl
theorem f83_65 : zF 83 65 = some (.iconst 1, 1, [], 0) := rfl
theorem f83_66 : zF 83 66 = some (.if_icmp .ne 36, 3, [], 0) := rfl
theorem f83_69 : zF 83 69 = some (.aload_n 0, 1, [], 0) := rfl
theorem f83_70 : zF 83 70 = some (.getfield 43, 3, [6, 8, 2], 0) := rfl
theorem f83_73 : zF 83 73 = some (.iload 4, 2, [], 0) := rfl
theorem f83_75 : zF 83 75 = some (.dup2, 1, [], 0) := rfl
theorem f83_76 : zF 83 76 = some (.iaload, 1, [], 0) := rfl
theorem f83_77 : zF 83 77 = some (.iconst 1, 1, [], 0) := rfl
theorem f83_78 : zF 83 78 = some (.isub, 1, [], 0) := rfl
theorem f83_79 : zF 83 79 = some (.iastore, 1, [], 0) := rfl
theorem f83_80 : zF 83 80 = some (.aload_n 0, 1, [], 0) := rfl
theorem f83_81 : zF 83 81 = some (.getfield 43, 3, [6, 8, 2], 0) := rfl
theorem f83_84 : zF 83 84 = some (.iload 4, 2, [], 0) := rfl
theorem f83_86 : zF 83 86 = some (.iaload, 1, [], 0) := rfl
theorem f83_87 : zF 83 87 = some (.ifCond .ne 30, 3, [], 0) := rfl
theorem f83_90 : zF 83 90 = some (.aload_n 0, 1, [], 0) := rfl
theorem f83_91 : zF 83 91 = some (.getfield 40, 3, [6, 7, 2], 0) := rfl
theorem f83_94 : zF 83 94 = some (.iload 4, 2, [], 0) := rfl
theorem f83_96 : zF 83 96 = some (.bipush (-4), 2, [], 0) := rfl
theorem f83_98 : zF 83 98 = some (.iastore, 1, [], 0) := rfl
theorem f83_99 : zF 83 99 = some (.goto 18, 3, [], 0) := rfl
theorem f83_102 : zF 83 102 = some (.aload_n 0, 1, [], 0) := rfl
theorem f83_103 : zF 83 103 = some (.getfield 36, 3, [6, 6, 2], 0) := rfl
theorem f83_106 : zF 83 106 = some (.iload 4, 2, [], 0) := rfl
theorem f83_108 : zF 83 108 = some (.dup2, 1, [], 0) := rfl
theorem f83_109 : zF 83 109 = some (.iaload, 1, [], 0) := rfl
theorem f83_110 : zF 83 110 = some (.aload_n 2, 1, [], 0) := rfl
theorem f83_111 : zF 83 111 = some (.iload_n 3, 1, [], 0) := rfl
theorem f83_112 : zF 83 112 = some (.invokevirtual 169, 3, [0, 104, 8, 2, 2, 0, 0], 0) := rfl
theorem f83_115 : zF 83 115 = some (.iadd, 1, [], 0) := rfl
theorem f83_116 : zF 83 116 = some (.iastore, 1, [], 0) := by decide +kernel
theorem f83_117 : zF 83 117 = some (.aload_n 0, 1, [], 0) := by decide +kernel
theorem f83_118 : zF 83 118 = some (.getfield 49, 3, [6, 10, 2], 0) := by decide +kernel
theorem f83_121 : zF 83 121 = some (.iload_n 1, 1, [], 0) := by decide +kernel
theorem f83_122 : zF 83 122 = some (.iload_n 3, 1, [], 0) := by decide +kernel
theorem f83_123 : zF 83 123 = some (.iconst 1, 1, [], 0) := by decide +kernel
theorem f83_124 : zF 83 124 = some (.iadd, 1, [], 0) := by decide +kernel
theorem f83_125 : zF 83 125 = some (.iastore, 1, [], 0) := by decide +kernel
theorem f83_126 : zF 83 126 = some (.return_, 1, [], 0) := by decide +kernel
theorem f84_0 : zF 84 0 = some (.bipush (-4), 2, [], 0) := rfl
theorem f84_2 : zF 84 2 = some (.istore_n 2, 1, [], 0) := rfl
theorem f84_3 : zF 84 3 = some (.iconst 0, 1, [], 0) := rfl
theorem f84_4 : zF 84 4 = some (.istore_n 3, 1, [], 0) := rfl
theorem f84_5 : zF 84 5 = some (.iload_n 3, 1, [], 0) := rfl
theorem f84_6 : zF 84 6 = some (.iconst 4, 1, [], 0) := rfl
theorem f84_7 : zF 84 7 = some (.if_icmp .ge 38, 3, [], 0) := rfl
theorem f84_10 : zF 84 10 = some (.iload_n 1, 1, [], 0) := rfl
theorem f84_11 : zF 84 11 = some (.iload_n 3, 1, [], 0) := rfl
theorem f84_12 : zF 84 12 = some (.invokestatic 75, 3, [3, 147, 0, 2, 2, 0, 0], 0) := rfl
theorem f84_15 : zF 84 15 = some (.ifCond .eq 24, 3, [], 0) := rfl
theorem f84_18 : zF 84 18 = some (.iload_n 2, 1, [], 0) := rfl
theorem f84_19 : zF 84 19 = some (.bipush (-4), 2, [], 0) := rfl
theorem f84_21 : zF 84 21 = some (.if_icmp .eq 16, 3, [], 0) := rfl
theorem f84_24 : zF 84 24 = some (.aload_n 0, 1, [], 0) := rfl
theorem f84_25 : zF 84 25 = some (.iload_n 3, 1, [], 0) := rfl
theorem f84_26 : zF 84 26 = some (.invokevirtual 172, 3, [0, 85, 6, 2, 2, 0, 0], 0) := rfl
theorem f84_29 : zF 84 29 = some (.aload_n 0, 1, [], 0) := rfl
theorem f84_30 : zF 84 30 = some (.iload_n 2, 1, [], 0) := rfl
theorem f84_31 : zF 84 31 = some (.invokevirtual 172, 3, [0, 85, 6, 2, 2, 0, 0], 0) := rfl
theorem f84_34 : zF 84 34 = some (.if_icmp .le 5, 3, [], 0) := rfl
theorem f84_37 : zF 84 37 = some (.iload_n 3, 1, [], 0) := rfl
theorem f84_38 : zF 84 38 = some (.istore_n 2, 1, [], 0) := rfl
theorem f84_39 : zF 84 39 = some (.iinc 3 1, 3, [], 0) := rfl
theorem f84_42 : zF 84 42 = some (.goto (-37), 3, [], 0) := rfl
theorem f84_45 : zF 84 45 = some (.iload_n 2, 1, [], 0) := rfl
theorem f84_46 : zF 84 46 = some (.ireturn, 1, [0], 0) := rfl
theorem f85_0 : zF 85 0 = some (.aload_n 0, 1, [], 0) := rfl
theorem f85_1 : zF 85 1 = some (.getfield 27, 3, [6, 3, 0], 0) := rfl
theorem f85_4 : zF 85 4 = some (.tableswitch 53 1 3 #[28, 35, 43], 28, [], 0) := rfl
theorem f85_32 : zF 85 32 = some (.aload_n 0, 1, [], 0) := rfl
theorem f85_33 : zF 85 33 = some (.getfield 55, 3, [6, 12, 2], 0) := rfl
theorem f85_36 : zF 85 36 = some (.iload_n 1, 1, [], 0) := rfl
theorem f85_37 : zF 85 37 = some (.iaload, 1, [], 0) := rfl
theorem f85_38 : zF 85 38 = some (.ireturn, 1, [0], 0) := rfl
theorem f85_39 : zF 85 39 = some (.aload_n 0, 1, [], 0) := rfl
theorem f85_40 : zF 85 40 = some (.getfield 49, 3, [6, 10, 2], 0) := rfl
theorem f85_43 : zF 85 43 = some (.iload_n 1, 1, [], 0) := rfl
theorem f85_44 : zF 85 44 = some (.iaload, 1, [], 0) := rfl
theorem f85_45 : zF 85 45 = some (.ineg, 1, [], 0) := rfl
theorem f85_46 : zF 85 46 = some (.ireturn, 1, [0], 0) := rfl
theorem f85_47 : zF 85 47 = some (.aload_n 0, 1, [], 0) := rfl
theorem f85_48 : zF 85 48 = some (.iload_n 1, 1, [], 0) := rfl
theorem f85_49 : zF 85 49 = some (.invokevirtual 82, 3, [0, 68, 6, 2, 4, 0, 0], 0) := rfl
theorem f85_52 : zF 85 52 = some (.invokestatic 110, 3, [1, 244, 0, 1, 1, 0, 0], 0) := rfl
theorem f85_55 : zF 85 55 = some (.ineg, 1, [], 0) := rfl
theorem f85_56 : zF 85 56 = some (.ireturn, 1, [0], 0) := rfl
theorem f85_57 : zF 85 57 = some (.iload_n 1, 1, [], 0) := rfl
theorem f85_58 : zF 85 58 = some (.ireturn, 1, [0], 0) := rfl
theorem f86_0 : zF 86 0 = some (.aload_n 0, 1, [], 0) := rfl
theorem f86_1 : zF 86 1 = some (.getfield 19, 3, [6, 1, 2], 0) := rfl
theorem f86_4 : zF 86 4 = some (.iload_n 1, 1, [], 0) := rfl
theorem f86_5 : zF 86 5 = some (.aaload, 1, [], 0) := rfl
theorem f86_6 : zF 86 6 = some (.aload_n 0, 1, [], 0) := rfl
theorem f86_7 : zF 86 7 = some (.getfield 36, 3, [6, 6, 2], 0) := rfl
theorem f86_10 : zF 86 10 = some (.aload_n 0, 1, [], 0) := rfl
theorem f86_11 : zF 86 11 = some (.getfield 49, 3, [6, 10, 2], 0) := rfl
theorem f86_14 : zF 86 14 = some (.iload_n 1, 1, [], 0) := rfl
theorem f86_15 : zF 86 15 = some (.iaload, 1, [], 0) := rfl
theorem f86_16 : zF 86 16 = some (.iconst (-1), 1, [], 0) := rfl
theorem f86_17 : zF 86 17 = some (.invokevirtual 106, 3, [0, 105, 8, 4, 5, 0, 0], 0) := rfl
theorem f86_20 : zF 86 20 = some (.iconst 0, 1, [], 0) := rfl
theorem f86_21 : zF 86 21 = some (.istore_n 2, 1, [], 0) := rfl
theorem f86_22 : zF 86 22 = some (.iload_n 2, 1, [], 0) := rfl
theorem f86_23 : zF 86 23 = some (.bipush 6, 2, [], 0) := rfl
theorem f86_25 : zF 86 25 = some (.if_icmp .ge 34, 3, [], 0) := rfl
theorem f86_28 : zF 86 28 = some (.aload_n 0, 1, [], 0) := rfl
theorem f86_29 : zF 86 29 = some (.getfield 40, 3, [6, 7, 2], 0) := rfl
theorem f86_32 : zF 86 32 = some (.iload_n 2, 1, [], 0) := rfl
theorem f86_33 : zF 86 33 = some (.iaload, 1, [], 0) := rfl
theorem f86_34 : zF 86 34 = some (.iload_n 1, 1, [], 0) := rfl
theorem f86_35 : zF 86 35 = some (.if_icmp .ne 18, 3, [], 0) := rfl
theorem f86_38 : zF 86 38 = some (.aload_n 0, 1, [], 0) := rfl
theorem f86_39 : zF 86 39 = some (.getfield 40, 3, [6, 7, 2], 0) := rfl
theorem f86_42 : zF 86 42 = some (.iload_n 2, 1, [], 0) := rfl
theorem f86_43 : zF 86 43 = some (.bipush (-4), 2, [], 0) := rfl
theorem f86_45 : zF 86 45 = some (.iastore, 1, [], 0) := rfl
theorem f86_46 : zF 86 46 = some (.aload_n 0, 1, [], 0) := rfl
theorem f86_47 : zF 86 47 = some (.getfield 43, 3, [6, 8, 2], 0) := rfl
theorem f86_50 : zF 86 50 = some (.iload_n 2, 1, [], 0) := rfl
theorem f86_51 : zF 86 51 = some (.iconst 0, 1, [], 0) := rfl
theorem f86_52 : zF 86 52 = some (.iastore, 1, [], 0) := rfl
theorem f86_53 : zF 86 53 = some (.iinc 2 1, 3, [], 0) := rfl
theorem f86_56 : zF 86 56 = some (.goto (-34), 3, [], 0) := rfl
theorem f86_59 : zF 86 59 = some (.return_, 1, [], 0) := rfl
theorem f87_0 : zF 87 0 = some (.aload_n 0, 1, [], 0) := rfl
theorem f87_1 : zF 87 1 = some (.getfield 46, 3, [6, 9, 2], 0) := rfl
theorem f87_4 : zF 87 4 = some (.iload_n 1, 1, [], 0) := rfl
theorem f87_5 : zF 87 5 = some (.iconst 0, 1, [], 0) := rfl
theorem f87_6 : zF 87 6 = some (.iastore, 1, [], 0) := rfl
theorem f87_7 : zF 87 7 = some (.aload_n 0, 1, [], 0) := rfl
theorem f87_8 : zF 87 8 = some (.getfield 49, 3, [6, 10, 2], 0) := rfl
theorem f87_11 : zF 87 11 = some (.iload_n 1, 1, [], 0) := rfl
theorem f87_12 : zF 87 12 = some (.iconst 0, 1, [], 0) := rfl
theorem f87_13 : zF 87 13 = some (.iastore, 1, [], 0) := rfl
theorem f87_14 : zF 87 14 = some (.aload_n 0, 1, [], 0) := rfl
theorem f87_15 : zF 87 15 = some (.getfield 52, 3, [6, 11, 2], 0) := rfl
theorem f87_18 : zF 87 18 = some (.iload_n 1, 1, [], 0) := rfl
theorem f87_19 : zF 87 19 = some (.bipush (-4), 2, [], 0) := rfl
theorem f87_21 : zF 87 21 = some (.iastore, 1, [], 0) := rfl
theorem f87_22 : zF 87 22 = some (.aload_n 0, 1, [], 0) := rfl
theorem f87_23 : zF 87 23 = some (.getfield 55, 3, [6, 12, 2], 0) := rfl
theorem f87_26 : zF 87 26 = some (.iload_n 1, 1, [], 0) := rfl
theorem f87_27 : zF 87 27 = some (.bipush (-4), 2, [], 0) := rfl
theorem f87_29 : zF 87 29 = some (.iastore, 1, [], 0) := rfl
theorem f87_30 : zF 87 30 = some (.return_, 1, [], 0) := rfl
theorem f88_0 : zF 88 0 = some (.aload_n 0, 1, [], 0) := rfl
theorem f88_1 : zF 88 1 = some (.invokespecial 3, 3, [8], 0) := rfl
theorem f88_4 : zF 88 4 = some (.aload_n 0, 1, [], 0) := rfl
theorem f88_5 : zF 88 5 = some (.bipush 60, 2, [], 0) := rfl
theorem f88_7 : zF 88 7 = some (.newarray .char, 2, [], 0) := rfl
theorem f88_9 : zF 88 9 = some (.putfield 9, 3, [7, 0, 2], 0) := rfl
theorem f88_12 : zF 88 12 = some (.aload_n 0, 1, [], 0) := rfl
theorem f88_13 : zF 88 13 = some (.iconst 0, 1, [], 0) := rfl
theorem f88_14 : zF 88 14 = some (.putfield 15, 3, [7, 1, 0], 0) := rfl
theorem f88_17 : zF 88 17 = some (.aload_n 0, 1, [], 0) := rfl
theorem f88_18 : zF 88 18 = some (.bipush 6, 2, [], 0) := rfl
theorem f88_20 : zF 88 20 = some (.newarray .char, 2, [], 0) := rfl
theorem f88_22 : zF 88 22 = some (.putfield 19, 3, [7, 2, 2], 0) := rfl
theorem f88_25 : zF 88 25 = some (.aload_n 0, 1, [], 0) := rfl
theorem f88_26 : zF 88 26 = some (.iconst 0, 1, [], 0) := rfl
theorem f88_27 : zF 88 27 = some (.putfield 22, 3, [7, 3, 0], 0) := rfl
theorem f88_30 : zF 88 30 = some (.aload_n 0, 1, [], 0) := rfl
theorem f88_31 : zF 88 31 = some (.iconst 0, 1, [], 0) := rfl
theorem f88_32 : zF 88 32 = some (.putfield 25, 3, [7, 4, 0], 0) := rfl
theorem f88_35 : zF 88 35 = some (.return_, 1, [], 0) := rfl
theorem f89_0 : zF 89 0 = some (.aload_n 0, 1, [], 0) := rfl
theorem f89_1 : zF 89 1 = some (.getfield 15, 3, [7, 1, 0], 0) := rfl
theorem f89_4 : zF 89 4 = some (.ireturn, 1, [0], 0) := rfl
theorem f90_0 : zF 90 0 = some (.aload_n 0, 1, [], 0) := rfl
theorem f90_1 : zF 90 1 = some (.getfield 15, 3, [7, 1, 0], 0) := rfl
theorem f90_4 : zF 90 4 = some (.bipush 60, 2, [], 0) := rfl
theorem f90_6 : zF 90 6 = some (.if_icmp .lt 5, 3, [], 0) := rfl
theorem f90_9 : zF 90 9 = some (.iconst 0, 1, [], 0) := rfl
theorem f90_10 : zF 90 10 = some (.ireturn, 1, [1], 0) := rfl
theorem f90_11 : zF 90 11 = some (.aload_n 0, 1, [], 0) := rfl
theorem f90_12 : zF 90 12 = some (.getfield 9, 3, [7, 0, 2], 0) := rfl
theorem f90_15 : zF 90 15 = some (.aload_n 0, 1, [], 0) := rfl
theorem f90_16 : zF 90 16 = some (.getfield 15, 3, [7, 1, 0], 0) := rfl
theorem f90_19 : zF 90 19 = some (.iload_n 1, 1, [], 0) := rfl
theorem f90_20 : zF 90 20 = some (.castore, 1, [], 0) := rfl
theorem f90_21 : zF 90 21 = some (.aload_n 0, 1, [], 0) := rfl
theorem f90_22 : zF 90 22 = some (.dup, 1, [], 0) := rfl
theorem f90_23 : zF 90 23 = some (.getfield 15, 3, [7, 1, 0], 0) := rfl
theorem f90_26 : zF 90 26 = some (.iconst 1, 1, [], 0) := rfl
theorem f90_27 : zF 90 27 = some (.iadd, 1, [], 0) := rfl
theorem f90_28 : zF 90 28 = some (.putfield 15, 3, [7, 1, 0], 0) := rfl
theorem f90_31 : zF 90 31 = some (.iconst 1, 1, [], 0) := rfl
theorem f90_32 : zF 90 32 = some (.ireturn, 1, [1], 0) := rfl
theorem f91_0 : zF 91 0 = some (.aload_n 0, 1, [], 0) := rfl
theorem f91_1 : zF 91 1 = some (.iconst 0, 1, [], 0) := rfl
theorem f91_2 : zF 91 2 = some (.putfield 15, 3, [7, 1, 0], 0) := rfl
theorem f91_5 : zF 91 5 = some (.return_, 1, [], 0) := rfl
theorem f92_0 : zF 92 0 = some (.aload_n 0, 1, [], 0) := rfl
theorem f92_1 : zF 92 1 = some (.iconst 0, 1, [], 0) := rfl
theorem f92_2 : zF 92 2 = some (.putfield 22, 3, [7, 3, 0], 0) := rfl
theorem f92_5 : zF 92 5 = some (.aload_n 0, 1, [], 0) := rfl
theorem f92_6 : zF 92 6 = some (.iconst 0, 1, [], 0) := rfl
theorem f92_7 : zF 92 7 = some (.putfield 25, 3, [7, 4, 0], 0) := rfl
theorem f92_10 : zF 92 10 = some (.iconst 0, 1, [], 0) := rfl
theorem f92_11 : zF 92 11 = some (.istore_n 1, 1, [], 0) := rfl
theorem f92_12 : zF 92 12 = some (.iload_n 1, 1, [], 0) := rfl
theorem f92_13 : zF 92 13 = some (.aload_n 0, 1, [], 0) := rfl
theorem f92_14 : zF 92 14 = some (.getfield 15, 3, [7, 1, 0], 0) := rfl
theorem f92_17 : zF 92 17 = some (.if_icmp .ge 35, 3, [], 0) := rfl
theorem f92_20 : zF 92 20 = some (.aload_n 0, 1, [], 0) := rfl
theorem f92_21 : zF 92 21 = some (.getfield 9, 3, [7, 0, 2], 0) := rfl
theorem f92_24 : zF 92 24 = some (.iload_n 1, 1, [], 0) := rfl
theorem f92_25 : zF 92 25 = some (.caload, 1, [], 0) := rfl
theorem f92_26 : zF 92 26 = some (.bipush 32, 2, [], 0) := rfl
theorem f92_28 : zF 92 28 = some (.if_icmp .eq 18, 3, [], 0) := rfl
theorem f92_31 : zF 92 31 = some (.aload_n 0, 1, [], 0) := rfl
theorem f92_32 : zF 92 32 = some (.aload_n 0, 1, [], 0) := rfl
theorem f92_33 : zF 92 33 = some (.getfield 9, 3, [7, 0, 2], 0) := rfl
theorem f92_36 : zF 92 36 = some (.iload_n 1, 1, [], 0) := rfl
theorem f92_37 : zF 92 37 = some (.caload, 1, [], 0) := rfl
theorem f92_38 : zF 92 38 = some (.invokevirtual 28, 3, [0, 94, 7, 2, 2, 0, 0], 0) := rfl
theorem f92_41 : zF 92 41 = some (.ifCond .ne 5, 3, [], 0) := rfl
theorem f92_44 : zF 92 44 = some (.iload_n 1, 1, [], 0) := rfl
theorem f92_45 : zF 92 45 = some (.ireturn, 1, [0], 0) := rfl
theorem f92_46 : zF 92 46 = some (.iinc 1 1, 3, [], 0) := rfl
theorem f92_49 : zF 92 49 = some (.goto (-37), 3, [], 0) := rfl
theorem f92_52 : zF 92 52 = some (.aload_n 0, 1, [], 0) := rfl
theorem f92_53 : zF 92 53 = some (.getfield 22, 3, [7, 3, 0], 0) := rfl
theorem f92_56 : zF 92 56 = some (.ifCond .ne 15, 3, [], 0) := rfl
theorem f92_59 : zF 92 59 = some (.aload_n 0, 1, [], 0) := rfl
theorem f92_60 : zF 92 60 = some (.getfield 25, 3, [7, 4, 0], 0) := rfl
theorem f92_63 : zF 92 63 = some (.ifCond .ne 8, 3, [], 0) := rfl
theorem f92_66 : zF 92 66 = some (.bipush (-4), 2, [], 0) := rfl
theorem f92_68 : zF 92 68 = some (.goto 7, 3, [], 0) := rfl
theorem f92_71 : zF 92 71 = some (.aload_n 0, 1, [], 0) := rfl
theorem f92_72 : zF 92 72 = some (.getfield 15, 3, [7, 1, 0], 0) := rfl
theorem f92_75 : zF 92 75 = some (.ireturn, 1, [0], 0) := rfl
theorem f93_0 : zF 93 0 = some (.aload_n 0, 1, [], 0) := rfl
theorem f93_1 : zF 93 1 = some (.getfield 15, 3, [7, 1, 0], 0) := rfl
theorem f93_4 : zF 93 4 = some (.aload_n 0, 1, [], 0) := rfl
theorem f93_5 : zF 93 5 = some (.invokevirtual 32, 3, [0, 248, 7, 1, 3, 0, 0], 0) := rfl
theorem f93_8 : zF 93 8 = some (.isub, 1, [], 0) := rfl
theorem f93_9 : zF 93 9 = some (.newarray .char, 2, [], 0) := rfl
theorem f93_11 : zF 93 11 = some (.astore_n 1, 1, [], 0) := rfl
theorem f93_12 : zF 93 12 = some (.iconst 0, 1, [], 0) := rfl
theorem f93_13 : zF 93 13 = some (.istore_n 2, 1, [], 0) := rfl
theorem f93_14 : zF 93 14 = some (.iconst 0, 1, [], 0) := rfl
theorem f93_15 : zF 93 15 = some (.istore_n 3, 1, [], 0) := rfl
theorem f93_16 : zF 93 16 = some (.iload_n 3, 1, [], 0) := rfl
theorem f93_17 : zF 93 17 = some (.aload_n 0, 1, [], 0) := rfl
theorem f93_18 : zF 93 18 = some (.getfield 15, 3, [7, 1, 0], 0) := rfl
theorem f93_21 : zF 93 21 = some (.if_icmp .ge 38, 3, [], 0) := rfl
theorem f93_24 : zF 93 24 = some (.iload_n 2, 1, [], 0) := rfl
theorem f93_25 : zF 93 25 = some (.aload_n 1, 1, [], 0) := rfl
theorem f93_26 : zF 93 26 = some (.arraylength, 1, [], 0) := rfl
theorem f93_27 : zF 93 27 = some (.if_icmp .ge 32, 3, [], 0) := rfl
theorem f93_30 : zF 93 30 = some (.aload_n 0, 1, [], 0) := rfl
theorem f93_31 : zF 93 31 = some (.getfield 9, 3, [7, 0, 2], 0) := rfl
theorem f93_34 : zF 93 34 = some (.iload_n 3, 1, [], 0) := rfl
theorem f93_35 : zF 93 35 = some (.caload, 1, [], 0) := rfl
theorem f93_36 : zF 93 36 = some (.bipush 32, 2, [], 0) := rfl
theorem f93_38 : zF 93 38 = some (.if_icmp .eq 15, 3, [], 0) := rfl
theorem f93_41 : zF 93 41 = some (.aload_n 1, 1, [], 0) := rfl
theorem f93_42 : zF 93 42 = some (.iload_n 2, 1, [], 0) := rfl
theorem f93_43 : zF 93 43 = some (.aload_n 0, 1, [], 0) := rfl
theorem f93_44 : zF 93 44 = some (.getfield 9, 3, [7, 0, 2], 0) := rfl
theorem f93_47 : zF 93 47 = some (.iload_n 3, 1, [], 0) := rfl
theorem f93_48 : zF 93 48 = some (.caload, 1, [], 0) := rfl
theorem f93_49 : zF 93 49 = some (.castore, 1, [], 0) := rfl
theorem f93_50 : zF 93 50 = some (.iinc 2 1, 3, [], 0) := rfl
theorem f93_53 : zF 93 53 = some (.iinc 3 1, 3, [], 0) := rfl
theorem f93_56 : zF 93 56 = some (.goto (-40), 3, [], 0) := rfl
theorem f93_59 : zF 93 59 = some (.new 36, 3, [4, 1], 0) := rfl
theorem f93_62 : zF 93 62 = some (.dup, 1, [], 0) := rfl
theorem f93_63 : zF 93 63 = some (.aload_n 1, 1, [], 0) := rfl
theorem f93_64 : zF 93 64 = some (.invokespecial 38, 3, [2, 36, 0, 2, 2, 0, 0], 0) := rfl
theorem f93_67 : zF 93 67 = some (.areturn, 1, [], 0) := rfl
theorem f94_0 : zF 94 0 = some (.aload_n 0, 1, [], 0) := rfl
theorem f94_1 : zF 94 1 = some (.getfield 25, 3, [7, 4, 0], 0) := rfl
theorem f94_4 : zF 94 4 = some (.tableswitch 112 1 3 #[28, 68, 91], 28, [], 0) := rfl
theorem f94_32 : zF 94 32 = some (.iload_n 1, 1, [], 0) := rfl
theorem f94_33 : zF 94 33 = some (.bipush 43, 2, [], 0) := rfl
theorem f94_35 : zF 94 35 = some (.if_icmp .eq 9, 3, [], 0) := rfl
theorem f94_38 : zF 94 38 = some (.iload_n 1, 1, [], 0) := rfl
theorem f94_39 : zF 94 39 = some (.bipush 45, 2, [], 0) := rfl
theorem f94_41 : zF 94 41 = some (.if_icmp .ne 10, 3, [], 0) := rfl
theorem f94_44 : zF 94 44 = some (.aload_n 0, 1, [], 0) := rfl
theorem f94_45 : zF 94 45 = some (.iconst 2, 1, [], 0) := rfl
theorem f94_46 : zF 94 46 = some (.putfield 25, 3, [7, 4, 0], 0) := rfl
theorem f94_49 : zF 94 49 = some (.iconst 1, 1, [], 0) := rfl
theorem f94_50 : zF 94 50 = some (.ireturn, 1, [1], 0) := rfl
theorem f94_51 : zF 94 51 = some (.iload_n 1, 1, [], 0) := rfl
theorem f94_52 : zF 94 52 = some (.bipush 40, 2, [], 0) := rfl
theorem f94_54 : zF 94 54 = some (.if_icmp .ne 16, 3, [], 0) := rfl
theorem f94_57 : zF 94 57 = some (.aload_n 0, 1, [], 0) := rfl
theorem f94_58 : zF 94 58 = some (.bipush 41, 2, [], 0) := rfl
theorem f94_60 : zF 94 60 = some (.invokevirtual 41, 3, [0, 96, 7, 2, 2, 0, 0], 0) := rfl
theorem f94_63 : zF 94 63 = some (.ifCond .eq 7, 3, [], 0) := rfl
theorem f94_66 : zF 94 66 = some (.iconst 1, 1, [], 0) := rfl
theorem f94_67 : zF 94 67 = some (.goto 4, 3, [], 0) := rfl
theorem f94_70 : zF 94 70 = some (.iconst 0, 1, [], 0) := rfl
theorem f94_71 : zF 94 71 = some (.ireturn, 1, [1], 0) := rfl
theorem f94_72 : zF 94 72 = some (.aload_n 0, 1, [], 0) := rfl
theorem f94_73 : zF 94 73 = some (.iconst 0, 1, [], 0) := rfl
theorem f94_74 : zF 94 74 = some (.putfield 25, 3, [7, 4, 0], 0) := rfl
theorem f94_77 : zF 94 77 = some (.iload_n 1, 1, [], 0) := rfl
theorem f94_78 : zF 94 78 = some (.bipush 49, 2, [], 0) := rfl
theorem f94_80 : zF 94 80 = some (.if_icmp .lt 13, 3, [], 0) := rfl
theorem f94_83 : zF 94 83 = some (.iload_n 1, 1, [], 0) := rfl
theorem f94_84 : zF 94 84 = some (.bipush 57, 2, [], 0) := rfl
theorem f94_86 : zF 94 86 = some (.if_icmp .gt 7, 3, [], 0) := rfl
theorem f94_89 : zF 94 89 = some (.iconst 1, 1, [], 0) := rfl
theorem f94_90 : zF 94 90 = some (.goto 4, 3, [], 0) := rfl
theorem f94_93 : zF 94 93 = some (.iconst 0, 1, [], 0) := rfl
theorem f94_94 : zF 94 94 = some (.ireturn, 1, [1], 0) := rfl
theorem f94_95 : zF 94 95 = some (.iload_n 1, 1, [], 0) := rfl
theorem f94_96 : zF 94 96 = some (.bipush 123, 2, [], 0) := rfl
theorem f94_98 : zF 94 98 = some (.if_icmp .ne 16, 3, [], 0) := rfl
theorem f94_101 : zF 94 101 = some (.aload_n 0, 1, [], 0) := rfl
theorem f94_102 : zF 94 102 = some (.bipush 125, 2, [], 0) := rfl
theorem f94_104 : zF 94 104 = some (.invokevirtual 41, 3, [0, 96, 7, 2, 2, 0, 0], 0) := rfl
theorem f94_107 : zF 94 107 = some (.ifCond .eq 7, 3, [], 0) := rfl
theorem f94_110 : zF 94 110 = some (.iconst 1, 1, [], 0) := rfl
theorem f94_111 : zF 94 111 = some (.goto 4, 3, [], 0) := rfl
theorem f94_114 : zF 94 114 = some (.iconst 0, 1, [], 0) := rfl
theorem f94_115 : zF 94 115 = some (.ireturn, 1, [1], 0) := rfl
theorem f94_116 : zF 94 116 = some (.aload_n 0, 1, [], 0) := rfl
theorem f94_117 : zF 94 117 = some (.iload_n 1, 1, [], 0) := rfl
theorem f94_118 : zF 94 118 = some (.invokevirtual 44, 3, [0, 95, 7, 2, 2, 0, 0], 0) := rfl
theorem f94_121 : zF 94 121 = some (.ireturn, 1, [1], 0) := rfl
theorem f95_0 : zF 95 0 = some (.iload_n 1, 1, [], 0) := rfl
theorem f95_1 : zF 95 1 = some (.bipush 97, 2, [], 0) := rfl
theorem f95_3 : zF 95 3 = some (.if_icmp .lt 16, 3, [], 0) := rfl
theorem f95_6 : zF 95 6 = some (.iload_n 1, 1, [], 0) := rfl
theorem f95_7 : zF 95 7 = some (.bipush 102, 2, [], 0) := rfl
theorem f95_9 : zF 95 9 = some (.if_icmp .gt 10, 3, [], 0) := rfl
theorem f95_12 : zF 95 12 = some (.aload_n 0, 1, [], 0) := rfl
theorem f95_13 : zF 95 13 = some (.iconst 1, 1, [], 0) := rfl
theorem f95_14 : zF 95 14 = some (.putfield 25, 3, [7, 4, 0], 0) := rfl
theorem f95_17 : zF 95 17 = some (.iconst 1, 1, [], 0) := rfl
theorem f95_18 : zF 95 18 = some (.ireturn, 1, [1], 0) := rfl
theorem f95_19 : zF 95 19 = some (.iload_n 1, 1, [], 0) := rfl
theorem f95_20 : zF 95 20 = some (.bipush 50, 2, [], 0) := rfl
theorem f95_22 : zF 95 22 = some (.if_icmp .lt 16, 3, [], 0) := rfl
theorem f95_25 : zF 95 25 = some (.iload_n 1, 1, [], 0) := rfl
theorem f95_26 : zF 95 26 = some (.bipush 53, 2, [], 0) := rfl
theorem f95_28 : zF 95 28 = some (.if_icmp .gt 10, 3, [], 0) := rfl
theorem f95_31 : zF 95 31 = some (.aload_n 0, 1, [], 0) := rfl
theorem f95_32 : zF 95 32 = some (.iconst 3, 1, [], 0) := rfl
theorem f95_33 : zF 95 33 = some (.putfield 25, 3, [7, 4, 0], 0) := rfl
theorem f95_36 : zF 95 36 = some (.iconst 1, 1, [], 0) := rfl
theorem f95_37 : zF 95 37 = some (.ireturn, 1, [1], 0) := rfl
theorem f95_38 : zF 95 38 = some (.iload_n 1, 1, [], 0) := rfl
theorem f95_39 : zF 95 39 = some (.bipush 91, 2, [], 0) := rfl
theorem f95_41 : zF 95 41 = some (.if_icmp .ne 10, 3, [], 0) := rfl
theorem f95_44 : zF 95 44 = some (.aload_n 0, 1, [], 0) := rfl
theorem f95_45 : zF 95 45 = some (.bipush 93, 2, [], 0) := rfl
theorem f95_47 : zF 95 47 = some (.invokevirtual 41, 3, [0, 96, 7, 2, 2, 0, 0], 0) := rfl
theorem f95_50 : zF 95 50 = some (.ireturn, 1, [1], 0) := rfl
theorem f95_51 : zF 95 51 = some (.iload_n 1, 1, [], 0) := rfl
theorem f95_52 : zF 95 52 = some (.bipush 33, 2, [], 0) := rfl
theorem f95_54 : zF 95 54 = some (.if_icmp .eq 11, 3, [], 0) := rfl
theorem f95_57 : zF 95 57 = some (.aload_n 0, 1, [], 0) := rfl
theorem f95_58 : zF 95 58 = some (.iload_n 1, 1, [], 0) := rfl
theorem f95_59 : zF 95 59 = some (.invokevirtual 47, 3, [0, 97, 7, 2, 2, 0, 0], 0) := rfl
theorem f95_62 : zF 95 62 = some (.ifCond .eq 7, 3, [], 0) := rfl
theorem f95_65 : zF 95 65 = some (.iconst 1, 1, [], 0) := rfl
theorem f95_66 : zF 95 66 = some (.goto 4, 3, [], 0) := rfl
theorem f95_69 : zF 95 69 = some (.iconst 0, 1, [], 0) := rfl
theorem f95_70 : zF 95 70 = some (.ireturn, 1, [1], 0) := rfl
theorem f96_0 : zF 96 0 = some (.aload_n 0, 1, [], 0) := rfl
theorem f96_1 : zF 96 1 = some (.getfield 22, 3, [7, 3, 0], 0) := rfl
theorem f96_4 : zF 96 4 = some (.bipush 6, 2, [], 0) := rfl
theorem f96_6 : zF 96 6 = some (.if_icmp .lt 5, 3, [], 0) := rfl
theorem f96_9 : zF 96 9 = some (.iconst 0, 1, [], 0) := rfl
theorem f96_10 : zF 96 10 = some (.ireturn, 1, [1], 0) := rfl
theorem f96_11 : zF 96 11 = some (.aload_n 0, 1, [], 0) := rfl
theorem f96_12 : zF 96 12 = some (.getfield 19, 3, [7, 2, 2], 0) := rfl
theorem f96_15 : zF 96 15 = some (.aload_n 0, 1, [], 0) := rfl
theorem f96_16 : zF 96 16 = some (.getfield 22, 3, [7, 3, 0], 0) := rfl
theorem f96_19 : zF 96 19 = some (.iload_n 1, 1, [], 0) := rfl
theorem f96_20 : zF 96 20 = some (.castore, 1, [], 0) := rfl
theorem f96_21 : zF 96 21 = some (.aload_n 0, 1, [], 0) := rfl
theorem f96_22 : zF 96 22 = some (.dup, 1, [], 0) := rfl
theorem f96_23 : zF 96 23 = some (.getfield 22, 3, [7, 3, 0], 0) := rfl
theorem f96_26 : zF 96 26 = some (.iconst 1, 1, [], 0) := rfl
theorem f96_27 : zF 96 27 = some (.iadd, 1, [], 0) := rfl
theorem f96_28 : zF 96 28 = some (.putfield 22, 3, [7, 3, 0], 0) := rfl
theorem f96_31 : zF 96 31 = some (.aload_n 0, 1, [], 0) := rfl
theorem f96_32 : zF 96 32 = some (.iconst 0, 1, [], 0) := rfl
theorem f96_33 : zF 96 33 = some (.putfield 25, 3, [7, 4, 0], 0) := rfl
theorem f96_36 : zF 96 36 = some (.iconst 1, 1, [], 0) := rfl
theorem f96_37 : zF 96 37 = some (.ireturn, 1, [1], 0) := rfl
theorem f97_0 : zF 97 0 = some (.aload_n 0, 1, [], 0) := rfl
theorem f97_1 : zF 97 1 = some (.getfield 22, 3, [7, 3, 0], 0) := rfl
theorem f97_4 : zF 97 4 = some (.iconst 1, 1, [], 0) := rfl
theorem f97_5 : zF 97 5 = some (.if_icmp .lt 18, 3, [], 0) := rfl
theorem f97_8 : zF 97 8 = some (.aload_n 0, 1, [], 0) := rfl
theorem f97_9 : zF 97 9 = some (.getfield 19, 3, [7, 2, 2], 0) := rfl
theorem f97_12 : zF 97 12 = some (.aload_n 0, 1, [], 0) := rfl
theorem f97_13 : zF 97 13 = some (.getfield 22, 3, [7, 3, 0], 0) := rfl
theorem f97_16 : zF 97 16 = some (.iconst 1, 1, [], 0) := rfl
theorem f97_17 : zF 97 17 = some (.isub, 1, [], 0) := rfl
theorem f97_18 : zF 97 18 = some (.caload, 1, [], 0) := rfl
theorem f97_19 : zF 97 19 = some (.iload_n 1, 1, [], 0) := rfl
theorem f97_20 : zF 97 20 = some (.if_icmp .eq 5, 3, [], 0) := rfl
theorem f97_23 : zF 97 23 = some (.iconst 0, 1, [], 0) := rfl
theorem f97_24 : zF 97 24 = some (.ireturn, 1, [1], 0) := rfl
theorem f97_25 : zF 97 25 = some (.aload_n 0, 1, [], 0) := rfl
theorem f97_26 : zF 97 26 = some (.dup, 1, [], 0) := rfl
theorem f97_27 : zF 97 27 = some (.getfield 22, 3, [7, 3, 0], 0) := rfl
theorem f97_30 : zF 97 30 = some (.iconst 1, 1, [], 0) := rfl
theorem f97_31 : zF 97 31 = some (.isub, 1, [], 0) := rfl
theorem f97_32 : zF 97 32 = some (.putfield 22, 3, [7, 3, 0], 0) := rfl
theorem f97_35 : zF 97 35 = some (.iconst 1, 1, [], 0) := rfl
theorem f97_36 : zF 97 36 = some (.ireturn, 1, [1], 0) := rfl
theorem f98_0 : zF 98 0 = some (.aload_n 0, 1, [], 0) := rfl
theorem f98_1 : zF 98 1 = some (.invokespecial 3, 3, [8], 0) := rfl
theorem f98_4 : zF 98 4 = some (.aload_n 0, 1, [], 0) := rfl
theorem f98_5 : zF 98 5 = some (.aload_n 1, 1, [], 0) := rfl
theorem f98_6 : zF 98 6 = some (.getfield 9, 3, [3, 6, 0], 0) := rfl
theorem f98_9 : zF 98 9 = some (.putfield 15, 3, [8, 0, 0], 0) := rfl
theorem f98_12 : zF 98 12 = some (.aload_n 0, 1, [], 0) := rfl
theorem f98_13 : zF 98 13 = some (.aload_n 1, 1, [], 0) := rfl
theorem f98_14 : zF 98 14 = some (.getfield 18, 3, [3, 2, 2], 0) := rfl
theorem f98_17 : zF 98 17 = some (.aload_n 0, 1, [], 0) := rfl
theorem f98_18 : zF 98 18 = some (.getfield 15, 3, [8, 0, 0], 0) := rfl
theorem f98_21 : zF 98 21 = some (.invokestatic 22, 3, [1, 247, 0, 2, 3, 1, 31], 0) := rfl
theorem f98_24 : zF 98 24 = some (.putfield 28, 3, [8, 1, 2], 0) := rfl
theorem f98_27 : zF 98 27 = some (.aload_n 0, 1, [], 0) := rfl
theorem f98_28 : zF 98 28 = some (.aload_n 1, 1, [], 0) := rfl
theorem f98_29 : zF 98 29 = some (.getfield 29, 3, [3, 3, 2], 0) := rfl
theorem f98_32 : zF 98 32 = some (.aload_n 0, 1, [], 0) := rfl
theorem f98_33 : zF 98 33 = some (.getfield 15, 3, [8, 0, 0], 0) := rfl
theorem f98_36 : zF 98 36 = some (.invokestatic 22, 3, [1, 247, 0, 2, 3, 1, 31], 0) := rfl
theorem f98_39 : zF 98 39 = some (.putfield 32, 3, [8, 2, 2], 0) := rfl
theorem f98_42 : zF 98 42 = some (.aload_n 0, 1, [], 0) := rfl
theorem f98_43 : zF 98 43 = some (.aload_n 1, 1, [], 0) := rfl
theorem f98_44 : zF 98 44 = some (.getfield 33, 3, [3, 4, 2], 0) := rfl
theorem f98_47 : zF 98 47 = some (.aload_n 0, 1, [], 0) := rfl
theorem f98_48 : zF 98 48 = some (.getfield 15, 3, [8, 0, 0], 0) := rfl
theorem f98_51 : zF 98 51 = some (.invokestatic 22, 3, [1, 247, 0, 2, 3, 1, 31], 0) := rfl
theorem f98_54 : zF 98 54 = some (.putfield 36, 3, [8, 3, 2], 0) := rfl
theorem f98_57 : zF 98 57 = some (.aload_n 0, 1, [], 0) := rfl
theorem f98_58 : zF 98 58 = some (.aload_n 1, 1, [], 0) := rfl
theorem f98_59 : zF 98 59 = some (.getfield 37, 3, [3, 5, 2], 0) := rfl
theorem f98_62 : zF 98 62 = some (.aload_n 0, 1, [], 0) := rfl
theorem f98_63 : zF 98 63 = some (.getfield 15, 3, [8, 0, 0], 0) := rfl
theorem f98_66 : zF 98 66 = some (.iconst 1, 1, [], 0) := rfl
theorem f98_67 : zF 98 67 = some (.iadd, 1, [], 0) := rfl
theorem f98_68 : zF 98 68 = some (.invokestatic 22, 3, [1, 247, 0, 2, 3, 1, 31], 0) := rfl
theorem f98_71 : zF 98 71 = some (.putfield 40, 3, [8, 4, 2], 0) := rfl
theorem f98_74 : zF 98 74 = some (.aload_n 0, 1, [], 0) := rfl
theorem f98_75 : zF 98 75 = some (.aload_n 1, 1, [], 0) := rfl
theorem f98_76 : zF 98 76 = some (.getfield 41, 3, [3, 14, 0], 0) := rfl
theorem f98_79 : zF 98 79 = some (.putfield 44, 3, [8, 5, 0], 0) := rfl
theorem f98_82 : zF 98 82 = some (.aload_n 0, 1, [], 0) := rfl
theorem f98_83 : zF 98 83 = some (.aload_n 1, 1, [], 0) := rfl
theorem f98_84 : zF 98 84 = some (.getfield 45, 3, [3, 15, 0], 0) := rfl
theorem f98_87 : zF 98 87 = some (.putfield 48, 3, [8, 6, 0], 0) := rfl
theorem f98_90 : zF 98 90 = some (.aload_n 0, 1, [], 0) := rfl
theorem f98_91 : zF 98 91 = some (.aload_n 1, 1, [], 0) := rfl
theorem f98_92 : zF 98 92 = some (.getfield 49, 3, [3, 16, 0], 0) := rfl
theorem f98_95 : zF 98 95 = some (.putfield 52, 3, [8, 7, 0], 0) := rfl
theorem f98_98 : zF 98 98 = some (.aload_n 0, 1, [], 0) := rfl
theorem f98_99 : zF 98 99 = some (.aload_n 1, 1, [], 0) := rfl
theorem f98_100 : zF 98 100 = some (.getfield 53, 3, [3, 17, 0], 0) := rfl
theorem f98_103 : zF 98 103 = some (.putfield 56, 3, [8, 8, 0], 0) := rfl
theorem f98_106 : zF 98 106 = some (.aload_n 0, 1, [], 0) := rfl
theorem f98_107 : zF 98 107 = some (.aload_n 1, 1, [], 0) := rfl
theorem f98_108 : zF 98 108 = some (.getfield 57, 3, [3, 11, 0], 0) := rfl
theorem f98_111 : zF 98 111 = some (.putfield 60, 3, [8, 9, 0], 0) := rfl
theorem f98_114 : zF 98 114 = some (.return_, 1, [], 0) := rfl
theorem f99_0 : zF 99 0 = some (.aload_n 0, 1, [], 0) := rfl
theorem f99_1 : zF 99 1 = some (.getfield 15, 3, [8, 0, 0], 0) := rfl
theorem f99_4 : zF 99 4 = some (.ireturn, 1, [0], 0) := rfl
theorem f100_0 : zF 100 0 = some (.aload_n 0, 1, [], 0) := rfl
theorem f100_1 : zF 100 1 = some (.getfield 44, 3, [8, 5, 0], 0) := rfl
theorem f100_4 : zF 100 4 = some (.ifCond .eq 7, 3, [], 0) := rfl
theorem f100_7 : zF 100 7 = some (.iconst 1, 1, [], 0) := rfl
theorem f100_8 : zF 100 8 = some (.goto 4, 3, [], 0) := rfl
theorem f100_11 : zF 100 11 = some (.iconst 0, 1, [], 0) := rfl
theorem f100_12 : zF 100 12 = some (.ireturn, 1, [1], 0) := rfl
theorem f101_0 : zF 101 0 = some (.iload_n 1, 1, [], 0) := rfl
theorem f101_1 : zF 101 1 = some (.ifCond .lt 15, 3, [], 0) := rfl
theorem f101_4 : zF 101 4 = some (.iload_n 1, 1, [], 0) := rfl
theorem f101_5 : zF 101 5 = some (.aload_n 0, 1, [], 0) := rfl
theorem f101_6 : zF 101 6 = some (.getfield 15, 3, [8, 0, 0], 0) := rfl
theorem f101_9 : zF 101 9 = some (.if_icmp .ge 7, 3, [], 0) := rfl
theorem f101_12 : zF 101 12 = some (.iconst 1, 1, [], 0) := rfl
theorem f101_13 : zF 101 13 = some (.goto 4, 3, [], 0) := rfl
theorem f101_16 : zF 101 16 = some (.iconst 0, 1, [], 0) := rfl
theorem f101_17 : zF 101 17 = some (.ireturn, 1, [1], 0) := rfl
theorem f102_0 : zF 102 0 = some (.aload_n 0, 1, [], 0) := rfl
theorem f102_1 : zF 102 1 = some (.iload_n 1, 1, [], 0) := rfl
theorem f102_2 : zF 102 2 = some (.invokevirtual 61, 3, [0, 101, 8, 2, 2, 0, 0], 0) := rfl
theorem f102_5 : zF 102 5 = some (.ifCond .eq 12, 3, [], 0) := rfl
theorem f102_8 : zF 102 8 = some (.aload_n 0, 1, [], 0) := rfl
theorem f102_9 : zF 102 9 = some (.getfield 28, 3, [8, 1, 2], 0) := rfl
theorem f102_12 : zF 102 12 = some (.iload_n 1, 1, [], 0) := rfl
theorem f102_13 : zF 102 13 = some (.iaload, 1, [], 0) := rfl
theorem f102_14 : zF 102 14 = some (.goto 5, 3, [], 0) := rfl
theorem f102_17 : zF 102 17 = some (.bipush (-4), 2, [], 0) := rfl
theorem f102_19 : zF 102 19 = some (.ireturn, 1, [0], 0) := rfl
theorem f103_0 : zF 103 0 = some (.aload_n 0, 1, [], 0) := rfl
theorem f103_1 : zF 103 1 = some (.iload_n 1, 1, [], 0) := rfl
theorem f103_2 : zF 103 2 = some (.invokevirtual 61, 3, [0, 101, 8, 2, 2, 0, 0], 0) := rfl
theorem f103_5 : zF 103 5 = some (.ifCond .eq 12, 3, [], 0) := rfl
theorem f103_8 : zF 103 8 = some (.aload_n 0, 1, [], 0) := rfl
theorem f103_9 : zF 103 9 = some (.getfield 32, 3, [8, 2, 2], 0) := rfl
theorem f103_12 : zF 103 12 = some (.iload_n 1, 1, [], 0) := rfl
theorem f103_13 : zF 103 13 = some (.iaload, 1, [], 0) := rfl
theorem f103_14 : zF 103 14 = some (.goto 5, 3, [], 0) := rfl
theorem f103_17 : zF 103 17 = some (.bipush (-4), 2, [], 0) := rfl
theorem f103_19 : zF 103 19 = some (.ireturn, 1, [0], 0) := rfl
theorem f104_0 : zF 104 0 = some (.aload_n 0, 1, [], 0) := rfl
theorem f104_1 : zF 104 1 = some (.iload_n 1, 1, [], 0) := rfl
theorem f104_2 : zF 104 2 = some (.invokevirtual 61, 3, [0, 101, 8, 2, 2, 0, 0], 0) := rfl
theorem f104_5 : zF 104 5 = some (.ifCond .eq 12, 3, [], 0) := rfl
theorem f104_8 : zF 104 8 = some (.aload_n 0, 1, [], 0) := rfl
theorem f104_9 : zF 104 9 = some (.getfield 36, 3, [8, 3, 2], 0) := rfl
theorem f104_12 : zF 104 12 = some (.iload_n 1, 1, [], 0) := rfl
theorem f104_13 : zF 104 13 = some (.iaload, 1, [], 0) := rfl
theorem f104_14 : zF 104 14 = some (.goto 4, 3, [], 0) := rfl
theorem f104_17 : zF 104 17 = some (.iconst 0, 1, [], 0) := rfl
theorem f104_18 : zF 104 18 = some (.ireturn, 1, [0], 0) := rfl
theorem f105_0 : zF 105 0 = some (.iconst 0, 1, [], 0) := rfl
theorem f105_1 : zF 105 1 = some (.istore 4, 2, [], 0) := rfl
theorem f105_3 : zF 105 3 = some (.iload 4, 2, [], 0) := rfl
theorem f105_5 : zF 105 5 = some (.iload_n 2, 1, [], 0) := rfl
theorem f105_6 : zF 105 6 = some (.if_icmp .ge 51, 3, [], 0) := rfl
theorem f105_9 : zF 105 9 = some (.iload 4, 2, [], 0) := rfl
theorem f105_11 : zF 105 11 = some (.aload_n 0, 1, [], 0) := rfl
theorem f105_12 : zF 105 12 = some (.getfield 15, 3, [8, 0, 0], 0) := rfl
theorem f105_15 : zF 105 15 = some (.if_icmp .ge 42, 3, [], 0) := rfl
theorem f105_18 : zF 105 18 = some (.aload_n 0, 1, [], 0) := rfl
theorem f105_19 : zF 105 19 = some (.getfield 32, 3, [8, 2, 2], 0) := rfl
theorem f105_22 : zF 105 22 = some (.iload 4, 2, [], 0) := rfl
theorem f105_24 : zF 105 24 = some (.iaload, 1, [], 0) := rfl
theorem f105_25 : zF 105 25 = some (.aload_n 1, 1, [], 0) := rfl
theorem f105_26 : zF 105 26 = some (.arraylength, 1, [], 0) := rfl
theorem f105_27 : zF 105 27 = some (.if_icmp .ge 24, 3, [], 0) := rfl
theorem f105_30 : zF 105 30 = some (.aload_n 1, 1, [], 0) := rfl
theorem f105_31 : zF 105 31 = some (.aload_n 0, 1, [], 0) := rfl
theorem f105_32 : zF 105 32 = some (.getfield 32, 3, [8, 2, 2], 0) := rfl
theorem f105_35 : zF 105 35 = some (.iload 4, 2, [], 0) := rfl
theorem f105_37 : zF 105 37 = some (.iaload, 1, [], 0) := rfl
theorem f105_38 : zF 105 38 = some (.dup2, 1, [], 0) := rfl
theorem f105_39 : zF 105 39 = some (.iaload, 1, [], 0) := rfl
theorem f105_40 : zF 105 40 = some (.iload_n 3, 1, [], 0) := rfl
theorem f105_41 : zF 105 41 = some (.aload_n 0, 1, [], 0) := rfl
theorem f105_42 : zF 105 42 = some (.getfield 36, 3, [8, 3, 2], 0) := rfl
theorem f105_45 : zF 105 45 = some (.iload 4, 2, [], 0) := rfl
theorem f105_47 : zF 105 47 = some (.iaload, 1, [], 0) := rfl
theorem f105_48 : zF 105 48 = some (.imul, 1, [], 0) := rfl
theorem f105_49 : zF 105 49 = some (.iadd, 1, [], 0) := rfl
theorem f105_50 : zF 105 50 = some (.iastore, 1, [], 0) := rfl
theorem f105_51 : zF 105 51 = some (.iinc 4 1, 3, [], 0) := rfl
theorem f105_54 : zF 105 54 = some (.goto (-51), 3, [], 0) := rfl
theorem f105_57 : zF 105 57 = some (.return_, 1, [], 0) := rfl
theorem f106_0 : zF 106 0 = some (.iload_n 1, 1, [], 0) := rfl
theorem f106_1 : zF 106 1 = some (.ifCond .lt 11, 3, [], 0) := rfl
theorem f106_4 : zF 106 4 = some (.iload_n 1, 1, [], 0) := rfl
theorem f106_5 : zF 106 5 = some (.aload_n 0, 1, [], 0) := rfl
theorem f106_6 : zF 106 6 = some (.getfield 15, 3, [8, 0, 0], 0) := rfl
theorem f106_9 : zF 106 9 = some (.if_icmp .le 7, 3, [], 0) := rfl
theorem f106_12 : zF 106 12 = some (.iconst 0, 1, [], 0) := rfl
theorem f106_13 : zF 106 13 = some (.goto 9, 3, [], 0) := rfl
theorem f106_16 : zF 106 16 = some (.aload_n 0, 1, [], 0) := rfl
theorem f106_17 : zF 106 17 = some (.getfield 40, 3, [8, 4, 2], 0) := rfl
theorem f106_20 : zF 106 20 = some (.iload_n 1, 1, [], 0) := rfl
theorem f106_21 : zF 106 21 = some (.iaload, 1, [], 0) := rfl
theorem f106_22 : zF 106 22 = some (.ireturn, 1, [0], 0) := rfl
theorem f107_0 : zF 107 0 = some (.aload_n 0, 1, [], 0) := rfl
theorem f107_1 : zF 107 1 = some (.iload_n 1, 1, [], 0) := rfl
theorem f107_2 : zF 107 2 = some (.invokevirtual 65, 3, [0, 102, 8, 2, 2, 0, 0], 0) := rfl
theorem f107_5 : zF 107 5 = some (.ifCond .ne 12, 3, [], 0) := rfl
theorem f107_8 : zF 107 8 = some (.aload_n 0, 1, [], 0) := rfl
theorem f107_9 : zF 107 9 = some (.getfield 32, 3, [8, 2, 2], 0) := rfl
theorem f107_12 : zF 107 12 = some (.iload_n 1, 1, [], 0) := rfl
theorem f107_13 : zF 107 13 = some (.iaload, 1, [], 0) := rfl
theorem f107_14 : zF 107 14 = some (.goto 5, 3, [], 0) := rfl
theorem f107_17 : zF 107 17 = some (.bipush (-4), 2, [], 0) := rfl
theorem f107_19 : zF 107 19 = some (.ireturn, 1, [0], 0) := rfl
theorem f108_0 : zF 108 0 = some (.aload_n 0, 1, [], 0) := rfl
theorem f108_1 : zF 108 1 = some (.iload_n 1, 1, [], 0) := rfl
theorem f108_2 : zF 108 2 = some (.invokevirtual 69, 3, [0, 107, 8, 2, 2, 0, 0], 0) := rfl
theorem f108_5 : zF 108 5 = some (.istore_n 3, 1, [], 0) := rfl
theorem f108_6 : zF 108 6 = some (.aload_n 0, 1, [], 0) := rfl
theorem f108_7 : zF 108 7 = some (.iload_n 1, 1, [], 0) := rfl
theorem f108_8 : zF 108 8 = some (.invokevirtual 61, 3, [0, 101, 8, 2, 2, 0, 0], 0) := rfl
theorem f108_11 : zF 108 11 = some (.ifCond .eq 21, 3, [], 0) := rfl
theorem f108_14 : zF 108 14 = some (.iload_n 3, 1, [], 0) := rfl
theorem f108_15 : zF 108 15 = some (.bipush (-4), 2, [], 0) := rfl
theorem f108_17 : zF 108 17 = some (.if_icmp .eq 11, 3, [], 0) := rfl
theorem f108_20 : zF 108 20 = some (.iload_n 2, 1, [], 0) := rfl
theorem f108_21 : zF 108 21 = some (.iload_n 3, 1, [], 0) := rfl
theorem f108_22 : zF 108 22 = some (.invokestatic 72, 3, [3, 147, 0, 2, 2, 0, 0], 0) := rfl
theorem f108_25 : zF 108 25 = some (.ifCond .ne 7, 3, [], 0) := rfl
theorem f108_28 : zF 108 28 = some (.iconst 1, 1, [], 0) := rfl
theorem f108_29 : zF 108 29 = some (.goto 4, 3, [], 0) := rfl
theorem f108_32 : zF 108 32 = some (.iconst 0, 1, [], 0) := rfl
theorem f108_33 : zF 108 33 = some (.ireturn, 1, [1], 0) := rfl
theorem f109_0 : zF 109 0 = some (.iload_n 1, 1, [], 0) := rfl
theorem f109_1 : zF 109 1 = some (.tableswitch 69 0 5 #[39, 44, 49, 54, 59, 64], 39, [], 0) := rfl
theorem f109_40 : zF 109 40 = some (.aload_n 0, 1, [], 0) := rfl
theorem f109_41 : zF 109 41 = some (.getfield 15, 3, [8, 0, 0], 0) := rfl
theorem f109_44 : zF 109 44 = some (.ireturn, 1, [0], 0) := rfl
theorem f109_45 : zF 109 45 = some (.aload_n 0, 1, [], 0) := rfl
theorem f109_46 : zF 109 46 = some (.getfield 44, 3, [8, 5, 0], 0) := rfl
theorem f109_49 : zF 109 49 = some (.ireturn, 1, [0], 0) := rfl
theorem f109_50 : zF 109 50 = some (.aload_n 0, 1, [], 0) := rfl
theorem f109_51 : zF 109 51 = some (.getfield 48, 3, [8, 6, 0], 0) := rfl
theorem f109_54 : zF 109 54 = some (.ireturn, 1, [0], 0) := rfl
theorem f109_55 : zF 109 55 = some (.aload_n 0, 1, [], 0) := rfl
theorem f109_56 : zF 109 56 = some (.getfield 52, 3, [8, 7, 0], 0) := rfl
theorem f109_59 : zF 109 59 = some (.ireturn, 1, [0], 0) := rfl
theorem f109_60 : zF 109 60 = some (.aload_n 0, 1, [], 0) := rfl
theorem f109_61 : zF 109 61 = some (.getfield 56, 3, [8, 8, 0], 0) := rfl
theorem f109_64 : zF 109 64 = some (.ireturn, 1, [0], 0) := rfl
theorem f109_65 : zF 109 65 = some (.aload_n 0, 1, [], 0) := rfl
theorem f109_66 : zF 109 66 = some (.getfield 60, 3, [8, 9, 0], 0) := rfl
theorem f109_69 : zF 109 69 = some (.ireturn, 1, [0], 0) := rfl
theorem f109_70 : zF 109 70 = some (.iconst (-1), 1, [], 0) := rfl
theorem f109_71 : zF 109 71 = some (.ireturn, 1, [0], 0) := rfl
theorem f110_0 : zF 110 0 = some (.aload_n 0, 1, [], 0) := rfl
theorem f110_1 : zF 110 1 = some (.iload_n 1, 1, [], 0) := rfl
theorem f110_2 : zF 110 2 = some (.invokevirtual 61, 3, [0, 101, 8, 2, 2, 0, 0], 0) := rfl
theorem f110_5 : zF 110 5 = some (.ifCond .ne 5, 3, [], 0) := rfl
theorem f110_8 : zF 110 8 = some (.iconst (-1), 1, [], 0) := rfl
theorem f110_9 : zF 110 9 = some (.ireturn, 1, [0], 0) := rfl
theorem f110_10 : zF 110 10 = some (.iload_n 2, 1, [], 0) := rfl
theorem f110_11 : zF 110 11 = some (.tableswitch 49 0 2 #[25, 32, 39], 25, [], 0) := rfl
theorem f110_36 : zF 110 36 = some (.aload_n 0, 1, [], 0) := rfl
theorem f110_37 : zF 110 37 = some (.getfield 28, 3, [8, 1, 2], 0) := rfl
theorem f110_40 : zF 110 40 = some (.iload_n 1, 1, [], 0) := rfl
theorem f110_41 : zF 110 41 = some (.iaload, 1, [], 0) := rfl
theorem f110_42 : zF 110 42 = some (.ireturn, 1, [0], 0) := rfl
theorem f110_43 : zF 110 43 = some (.aload_n 0, 1, [], 0) := rfl
theorem f110_44 : zF 110 44 = some (.getfield 32, 3, [8, 2, 2], 0) := rfl
theorem f110_47 : zF 110 47 = some (.iload_n 1, 1, [], 0) := rfl
theorem f110_48 : zF 110 48 = some (.iaload, 1, [], 0) := rfl
theorem f110_49 : zF 110 49 = some (.ireturn, 1, [0], 0) := rfl
theorem f110_50 : zF 110 50 = some (.aload_n 0, 1, [], 0) := rfl
theorem f110_51 : zF 110 51 = some (.getfield 36, 3, [8, 3, 2], 0) := rfl
theorem f110_54 : zF 110 54 = some (.iload_n 1, 1, [], 0) := rfl
theorem f110_55 : zF 110 55 = some (.iaload, 1, [], 0) := rfl
theorem f110_56 : zF 110 56 = some (.bipush 10, 2, [], 0) := rfl
theorem f110_58 : zF 110 58 = some (.iadd, 1, [], 0) := rfl
theorem f110_59 : zF 110 59 = some (.ireturn, 1, [0], 0) := rfl
theorem f110_60 : zF 110 60 = some (.iconst (-1), 1, [], 0) := rfl
theorem f110_61 : zF 110 61 = some (.ireturn, 1, [0], 0) := rfl
theorem f111_0 : zF 111 0 = some (.aload_n 0, 1, [], 0) := rfl
theorem f111_1 : zF 111 1 = some (.invokespecial 1, 3, [8], 0) := rfl
theorem f111_4 : zF 111 4 = some (.aload_n 0, 1, [], 0) := rfl
theorem f111_5 : zF 111 5 = some (.new 7, 3, [7, 5], 0) := rfl
theorem f111_8 : zF 111 8 = some (.dup, 1, [], 0) := rfl
theorem f111_9 : zF 111 9 = some (.invokespecial 9, 3, [4, 88, 0, 1, 1, 2, 66], 0) := rfl
theorem f111_12 : zF 111 12 = some (.putfield 10, 3, [9, 0, 2], 0) := rfl
theorem f111_15 : zF 111 15 = some (.aload_n 0, 1, [], 0) := rfl
theorem f111_16 : zF 111 16 = some (.new 16, 3, [3, 18], 0) := rfl
theorem f111_19 : zF 111 19 = some (.dup, 1, [], 0) := rfl
theorem f111_20 : zF 111 20 = some (.invokespecial 18, 3, [4, 23, 0, 1, 1, 8, 158], 0) := rfl
theorem f111_23 : zF 111 23 = some (.putfield 19, 3, [9, 1, 2], 0) := rfl
theorem f111_26 : zF 111 26 = some (.new 23, 3, [4, 1], 0) := rfl
theorem f111_29 : zF 111 29 = some (.dup, 1, [], 0) := rfl
theorem f111_30 : zF 111 30 = some (.iconst 0, 1, [], 0) := rfl
theorem f111_31 : zF 111 31 = some (.newarray .char, 2, [], 0) := rfl
theorem f111_33 : zF 111 33 = some (.invokespecial 25, 3, [2, 36, 0, 2, 2, 0, 0], 0) := rfl
theorem f111_36 : zF 111 36 = some (.astore_n 1, 1, [], 0) := rfl
theorem f111_37 : zF 111 37 = some (.new 28, 3, [8, 10], 0) := rfl
theorem f111_40 : zF 111 40 = some (.dup, 1, [], 0) := rfl
theorem f111_41 : zF 111 41 = some (.aload_n 0, 1, [], 0) := rfl
theorem f111_42 : zF 111 42 = some (.getfield 19, 3, [9, 1, 2], 0) := rfl
theorem f111_45 : zF 111 45 = some (.invokespecial 30, 3, [2, 98, 0, 2, 2, 4, 124], 0) := rfl
theorem f111_48 : zF 111 48 = some (.astore_n 2, 1, [], 0) := rfl
theorem f111_49 : zF 111 49 = some (.aload_n 0, 1, [], 0) := rfl
theorem f111_50 : zF 111 50 = some (.iconst 4, 1, [], 0) := rfl
theorem f111_51 : zF 111 51 = some (.anewarray 28, 3, [24], 0) := rfl
theorem f111_54 : zF 111 54 = some (.putfield 33, 3, [9, 2, 2], 0) := rfl
theorem f111_57 : zF 111 57 = some (.iconst 0, 1, [], 0) := rfl
theorem f111_58 : zF 111 58 = some (.istore_n 3, 1, [], 0) := rfl
theorem f111_59 : zF 111 59 = some (.iload_n 3, 1, [], 0) := rfl
theorem f111_60 : zF 111 60 = some (.iconst 4, 1, [], 0) := rfl
theorem f111_61 : zF 111 61 = some (.if_icmp .ge 16, 3, [], 0) := rfl
theorem f111_64 : zF 111 64 = some (.aload_n 0, 1, [], 0) := rfl
theorem f111_65 : zF 111 65 = some (.getfield 33, 3, [9, 2, 2], 0) := rfl
theorem f111_68 : zF 111 68 = some (.iload_n 3, 1, [], 0) := rfl
theorem f111_69 : zF 111 69 = some (.aload_n 2, 1, [], 0) := rfl
theorem f111_70 : zF 111 70 = some (.aastore, 1, [], 0) := rfl
theorem f111_71 : zF 111 71 = some (.iinc 3 1, 3, [], 0) := rfl
theorem f111_74 : zF 111 74 = some (.goto (-15), 3, [], 0) := rfl
theorem f111_77 : zF 111 77 = some (.aload_n 0, 1, [], 0) := rfl
theorem f111_78 : zF 111 78 = some (.new 37, 3, [6, 14], 0) := rfl
theorem f111_81 : zF 111 81 = some (.dup, 1, [], 0) := rfl
theorem f111_82 : zF 111 82 = some (.aload_n 1, 1, [], 0) := rfl
theorem f111_83 : zF 111 83 = some (.aload_n 2, 1, [], 0) := rfl
theorem f111_84 : zF 111 84 = some (.invokespecial 39, 3, [2, 51, 0, 3, 4, 10, 46], 0) := rfl
theorem f111_87 : zF 111 87 = some (.putfield 42, 3, [9, 3, 2], 0) := rfl
theorem f111_90 : zF 111 90 = some (.aload_n 0, 1, [], 0) := rfl
theorem f111_91 : zF 111 91 = some (.new 37, 3, [6, 14], 0) := rfl
theorem f111_94 : zF 111 94 = some (.dup, 1, [], 0) := rfl
theorem f111_95 : zF 111 95 = some (.aload_n 1, 1, [], 0) := rfl
theorem f111_96 : zF 111 96 = some (.aload_n 2, 1, [], 0) := rfl
theorem f111_97 : zF 111 97 = some (.invokespecial 39, 3, [2, 51, 0, 3, 4, 10, 46], 0) := rfl
theorem f111_100 : zF 111 100 = some (.putfield 46, 3, [9, 4, 2], 0) := rfl
theorem f111_103 : zF 111 103 = some (.aload_n 0, 1, [], 0) := rfl
theorem f111_104 : zF 111 104 = some (.new 49, 3, [0, 2], 0) := rfl
theorem f111_107 : zF 111 107 = some (.dup, 1, [], 0) := rfl
theorem f111_108 : zF 111 108 = some (.aload_n 1, 1, [], 0) := rfl
theorem f111_109 : zF 111 109 = some (.aload_n 2, 1, [], 0) := rfl
theorem f111_110 : zF 111 110 = some (.invokespecial 51, 3, [2, 0, 0, 3, 4, 67, 366], 0) := rfl
theorem f111_113 : zF 111 113 = some (.putfield 52, 3, [9, 5, 2], 0) := rfl
theorem f111_116 : zF 111 116 = some (.aload_n 0, 1, [], 0) := rfl
theorem f111_117 : zF 111 117 = some (.new 37, 3, [6, 14], 0) := rfl
theorem f111_120 : zF 111 120 = some (.dup, 1, [], 0) := rfl
theorem f111_121 : zF 111 121 = some (.aload_n 1, 1, [], 0) := rfl
theorem f111_122 : zF 111 122 = some (.aload_n 2, 1, [], 0) := rfl
theorem f111_123 : zF 111 123 = some (.invokespecial 39, 3, [2, 51, 0, 3, 4, 10, 46], 0) := rfl
theorem f111_126 : zF 111 126 = some (.putfield 56, 3, [9, 6, 2], 0) := rfl
theorem f111_129 : zF 111 129 = some (.aload_n 0, 1, [], 0) := rfl
theorem f111_130 : zF 111 130 = some (.new 49, 3, [0, 2], 0) := rfl
theorem f111_133 : zF 111 133 = some (.dup, 1, [], 0) := by decide +kernel
theorem f111_134 : zF 111 134 = some (.aload_n 1, 1, [], 0) := by decide +kernel
theorem f111_135 : zF 111 135 = some (.aload_n 2, 1, [], 0) := by decide +kernel
theorem f111_136 : zF 111 136 = some (.invokespecial 51, 3, [2, 0, 0, 3, 4, 67, 366], 0) := by decide +kernel
theorem f111_139 : zF 111 139 = some (.putfield 59, 3, [9, 7, 2], 0) := by decide +kernel
theorem f111_142 : zF 111 142 = some (.aload_n 0, 1, [], 0) := by decide +kernel
theorem f111_143 : zF 111 143 = some (.iconst 0, 1, [], 0) := by decide +kernel
theorem f111_144 : zF 111 144 = some (.putfield 62, 3, [9, 8, 3], 0) := by decide +kernel
theorem f111_147 : zF 111 147 = some (.aload_n 0, 1, [], 0) := by decide +kernel
theorem f111_148 : zF 111 148 = some (.new 66, 3, [1, 1], 0) := by decide +kernel
theorem f111_151 : zF 111 151 = some (.dup, 1, [], 0) := by decide +kernel
theorem f111_152 : zF 111 152 = some (.invokespecial 68, 3, [4, 6, 0, 1, 1, 1, 6], 0) := by decide +kernel
theorem f111_155 : zF 111 155 = some (.putfield 69, 3, [9, 9, 2], 0) := by decide +kernel
theorem f111_158 : zF 111 158 = some (.aload_n 0, 1, [], 0) := by decide +kernel
theorem f111_159 : zF 111 159 = some (.new 73, 3, [2, 8], 0) := by decide +kernel
theorem f111_162 : zF 111 162 = some (.dup, 1, [], 0) := by decide +kernel
theorem f111_163 : zF 111 163 = some (.aload_n 2, 1, [], 0) := by decide +kernel
theorem f111_164 : zF 111 164 = some (.invokespecial 75, 3, [2, 13, 0, 2, 2, 2, 62], 0) := by decide +kernel
theorem f111_167 : zF 111 167 = some (.putfield 78, 3, [9, 10, 2], 0) := by decide +kernel
theorem f111_170 : zF 111 170 = some (.aload_n 0, 1, [], 0) := by decide +kernel
theorem f111_171 : zF 111 171 = some (.iconst 4, 1, [], 0) := by decide +kernel
theorem f111_172 : zF 111 172 = some (.anewarray 82, 3, [26], 0) := by decide +kernel
theorem f111_175 : zF 111 175 = some (.putfield 84, 3, [9, 11, 2], 0) := by decide +kernel
theorem f111_178 : zF 111 178 = some (.iconst 0, 1, [], 0) := by decide +kernel
theorem f111_179 : zF 111 179 = some (.istore_n 3, 1, [], 0) := by decide +kernel
theorem f111_180 : zF 111 180 = some (.iload_n 3, 1, [], 0) := by decide +kernel
theorem f111_181 : zF 111 181 = some (.iconst 4, 1, [], 0) := by decide +kernel
theorem f111_182 : zF 111 182 = some (.if_icmp .ge 22, 3, [], 0) := by decide +kernel
theorem f111_185 : zF 111 185 = some (.aload_n 0, 1, [], 0) := by decide +kernel
theorem f111_186 : zF 111 186 = some (.getfield 84, 3, [9, 11, 2], 0) := by decide +kernel
theorem f111_189 : zF 111 189 = some (.iload_n 3, 1, [], 0) := by decide +kernel
theorem f111_190 : zF 111 190 = some (.new 82, 3, [5, 3], 0) := by decide +kernel
theorem f111_193 : zF 111 193 = some (.dup, 1, [], 0) := by decide +kernel
theorem f111_194 : zF 111 194 = some (.invokespecial 88, 3, [4, 40, 0, 1, 1, 1, 24], 0) := by decide +kernel
theorem f111_197 : zF 111 197 = some (.aastore, 1, [], 0) := by decide +kernel
theorem f111_198 : zF 111 198 = some (.iinc 3 1, 3, [], 0) := by decide +kernel
theorem f111_201 : zF 111 201 = some (.goto (-21), 3, [], 0) := by decide +kernel
theorem f111_204 : zF 111 204 = some (.return_, 1, [], 0) := by decide +kernel
theorem f112_0 : zF 112 0 = some (.iload_n 1, 1, [], 0) := rfl
theorem f112_1 : zF 112 1 = some (.bipush 32, 2, [], 0) := rfl
theorem f112_3 : zF 112 3 = some (.if_icmp .lt 9, 3, [], 0) := rfl
theorem f112_6 : zF 112 6 = some (.iload_n 1, 1, [], 0) := rfl
theorem f112_7 : zF 112 7 = some (.bipush 126, 2, [], 0) := rfl
theorem f112_9 : zF 112 9 = some (.if_icmp .le 5, 3, [], 0) := rfl
theorem f112_12 : zF 112 12 = some (.iconst (-1), 1, [], 0) := rfl
theorem f112_13 : zF 112 13 = some (.ireturn, 1, [0], 0) := rfl
theorem f112_14 : zF 112 14 = some (.aload_n 0, 1, [], 0) := rfl
theorem f112_15 : zF 112 15 = some (.getfield 10, 3, [9, 0, 2], 0) := rfl
theorem f112_18 : zF 112 18 = some (.iload_n 1, 1, [], 0) := rfl
theorem f112_19 : zF 112 19 = some (.i2c, 1, [], 0) := rfl
theorem f112_20 : zF 112 20 = some (.invokevirtual 89, 3, [0, 90, 7, 2, 2, 0, 0], 0) := rfl
theorem f112_23 : zF 112 23 = some (.ifCond .eq 13, 3, [], 0) := rfl
theorem f112_26 : zF 112 26 = some (.aload_n 0, 1, [], 0) := rfl
theorem f112_27 : zF 112 27 = some (.getfield 10, 3, [9, 0, 2], 0) := rfl
theorem f112_30 : zF 112 30 = some (.invokevirtual 93, 3, [0, 89, 7, 1, 1, 0, 0], 0) := rfl
theorem f112_33 : zF 112 33 = some (.goto 5, 3, [], 0) := rfl
theorem f112_36 : zF 112 36 = some (.bipush (-3), 2, [], 0) := rfl
theorem f112_38 : zF 112 38 = some (.ireturn, 1, [0], 0) := rfl
theorem f113_0 : zF 113 0 = some (.iload_n 1, 1, [], 0) := rfl
theorem f113_1 : zF 113 1 = some (.invokestatic 97, 3, [1, 141, 0, 1, 1, 0, 0], 0) := rfl
theorem f113_4 : zF 113 4 = some (.ifCond .eq 5, 3, [], 0) := rfl
theorem f113_7 : zF 113 7 = some (.iconst (-1), 1, [], 0) := rfl
theorem f113_8 : zF 113 8 = some (.ireturn, 1, [0], 0) := rfl
theorem f113_9 : zF 113 9 = some (.aload_n 0, 1, [], 0) := rfl
theorem f113_10 : zF 113 10 = some (.getfield 42, 3, [9, 3, 2], 0) := rfl
theorem f113_13 : zF 113 13 = some (.invokevirtual 101, 3, [0, 60, 6, 1, 1, 0, 0], 0) := rfl
theorem f113_16 : zF 113 16 = some (.ifCond .eq 8, 3, [], 0) := rfl
theorem f113_19 : zF 113 19 = some (.bipush (-2), 2, [], 0) := rfl
theorem f113_21 : zF 113 21 = some (.goto 8, 3, [], 0) := rfl
theorem f113_24 : zF 113 24 = some (.aload_n 0, 1, [], 0) := rfl
theorem f113_25 : zF 113 25 = some (.iload_n 1, 1, [], 0) := rfl
theorem f113_26 : zF 113 26 = some (.invokevirtual 105, 3, [0, 148, 9, 2, 4, 8, 255], 0) := rfl
theorem f113_29 : zF 113 29 = some (.istore_n 2, 1, [], 0) := rfl
theorem f113_30 : zF 113 30 = some (.aload_n 0, 1, [], 0) := rfl
theorem f113_31 : zF 113 31 = some (.getfield 10, 3, [9, 0, 2], 0) := rfl
theorem f113_34 : zF 113 34 = some (.invokevirtual 109, 3, [0, 91, 7, 1, 1, 0, 0], 0) := rfl
theorem f113_37 : zF 113 37 = some (.iload_n 2, 1, [], 0) := rfl
theorem f113_38 : zF 113 38 = some (.ireturn, 1, [0], 0) := rfl
theorem f114_0 : zF 114 0 = some (.iload_n 1, 1, [], 0) := rfl
theorem f114_1 : zF 114 1 = some (.invokestatic 112, 3, [1, 142, 0, 1, 1, 0, 0], 0) := rfl
theorem f114_4 : zF 114 4 = some (.ifCond .eq 5, 3, [], 0) := rfl
theorem f114_7 : zF 114 7 = some (.iconst (-1), 1, [], 0) := rfl
theorem f114_8 : zF 114 8 = some (.ireturn, 1, [0], 0) := rfl
theorem f114_9 : zF 114 9 = some (.aload_n 0, 1, [], 0) := rfl
theorem f114_10 : zF 114 10 = some (.getfield 42, 3, [9, 3, 2], 0) := rfl
theorem f114_13 : zF 114 13 = some (.invokevirtual 101, 3, [0, 60, 6, 1, 1, 0, 0], 0) := rfl
theorem f114_16 : zF 114 16 = some (.ifCond .eq 6, 3, [], 0) := rfl
theorem f114_19 : zF 114 19 = some (.bipush (-2), 2, [], 0) := rfl
theorem f114_21 : zF 114 21 = some (.ireturn, 1, [0], 0) := rfl
theorem f114_22 : zF 114 22 = some (.aload_n 0, 1, [], 0) := rfl
theorem f114_23 : zF 114 23 = some (.getfield 42, 3, [9, 3, 2], 0) := rfl
theorem f114_26 : zF 114 26 = some (.invokevirtual 115, 3, [0, 55, 6, 1, 1, 0, 0], 0) := rfl
theorem f114_29 : zF 114 29 = some (.iload_n 1, 1, [], 0) := rfl
theorem f114_30 : zF 114 30 = some (.invokestatic 118, 3, [1, 146, 0, 1, 1, 0, 0], 0) := rfl
theorem f114_33 : zF 114 33 = some (.ixor, 1, [], 0) := rfl
theorem f114_34 : zF 114 34 = some (.istore_n 2, 1, [], 0) := rfl
theorem f114_35 : zF 114 35 = some (.iconst 0, 1, [], 0) := rfl
theorem f114_36 : zF 114 36 = some (.istore_n 3, 1, [], 0) := rfl
theorem f114_37 : zF 114 37 = some (.iload_n 3, 1, [], 0) := rfl
theorem f114_38 : zF 114 38 = some (.iconst 4, 1, [], 0) := rfl
theorem f114_39 : zF 114 39 = some (.if_icmp .ge 48, 3, [], 0) := rfl
theorem f114_42 : zF 114 42 = some (.aload_n 0, 1, [], 0) := rfl
theorem f114_43 : zF 114 43 = some (.getfield 19, 3, [9, 1, 2], 0) := rfl
theorem f114_46 : zF 114 46 = some (.aload_n 0, 1, [], 0) := rfl
theorem f114_47 : zF 114 47 = some (.getfield 42, 3, [9, 3, 2], 0) := rfl
theorem f114_50 : zF 114 50 = some (.iload_n 3, 1, [], 0) := rfl
theorem f114_51 : zF 114 51 = some (.invokevirtual 121, 3, [0, 53, 6, 2, 2, 0, 0], 0) := rfl
theorem f114_54 : zF 114 54 = some (.iload_n 2, 1, [], 0) := rfl
theorem f114_55 : zF 114 55 = some (.invokevirtual 125, 3, [0, 24, 3, 3, 3, 0, 0], 0) := rfl
theorem f114_58 : zF 114 58 = some (.ifCond .ne 6, 3, [], 0) := rfl
theorem f114_61 : zF 114 61 = some (.bipush (-3), 2, [], 0) := rfl
theorem f114_63 : zF 114 63 = some (.ireturn, 1, [0], 0) := rfl
theorem f114_64 : zF 114 64 = some (.aload_n 0, 1, [], 0) := rfl
theorem f114_65 : zF 114 65 = some (.getfield 33, 3, [9, 2, 2], 0) := rfl
theorem f114_68 : zF 114 68 = some (.iload_n 3, 1, [], 0) := rfl
theorem f114_69 : zF 114 69 = some (.new 28, 3, [8, 10], 0) := rfl
theorem f114_72 : zF 114 72 = some (.dup, 1, [], 0) := rfl
theorem f114_73 : zF 114 73 = some (.aload_n 0, 1, [], 0) := rfl
theorem f114_74 : zF 114 74 = some (.getfield 19, 3, [9, 1, 2], 0) := rfl
theorem f114_77 : zF 114 77 = some (.invokespecial 30, 3, [2, 98, 0, 2, 2, 4, 124], 0) := rfl
theorem f114_80 : zF 114 80 = some (.aastore, 1, [], 0) := rfl
theorem f114_81 : zF 114 81 = some (.iinc 3 1, 3, [], 0) := rfl
theorem f114_84 : zF 114 84 = some (.goto (-47), 3, [], 0) := rfl
theorem f114_87 : zF 114 87 = some (.aload_n 0, 1, [], 0) := rfl
theorem f114_88 : zF 114 88 = some (.getfield 52, 3, [9, 5, 2], 0) := rfl
theorem f114_91 : zF 114 91 = some (.aload_n 0, 1, [], 0) := rfl
theorem f114_92 : zF 114 92 = some (.getfield 42, 3, [9, 3, 2], 0) := rfl
theorem f114_95 : zF 114 95 = some (.invokevirtual 129, 3, [0, 2, 0, 2, 2, 0, 0], 0) := rfl
theorem f114_98 : zF 114 98 = some (.aload_n 0, 1, [], 0) := rfl
theorem f114_99 : zF 114 99 = some (.getfield 42, 3, [9, 3, 2], 0) := rfl
theorem f114_102 : zF 114 102 = some (.iload_n 2, 1, [], 0) := rfl
theorem f114_103 : zF 114 103 = some (.aload_n 0, 1, [], 0) := rfl
theorem f114_104 : zF 114 104 = some (.getfield 33, 3, [9, 2, 2], 0) := rfl
theorem f114_107 : zF 114 107 = some (.invokevirtual 133, 3, [0, 73, 6, 3, 4, 0, 0], 0) := rfl
theorem f114_110 : zF 114 110 = some (.iload_n 2, 1, [], 0) := rfl
theorem f114_111 : zF 114 111 = some (.iload_n 1, 1, [], 0) := rfl
theorem f114_112 : zF 114 112 = some (.invokestatic 137, 3, [1, 147, 0, 2, 2, 0, 0], 0) := rfl
theorem f114_115 : zF 114 115 = some (.ifCond .eq 7, 3, [], 0) := rfl
theorem f114_118 : zF 114 118 = some (.iconst 1, 1, [], 0) := rfl
theorem f114_119 : zF 114 119 = some (.goto 4, 3, [], 0) := rfl
theorem f114_122 : zF 114 122 = some (.iconst 0, 1, [], 0) := rfl
theorem f114_123 : zF 114 123 = some (.ireturn, 1, [0], 0) := rfl
theorem f115_0 : zF 115 0 = some (.iload_n 1, 1, [], 0) := rfl
theorem f115_1 : zF 115 1 = some (.invokestatic 97, 3, [1, 141, 0, 1, 1, 0, 0], 0) := rfl
theorem f115_4 : zF 115 4 = some (.ifCond .eq 5, 3, [], 0) := rfl
theorem f115_7 : zF 115 7 = some (.iconst (-1), 1, [], 0) := rfl
theorem f115_8 : zF 115 8 = some (.ireturn, 1, [0], 0) := rfl
theorem f115_9 : zF 115 9 = some (.aload_n 0, 1, [], 0) := rfl
theorem f115_10 : zF 115 10 = some (.getfield 42, 3, [9, 3, 2], 0) := rfl
theorem f115_13 : zF 115 13 = some (.invokevirtual 101, 3, [0, 60, 6, 1, 1, 0, 0], 0) := rfl
theorem f115_16 : zF 115 16 = some (.ifCond .eq 6, 3, [], 0) := rfl
theorem f115_19 : zF 115 19 = some (.bipush (-2), 2, [], 0) := rfl
theorem f115_21 : zF 115 21 = some (.ireturn, 1, [0], 0) := rfl
theorem f115_22 : zF 115 22 = some (.aload_n 0, 1, [], 0) := rfl
theorem f115_23 : zF 115 23 = some (.getfield 52, 3, [9, 5, 2], 0) := rfl
theorem f115_26 : zF 115 26 = some (.aload_n 0, 1, [], 0) := rfl
theorem f115_27 : zF 115 27 = some (.getfield 42, 3, [9, 3, 2], 0) := rfl
theorem f115_30 : zF 115 30 = some (.invokevirtual 129, 3, [0, 2, 0, 2, 2, 0, 0], 0) := rfl
theorem f115_33 : zF 115 33 = some (.aload_n 0, 1, [], 0) := rfl
theorem f115_34 : zF 115 34 = some (.getfield 42, 3, [9, 3, 2], 0) := rfl
theorem f115_37 : zF 115 37 = some (.iload_n 1, 1, [], 0) := rfl
theorem f115_38 : zF 115 38 = some (.invokevirtual 141, 3, [0, 76, 6, 2, 2, 0, 0], 0) := rfl
theorem f115_41 : zF 115 41 = some (.aload_n 0, 1, [], 0) := rfl
theorem f115_42 : zF 115 42 = some (.getfield 42, 3, [9, 3, 2], 0) := rfl
theorem f115_45 : zF 115 45 = some (.iload_n 1, 1, [], 0) := rfl
theorem f115_46 : zF 115 46 = some (.invokevirtual 145, 3, [0, 54, 6, 2, 2, 0, 0], 0) := rfl
theorem f115_49 : zF 115 49 = some (.invokevirtual 149, 3, [0, 99, 8, 1, 1, 0, 0], 0) := rfl
theorem f115_52 : zF 115 52 = some (.ireturn, 1, [0], 0) := rfl
theorem f116_0 : zF 116 0 = some (.iload_n 1, 1, [], 0) := rfl
theorem f116_1 : zF 116 1 = some (.invokestatic 97, 3, [1, 141, 0, 1, 1, 0, 0], 0) := rfl
theorem f116_4 : zF 116 4 = some (.ifCond .eq 7, 3, [], 0) := rfl
theorem f116_7 : zF 116 7 = some (.iconst (-1), 1, [], 0) := rfl
theorem f116_8 : zF 116 8 = some (.goto 15, 3, [], 0) := rfl
theorem f116_11 : zF 116 11 = some (.aload_n 0, 1, [], 0) := rfl
theorem f116_12 : zF 116 12 = some (.getfield 42, 3, [9, 3, 2], 0) := rfl
theorem f116_15 : zF 116 15 = some (.iload_n 1, 1, [], 0) := rfl
theorem f116_16 : zF 116 16 = some (.invokevirtual 145, 3, [0, 54, 6, 2, 2, 0, 0], 0) := rfl
theorem f116_19 : zF 116 19 = some (.iload_n 2, 1, [], 0) := rfl
theorem f116_20 : zF 116 20 = some (.invokevirtual 150, 3, [0, 109, 8, 2, 2, 0, 0], 0) := rfl
theorem f116_23 : zF 116 23 = some (.ireturn, 1, [0], 0) := rfl
theorem f117_0 : zF 117 0 = some (.iload_n 1, 1, [], 0) := rfl
theorem f117_1 : zF 117 1 = some (.invokestatic 97, 3, [1, 141, 0, 1, 1, 0, 0], 0) := rfl
theorem f117_4 : zF 117 4 = some (.ifCond .eq 7, 3, [], 0) := rfl
theorem f117_7 : zF 117 7 = some (.iconst (-1), 1, [], 0) := rfl
theorem f117_8 : zF 117 8 = some (.goto 16, 3, [], 0) := rfl
theorem f117_11 : zF 117 11 = some (.aload_n 0, 1, [], 0) := rfl
theorem f117_12 : zF 117 12 = some (.getfield 42, 3, [9, 3, 2], 0) := rfl
theorem f117_15 : zF 117 15 = some (.iload_n 1, 1, [], 0) := rfl
theorem f117_16 : zF 117 16 = some (.invokevirtual 145, 3, [0, 54, 6, 2, 2, 0, 0], 0) := rfl
theorem f117_19 : zF 117 19 = some (.iload_n 2, 1, [], 0) := rfl
theorem f117_20 : zF 117 20 = some (.iload_n 3, 1, [], 0) := rfl
theorem f117_21 : zF 117 21 = some (.invokevirtual 153, 3, [0, 110, 8, 3, 3, 0, 0], 0) := rfl
theorem f117_24 : zF 117 24 = some (.ireturn, 1, [0], 0) := rfl
theorem f118_0 : zF 118 0 = some (.iload_n 1, 1, [], 0) := rfl
theorem f118_1 : zF 118 1 = some (.ifCond .lt 8, 3, [], 0) := rfl
theorem f118_4 : zF 118 4 = some (.iload_n 1, 1, [], 0) := rfl
theorem f118_5 : zF 118 5 = some (.iconst 5, 1, [], 0) := rfl
theorem f118_6 : zF 118 6 = some (.if_icmp .lt 5, 3, [], 0) := rfl
theorem f118_9 : zF 118 9 = some (.iconst (-1), 1, [], 0) := rfl
theorem f118_10 : zF 118 10 = some (.ireturn, 1, [0], 0) := rfl
theorem f118_11 : zF 118 11 = some (.aload_n 0, 1, [], 0) := rfl
theorem f118_12 : zF 118 12 = some (.getfield 42, 3, [9, 3, 2], 0) := rfl
theorem f118_15 : zF 118 15 = some (.invokevirtual 157, 3, [0, 56, 6, 1, 1, 0, 0], 0) := rfl
theorem f118_18 : zF 118 18 = some (.istore_n 2, 1, [], 0) := rfl
theorem f118_19 : zF 118 19 = some (.iload_n 1, 1, [], 0) := rfl
theorem f118_20 : zF 118 20 = some (.iload_n 2, 1, [], 0) := rfl
theorem f118_21 : zF 118 21 = some (.if_icmp .ne 6, 3, [], 0) := rfl
theorem f118_24 : zF 118 24 = some (.bipush (-2), 2, [], 0) := rfl
theorem f118_26 : zF 118 26 = some (.ireturn, 1, [0], 0) := rfl
theorem f118_27 : zF 118 27 = some (.aload_n 0, 1, [], 0) := rfl
theorem f118_28 : zF 118 28 = some (.getfield 52, 3, [9, 5, 2], 0) := rfl
theorem f118_31 : zF 118 31 = some (.aload_n 0, 1, [], 0) := rfl
theorem f118_32 : zF 118 32 = some (.getfield 42, 3, [9, 3, 2], 0) := rfl
theorem f118_35 : zF 118 35 = some (.invokevirtual 129, 3, [0, 2, 0, 2, 2, 0, 0], 0) := rfl
theorem f118_38 : zF 118 38 = some (.aload_n 0, 1, [], 0) := rfl
theorem f118_39 : zF 118 39 = some (.getfield 42, 3, [9, 3, 2], 0) := rfl
theorem f118_42 : zF 118 42 = some (.iload_n 1, 1, [], 0) := rfl
theorem f118_43 : zF 118 43 = some (.invokevirtual 160, 3, [0, 74, 6, 2, 2, 0, 0], 0) := rfl
theorem f118_46 : zF 118 46 = some (.iload_n 2, 1, [], 0) := rfl
theorem f118_47 : zF 118 47 = some (.ireturn, 1, [0], 0) := rfl
theorem f119_0 : zF 119 0 = some (.iload_n 1, 1, [], 0) := rfl
theorem f119_1 : zF 119 1 = some (.invokestatic 97, 3, [1, 141, 0, 1, 1, 0, 0], 0) := rfl
theorem f119_4 : zF 119 4 = some (.ifCond .eq 5, 3, [], 0) := rfl
theorem f119_7 : zF 119 7 = some (.iconst (-1), 1, [], 0) := rfl
theorem f119_8 : zF 119 8 = some (.ireturn, 1, [0], 0) := rfl
theorem f119_9 : zF 119 9 = some (.aload_n 0, 1, [], 0) := rfl
theorem f119_10 : zF 119 10 = some (.getfield 42, 3, [9, 3, 2], 0) := rfl
theorem f119_13 : zF 119 13 = some (.iload_n 1, 1, [], 0) := rfl
theorem f119_14 : zF 119 14 = some (.invokevirtual 163, 3, [0, 58, 6, 2, 2, 0, 0], 0) := rfl
theorem f119_17 : zF 119 17 = some (.ifCond .eq 6, 3, [], 0) := rfl
theorem f119_20 : zF 119 20 = some (.bipush (-2), 2, [], 0) := rfl
theorem f119_22 : zF 119 22 = some (.ireturn, 1, [0], 0) := rfl
theorem f119_23 : zF 119 23 = some (.aload_n 0, 1, [], 0) := rfl
theorem f119_24 : zF 119 24 = some (.getfield 52, 3, [9, 5, 2], 0) := rfl
theorem f119_27 : zF 119 27 = some (.aload_n 0, 1, [], 0) := rfl
theorem f119_28 : zF 119 28 = some (.getfield 42, 3, [9, 3, 2], 0) := rfl
theorem f119_31 : zF 119 31 = some (.invokevirtual 129, 3, [0, 2, 0, 2, 2, 0, 0], 0) := rfl
theorem f119_34 : zF 119 34 = some (.aload_n 0, 1, [], 0) := rfl
theorem f119_35 : zF 119 35 = some (.getfield 42, 3, [9, 3, 2], 0) := rfl
theorem f119_38 : zF 119 38 = some (.iload_n 1, 1, [], 0) := rfl
theorem f119_39 : zF 119 39 = some (.invokevirtual 166, 3, [0, 80, 6, 2, 3, 0, 0], 0) := rfl
theorem f119_42 : zF 119 42 = some (.ireturn, 1, [0], 0) := rfl
theorem f120_0 : zF 120 0 = some (.iload_n 1, 1, [], 0) := rfl
theorem f120_1 : zF 120 1 = some (.iconst 1, 1, [], 0) := rfl
theorem f120_2 : zF 120 2 = some (.if_icmp .lt 9, 3, [], 0) := rfl
theorem f120_5 : zF 120 5 = some (.iload_n 1, 1, [], 0) := rfl
theorem f120_6 : zF 120 6 = some (.bipush 40, 2, [], 0) := rfl
theorem f120_8 : zF 120 8 = some (.if_icmp .le 5, 3, [], 0) := rfl
theorem f120_11 : zF 120 11 = some (.iconst (-1), 1, [], 0) := rfl
theorem f120_12 : zF 120 12 = some (.ireturn, 1, [0], 0) := rfl
theorem f120_13 : zF 120 13 = some (.aload_n 0, 1, [], 0) := rfl
theorem f120_14 : zF 120 14 = some (.getfield 42, 3, [9, 3, 2], 0) := rfl
theorem f120_17 : zF 120 17 = some (.invokevirtual 169, 3, [0, 63, 6, 1, 1, 0, 0], 0) := rfl
theorem f120_20 : zF 120 20 = some (.ifCond .ne 5, 3, [], 0) := rfl
theorem f120_23 : zF 120 23 = some (.iconst 0, 1, [], 0) := rfl
theorem f120_24 : zF 120 24 = some (.ireturn, 1, [0], 0) := rfl
theorem f120_25 : zF 120 25 = some (.aload_n 0, 1, [], 0) := rfl
theorem f120_26 : zF 120 26 = some (.getfield 52, 3, [9, 5, 2], 0) := rfl
theorem f120_29 : zF 120 29 = some (.aload_n 0, 1, [], 0) := rfl
theorem f120_30 : zF 120 30 = some (.getfield 42, 3, [9, 3, 2], 0) := rfl
theorem f120_33 : zF 120 33 = some (.invokevirtual 129, 3, [0, 2, 0, 2, 2, 0, 0], 0) := rfl
theorem f120_36 : zF 120 36 = some (.iconst 0, 1, [], 0) := rfl
theorem f120_37 : zF 120 37 = some (.istore_n 2, 1, [], 0) := rfl
theorem f120_38 : zF 120 38 = some (.iload_n 2, 1, [], 0) := rfl
theorem f120_39 : zF 120 39 = some (.iload_n 1, 1, [], 0) := rfl
theorem f120_40 : zF 120 40 = some (.if_icmp .ge 26, 3, [], 0) := rfl
theorem f120_43 : zF 120 43 = some (.aload_n 0, 1, [], 0) := rfl
theorem f120_44 : zF 120 44 = some (.getfield 42, 3, [9, 3, 2], 0) := rfl
theorem f120_47 : zF 120 47 = some (.invokevirtual 169, 3, [0, 63, 6, 1, 1, 0, 0], 0) := rfl
theorem f120_50 : zF 120 50 = some (.ifCond .eq 16, 3, [], 0) := rfl
theorem f120_53 : zF 120 53 = some (.aload_n 0, 1, [], 0) := rfl
theorem f120_54 : zF 120 54 = some (.getfield 42, 3, [9, 3, 2], 0) := rfl
theorem f120_57 : zF 120 57 = some (.invokevirtual 172, 3, [0, 78, 6, 1, 6, 0, 0], 0) := rfl
theorem f120_60 : zF 120 60 = some (.iinc 2 1, 3, [], 0) := rfl
theorem f120_63 : zF 120 63 = some (.goto (-25), 3, [], 0) := rfl
theorem f120_66 : zF 120 66 = some (.iload_n 2, 1, [], 0) := rfl
theorem f120_67 : zF 120 67 = some (.ireturn, 1, [0], 0) := rfl
theorem f121_0 : zF 121 0 = some (.aload_n 0, 1, [], 0) := rfl
theorem f121_1 : zF 121 1 = some (.getfield 42, 3, [9, 3, 2], 0) := rfl
theorem f121_4 : zF 121 4 = some (.invokevirtual 175, 3, [0, 61, 6, 1, 1, 0, 0], 0) := rfl
theorem f121_7 : zF 121 7 = some (.ifCond .eq 6, 3, [], 0) := rfl
theorem f121_10 : zF 121 10 = some (.bipush (-2), 2, [], 0) := rfl
theorem f121_12 : zF 121 12 = some (.ireturn, 1, [0], 0) := rfl
theorem f121_13 : zF 121 13 = some (.aload_n 0, 1, [], 0) := rfl
theorem f121_14 : zF 121 14 = some (.getfield 52, 3, [9, 5, 2], 0) := rfl
theorem f121_17 : zF 121 17 = some (.aload_n 0, 1, [], 0) := rfl
theorem f121_18 : zF 121 18 = some (.getfield 42, 3, [9, 3, 2], 0) := rfl
theorem f121_21 : zF 121 21 = some (.invokevirtual 129, 3, [0, 2, 0, 2, 2, 0, 0], 0) := rfl
theorem f121_24 : zF 121 24 = some (.aload_n 0, 1, [], 0) := rfl
theorem f121_25 : zF 121 25 = some (.getfield 42, 3, [9, 3, 2], 0) := rfl
theorem f121_28 : zF 121 28 = some (.invokevirtual 178, 3, [0, 77, 6, 1, 3, 0, 0], 0) := rfl
theorem f121_31 : zF 121 31 = some (.ireturn, 1, [0], 0) := rfl
theorem f122_0 : zF 122 0 = some (.iload_n 1, 1, [], 0) := rfl
theorem f122_1 : zF 122 1 = some (.invokestatic 112, 3, [1, 142, 0, 1, 1, 0, 0], 0) := rfl
theorem f122_4 : zF 122 4 = some (.ifCond .eq 7, 3, [], 0) := rfl
theorem f122_7 : zF 122 7 = some (.iconst (-1), 1, [], 0) := rfl
theorem f122_8 : zF 122 8 = some (.goto 12, 3, [], 0) := rfl
theorem f122_11 : zF 122 11 = some (.aload_n 0, 1, [], 0) := rfl
theorem f122_12 : zF 122 12 = some (.getfield 42, 3, [9, 3, 2], 0) := rfl
theorem f122_15 : zF 122 15 = some (.iload_n 1, 1, [], 0) := rfl
theorem f122_16 : zF 122 16 = some (.iload_n 2, 1, [], 0) := rfl
theorem f122_17 : zF 122 17 = some (.invokevirtual 181, 3, [0, 64, 6, 3, 3, 0, 0], 0) := rfl
theorem f122_20 : zF 122 20 = some (.ireturn, 1, [0], 0) := rfl
theorem f123_0 : zF 123 0 = some (.iload_n 1, 1, [], 0) := rfl
theorem f123_1 : zF 123 1 = some (.invokestatic 97, 3, [1, 141, 0, 1, 1, 0, 0], 0) := rfl
theorem f123_4 : zF 123 4 = some (.ifCond .eq 7, 3, [], 0) := rfl
theorem f123_7 : zF 123 7 = some (.iconst (-1), 1, [], 0) := rfl
theorem f123_8 : zF 123 8 = some (.goto 12, 3, [], 0) := rfl
theorem f123_11 : zF 123 11 = some (.aload_n 0, 1, [], 0) := rfl
theorem f123_12 : zF 123 12 = some (.getfield 42, 3, [9, 3, 2], 0) := rfl
theorem f123_15 : zF 123 15 = some (.iload_n 1, 1, [], 0) := rfl
theorem f123_16 : zF 123 16 = some (.iload_n 2, 1, [], 0) := rfl
theorem f123_17 : zF 123 17 = some (.invokevirtual 184, 3, [0, 65, 6, 3, 3, 0, 0], 0) := rfl
theorem f123_20 : zF 123 20 = some (.ireturn, 1, [0], 0) := rfl
theorem f124_0 : zF 124 0 = some (.iload_n 1, 1, [], 0) := rfl
theorem f124_1 : zF 124 1 = some (.bipush 8, 2, [], 0) := rfl
theorem f124_3 : zF 124 3 = some (.if_icmp .ne 13, 3, [], 0) := rfl
theorem f124_6 : zF 124 6 = some (.aload_n 0, 1, [], 0) := rfl
theorem f124_7 : zF 124 7 = some (.getfield 52, 3, [9, 5, 2], 0) := rfl
theorem f124_10 : zF 124 10 = some (.invokevirtual 187, 3, [0, 1, 0, 1, 1, 0, 0], 0) := rfl
theorem f124_13 : zF 124 13 = some (.goto 11, 3, [], 0) := rfl
theorem f124_16 : zF 124 16 = some (.aload_n 0, 1, [], 0) := rfl
theorem f124_17 : zF 124 17 = some (.getfield 42, 3, [9, 3, 2], 0) := rfl
theorem f124_20 : zF 124 20 = some (.iload_n 1, 1, [], 0) := rfl
theorem f124_21 : zF 124 21 = some (.invokevirtual 188, 3, [0, 66, 6, 2, 2, 0, 0], 0) := rfl
theorem f124_24 : zF 124 24 = some (.ireturn, 1, [0], 0) := rfl
theorem f125_0 : zF 125 0 = some (.iload_n 1, 1, [], 0) := rfl
theorem f125_1 : zF 125 1 = some (.invokestatic 112, 3, [1, 142, 0, 1, 1, 0, 0], 0) := rfl
theorem f125_4 : zF 125 4 = some (.ifCond .ne 15, 3, [], 0) := rfl
theorem f125_7 : zF 125 7 = some (.iload_n 2, 1, [], 0) := rfl
theorem f125_8 : zF 125 8 = some (.invokestatic 112, 3, [1, 142, 0, 1, 1, 0, 0], 0) := rfl
theorem f125_11 : zF 125 11 = some (.ifCond .ne 8, 3, [], 0) := rfl
theorem f125_14 : zF 125 14 = some (.iload_n 1, 1, [], 0) := rfl
theorem f125_15 : zF 125 15 = some (.iload_n 2, 1, [], 0) := rfl
theorem f125_16 : zF 125 16 = some (.if_icmp .ne 5, 3, [], 0) := rfl
theorem f125_19 : zF 125 19 = some (.iconst (-1), 1, [], 0) := rfl
theorem f125_20 : zF 125 20 = some (.ireturn, 1, [0], 0) := rfl
theorem f125_21 : zF 125 21 = some (.aload_n 0, 1, [], 0) := rfl
theorem f125_22 : zF 125 22 = some (.getfield 69, 3, [9, 9, 2], 0) := rfl
theorem f125_25 : zF 125 25 = some (.aload_n 0, 1, [], 0) := rfl
theorem f125_26 : zF 125 26 = some (.getfield 42, 3, [9, 3, 2], 0) := rfl
theorem f125_29 : zF 125 29 = some (.invokevirtual 191, 3, [0, 7, 1, 2, 3, 0, 0], 0) := rfl
theorem f125_32 : zF 125 32 = some (.aload_n 0, 1, [], 0) := rfl
theorem f125_33 : zF 125 33 = some (.getfield 69, 3, [9, 9, 2], 0) := rfl
theorem f125_36 : zF 125 36 = some (.iload_n 1, 1, [], 0) := rfl
theorem f125_37 : zF 125 37 = some (.iload_n 2, 1, [], 0) := rfl
theorem f125_38 : zF 125 38 = some (.invokevirtual 194, 3, [0, 8, 1, 3, 3, 0, 0], 0) := rfl
theorem f125_41 : zF 125 41 = some (.ifCond .eq 7, 3, [], 0) := rfl
theorem f125_44 : zF 125 44 = some (.iconst 1, 1, [], 0) := rfl
theorem f125_45 : zF 125 45 = some (.goto 4, 3, [], 0) := rfl
theorem f125_48 : zF 125 48 = some (.iconst 0, 1, [], 0) := rfl
theorem f125_49 : zF 125 49 = some (.ireturn, 1, [0], 0) := rfl
theorem f126_0 : zF 126 0 = some (.iload_n 1, 1, [], 0) := rfl
theorem f126_1 : zF 126 1 = some (.ifCond .lt 8, 3, [], 0) := rfl
theorem f126_4 : zF 126 4 = some (.iload_n 1, 1, [], 0) := rfl
theorem f126_5 : zF 126 5 = some (.iconst 2, 1, [], 0) := rfl
theorem f126_6 : zF 126 6 = some (.if_icmp .le 5, 3, [], 0) := rfl
theorem f126_9 : zF 126 9 = some (.iconst (-1), 1, [], 0) := rfl
theorem f126_10 : zF 126 10 = some (.ireturn, 1, [0], 0) := rfl
theorem f126_11 : zF 126 11 = some (.aload_n 0, 1, [], 0) := rfl
theorem f126_12 : zF 126 12 = some (.getfield 69, 3, [9, 9, 2], 0) := rfl
theorem f126_15 : zF 126 15 = some (.aload_n 0, 1, [], 0) := rfl
theorem f126_16 : zF 126 16 = some (.getfield 42, 3, [9, 3, 2], 0) := rfl
theorem f126_19 : zF 126 19 = some (.invokevirtual 191, 3, [0, 7, 1, 2, 3, 0, 0], 0) := rfl
theorem f126_22 : zF 126 22 = some (.aload_n 0, 1, [], 0) := rfl
theorem f126_23 : zF 126 23 = some (.getfield 69, 3, [9, 9, 2], 0) := rfl
theorem f126_26 : zF 126 26 = some (.iload_n 1, 1, [], 0) := rfl
theorem f126_27 : zF 126 27 = some (.invokevirtual 197, 3, [0, 9, 1, 2, 6, 0, 0], 0) := rfl
theorem f126_30 : zF 126 30 = some (.ireturn, 1, [0], 0) := rfl
theorem f127_0 : zF 127 0 = some (.iload_n 1, 1, [], 0) := rfl
theorem f127_1 : zF 127 1 = some (.iload_n 2, 1, [], 0) := rfl
theorem f127_2 : zF 127 2 = some (.invokestatic 200, 3, [1, 143, 0, 2, 2, 0, 0], 0) := rfl
theorem f127_5 : zF 127 5 = some (.ifCond .ne 12, 3, [], 0) := rfl
theorem f127_8 : zF 127 8 = some (.iload_n 3, 1, [], 0) := rfl
theorem f127_9 : zF 127 9 = some (.ifCond .lt 8, 3, [], 0) := rfl
theorem f127_12 : zF 127 12 = some (.iload_n 3, 1, [], 0) := rfl
theorem f127_13 : zF 127 13 = some (.iconst 1, 1, [], 0) := rfl
theorem f127_14 : zF 127 14 = some (.if_icmp .le 7, 3, [], 0) := rfl
theorem f127_17 : zF 127 17 = some (.ldc2_w 203, 3, [], (-1)) := rfl
theorem f127_20 : zF 127 20 = some (.lreturn, 1, [], 0) := rfl
theorem f127_21 : zF 127 21 = some (.aload_n 0, 1, [], 0) := rfl
theorem f127_22 : zF 127 22 = some (.getfield 78, 3, [9, 10, 2], 0) := rfl
theorem f127_25 : zF 127 25 = some (.aload_n 0, 1, [], 0) := rfl
theorem f127_26 : zF 127 26 = some (.getfield 42, 3, [9, 3, 2], 0) := rfl
theorem f127_29 : zF 127 29 = some (.iload_n 1, 1, [], 0) := rfl
theorem f127_30 : zF 127 30 = some (.invokevirtual 145, 3, [0, 54, 6, 2, 2, 0, 0], 0) := rfl
theorem f127_33 : zF 127 33 = some (.aload_n 0, 1, [], 0) := rfl
theorem f127_34 : zF 127 34 = some (.getfield 42, 3, [9, 3, 2], 0) := rfl
theorem f127_37 : zF 127 37 = some (.iload_n 2, 1, [], 0) := rfl
theorem f127_38 : zF 127 38 = some (.invokevirtual 145, 3, [0, 54, 6, 2, 2, 0, 0], 0) := rfl
theorem f127_41 : zF 127 41 = some (.invokevirtual 205, 3, [0, 19, 2, 3, 5, 0, 0], 0) := rfl
theorem f127_44 : zF 127 44 = some (.iload_n 3, 1, [], 0) := rfl
theorem f127_45 : zF 127 45 = some (.ifCond .ne 13, 3, [], 0) := rfl
theorem f127_48 : zF 127 48 = some (.aload_n 0, 1, [], 0) := rfl
theorem f127_49 : zF 127 49 = some (.getfield 78, 3, [9, 10, 2], 0) := rfl
theorem f127_52 : zF 127 52 = some (.invokevirtual 209, 3, [0, 14, 2, 1, 1, 0, 0], 0) := rfl
theorem f127_55 : zF 127 55 = some (.goto 10, 3, [], 0) := rfl
theorem f127_58 : zF 127 58 = some (.aload_n 0, 1, [], 0) := rfl
theorem f127_59 : zF 127 59 = some (.getfield 78, 3, [9, 10, 2], 0) := rfl
theorem f127_62 : zF 127 62 = some (.invokevirtual 213, 3, [0, 15, 2, 1, 1, 0, 0], 0) := rfl
theorem f127_65 : zF 127 65 = some (.lreturn, 1, [], 0) := rfl
theorem f128_0 : zF 128 0 = some (.iload_n 1, 1, [], 0) := rfl
theorem f128_1 : zF 128 1 = some (.iload_n 2, 1, [], 0) := rfl
theorem f128_2 : zF 128 2 = some (.invokestatic 200, 3, [1, 143, 0, 2, 2, 0, 0], 0) := rfl
theorem f128_5 : zF 128 5 = some (.ifCond .ne 12, 3, [], 0) := rfl
theorem f128_8 : zF 128 8 = some (.iload_n 3, 1, [], 0) := rfl
theorem f128_9 : zF 128 9 = some (.ifCond .lt 8, 3, [], 0) := rfl
theorem f128_12 : zF 128 12 = some (.iload_n 3, 1, [], 0) := rfl
theorem f128_13 : zF 128 13 = some (.iconst 1, 1, [], 0) := rfl
theorem f128_14 : zF 128 14 = some (.if_icmp .le 7, 3, [], 0) := rfl
theorem f128_17 : zF 128 17 = some (.ldc2_w 203, 3, [], (-1)) := rfl
theorem f128_20 : zF 128 20 = some (.lreturn, 1, [], 0) := rfl
theorem f128_21 : zF 128 21 = some (.aload_n 0, 1, [], 0) := rfl
theorem f128_22 : zF 128 22 = some (.getfield 78, 3, [9, 10, 2], 0) := rfl
theorem f128_25 : zF 128 25 = some (.aload_n 0, 1, [], 0) := rfl
theorem f128_26 : zF 128 26 = some (.getfield 42, 3, [9, 3, 2], 0) := rfl
theorem f128_29 : zF 128 29 = some (.iload_n 1, 1, [], 0) := rfl
theorem f128_30 : zF 128 30 = some (.invokevirtual 145, 3, [0, 54, 6, 2, 2, 0, 0], 0) := rfl
theorem f128_33 : zF 128 33 = some (.aload_n 0, 1, [], 0) := rfl
theorem f128_34 : zF 128 34 = some (.getfield 42, 3, [9, 3, 2], 0) := rfl
theorem f128_37 : zF 128 37 = some (.iload_n 2, 1, [], 0) := rfl
theorem f128_38 : zF 128 38 = some (.invokevirtual 145, 3, [0, 54, 6, 2, 2, 0, 0], 0) := rfl
theorem f128_41 : zF 128 41 = some (.invokevirtual 205, 3, [0, 19, 2, 3, 5, 0, 0], 0) := rfl
theorem f128_44 : zF 128 44 = some (.iload_n 3, 1, [], 0) := rfl
theorem f128_45 : zF 128 45 = some (.ifCond .ne 13, 3, [], 0) := rfl
theorem f128_48 : zF 128 48 = some (.aload_n 0, 1, [], 0) := rfl
theorem f128_49 : zF 128 49 = some (.getfield 78, 3, [9, 10, 2], 0) := rfl
theorem f128_52 : zF 128 52 = some (.invokevirtual 216, 3, [0, 17, 2, 1, 1, 0, 0], 0) := rfl
theorem f128_55 : zF 128 55 = some (.goto 10, 3, [], 0) := rfl
theorem f128_58 : zF 128 58 = some (.aload_n 0, 1, [], 0) := rfl
theorem f128_59 : zF 128 59 = some (.getfield 78, 3, [9, 10, 2], 0) := rfl
theorem f128_62 : zF 128 62 = some (.invokevirtual 219, 3, [0, 18, 2, 1, 1, 0, 0], 0) := rfl
theorem f128_65 : zF 128 65 = some (.lreturn, 1, [], 0) := rfl
theorem f129_0 : zF 129 0 = some (.iload_n 1, 1, [], 0) := rfl
theorem f129_1 : zF 129 1 = some (.iload_n 2, 1, [], 0) := rfl
theorem f129_2 : zF 129 2 = some (.invokestatic 200, 3, [1, 143, 0, 2, 2, 0, 0], 0) := rfl
theorem f129_5 : zF 129 5 = some (.ifCond .eq 5, 3, [], 0) := rfl
theorem f129_8 : zF 129 8 = some (.iconst (-1), 1, [], 0) := rfl
theorem f129_9 : zF 129 9 = some (.ireturn, 1, [0], 0) := rfl
theorem f129_10 : zF 129 10 = some (.aload_n 0, 1, [], 0) := rfl
theorem f129_11 : zF 129 11 = some (.getfield 78, 3, [9, 10, 2], 0) := rfl
theorem f129_14 : zF 129 14 = some (.aload_n 0, 1, [], 0) := rfl
theorem f129_15 : zF 129 15 = some (.getfield 42, 3, [9, 3, 2], 0) := rfl
theorem f129_18 : zF 129 18 = some (.iload_n 1, 1, [], 0) := rfl
theorem f129_19 : zF 129 19 = some (.invokevirtual 145, 3, [0, 54, 6, 2, 2, 0, 0], 0) := rfl
theorem f129_22 : zF 129 22 = some (.aload_n 0, 1, [], 0) := rfl
theorem f129_23 : zF 129 23 = some (.getfield 42, 3, [9, 3, 2], 0) := rfl
theorem f129_26 : zF 129 26 = some (.iload_n 2, 1, [], 0) := rfl
theorem f129_27 : zF 129 27 = some (.invokevirtual 145, 3, [0, 54, 6, 2, 2, 0, 0], 0) := rfl
theorem f129_30 : zF 129 30 = some (.invokevirtual 205, 3, [0, 19, 2, 3, 5, 0, 0], 0) := rfl
theorem f129_33 : zF 129 33 = some (.aload_n 0, 1, [], 0) := rfl
theorem f129_34 : zF 129 34 = some (.getfield 78, 3, [9, 10, 2], 0) := rfl
theorem f129_37 : zF 129 37 = some (.invokevirtual 222, 3, [0, 16, 2, 1, 1, 0, 0], 0) := rfl
theorem f129_40 : zF 129 40 = some (.ireturn, 1, [0], 0) := rfl
theorem f130_0 : zF 130 0 = some (.iload_n 1, 1, [], 0) := rfl
theorem f130_1 : zF 130 1 = some (.iconst 1, 1, [], 0) := rfl
theorem f130_2 : zF 130 2 = some (.if_icmp .lt 9, 3, [], 0) := rfl
theorem f130_5 : zF 130 5 = some (.iload_n 1, 1, [], 0) := rfl
theorem f130_6 : zF 130 6 = some (.bipush 40, 2, [], 0) := rfl
theorem f130_8 : zF 130 8 = some (.if_icmp .le 5, 3, [], 0) := rfl
theorem f130_11 : zF 130 11 = some (.iconst (-1), 1, [], 0) := rfl
theorem f130_12 : zF 130 12 = some (.ireturn, 1, [0], 0) := rfl
theorem f130_13 : zF 130 13 = some (.iconst 0, 1, [], 0) := rfl
theorem f130_14 : zF 130 14 = some (.istore_n 2, 1, [], 0) := rfl
theorem f130_15 : zF 130 15 = some (.iload_n 2, 1, [], 0) := rfl
theorem f130_16 : zF 130 16 = some (.iload_n 1, 1, [], 0) := rfl
theorem f130_17 : zF 130 17 = some (.if_icmp .ge 27, 3, [], 0) := rfl
theorem f130_20 : zF 130 20 = some (.aload_n 0, 1, [], 0) := rfl
theorem f130_21 : zF 130 21 = some (.getfield 52, 3, [9, 5, 2], 0) := rfl
theorem f130_24 : zF 130 24 = some (.aload_n 0, 1, [], 0) := rfl
theorem f130_25 : zF 130 25 = some (.getfield 42, 3, [9, 3, 2], 0) := rfl
theorem f130_28 : zF 130 28 = some (.invokevirtual 129, 3, [0, 2, 0, 2, 2, 0, 0], 0) := rfl
theorem f130_31 : zF 130 31 = some (.aload_n 0, 1, [], 0) := rfl
theorem f130_32 : zF 130 32 = some (.getfield 42, 3, [9, 3, 2], 0) := rfl
theorem f130_35 : zF 130 35 = some (.invokevirtual 225, 3, [0, 79, 6, 1, 4, 0, 0], 0) := rfl
theorem f130_38 : zF 130 38 = some (.iinc 2 1, 3, [], 0) := rfl
theorem f130_41 : zF 130 41 = some (.goto (-26), 3, [], 0) := rfl
theorem f130_44 : zF 130 44 = some (.aload_n 0, 1, [], 0) := rfl
theorem f130_45 : zF 130 45 = some (.getfield 42, 3, [9, 3, 2], 0) := rfl
theorem f130_48 : zF 130 48 = some (.iconst 0, 1, [], 0) := rfl
theorem f130_49 : zF 130 49 = some (.invokevirtual 228, 3, [0, 62, 6, 2, 4, 0, 0], 0) := rfl
theorem f130_52 : zF 130 52 = some (.ireturn, 1, [0], 0) := rfl
theorem f131_0 : zF 131 0 = some (.aload_n 0, 1, [], 0) := rfl
theorem f131_1 : zF 131 1 = some (.getfield 52, 3, [9, 5, 2], 0) := rfl
theorem f131_4 : zF 131 4 = some (.invokevirtual 187, 3, [0, 1, 0, 1, 1, 0, 0], 0) := rfl
theorem f131_7 : zF 131 7 = some (.ifCond .ne 6, 3, [], 0) := rfl
theorem f131_10 : zF 131 10 = some (.bipush (-4), 2, [], 0) := rfl
theorem f131_12 : zF 131 12 = some (.ireturn, 1, [0], 0) := rfl
theorem f131_13 : zF 131 13 = some (.aload_n 0, 1, [], 0) := rfl
theorem f131_14 : zF 131 14 = some (.getfield 52, 3, [9, 5, 2], 0) := rfl
theorem f131_17 : zF 131 17 = some (.aload_n 0, 1, [], 0) := rfl
theorem f131_18 : zF 131 18 = some (.getfield 42, 3, [9, 3, 2], 0) := rfl
theorem f131_21 : zF 131 21 = some (.invokevirtual 231, 3, [0, 3, 0, 2, 2, 0, 0], 0) := rfl
theorem f131_24 : zF 131 24 = some (.aload_n 0, 1, [], 0) := rfl
theorem f131_25 : zF 131 25 = some (.getfield 52, 3, [9, 5, 2], 0) := rfl
theorem f131_28 : zF 131 28 = some (.invokevirtual 187, 3, [0, 1, 0, 1, 1, 0, 0], 0) := rfl
theorem f131_31 : zF 131 31 = some (.ireturn, 1, [0], 0) := rfl
theorem f132_0 : zF 132 0 = some (.iload_n 1, 1, [], 0) := rfl
theorem f132_1 : zF 132 1 = some (.ifCond .ge 7, 3, [], 0) := rfl
theorem f132_4 : zF 132 4 = some (.iconst (-1), 1, [], 0) := rfl
theorem f132_5 : zF 132 5 = some (.goto 11, 3, [], 0) := rfl
theorem f132_8 : zF 132 8 = some (.aload_n 0, 1, [], 0) := rfl
theorem f132_9 : zF 132 9 = some (.getfield 42, 3, [9, 3, 2], 0) := rfl
theorem f132_12 : zF 132 12 = some (.iload_n 1, 1, [], 0) := rfl
theorem f132_13 : zF 132 13 = some (.invokevirtual 234, 3, [0, 75, 6, 2, 3, 0, 0], 0) := rfl
theorem f132_16 : zF 132 16 = some (.ireturn, 1, [0], 0) := rfl
theorem f133_0 : zF 133 0 = some (.aload_n 0, 1, [], 0) := rfl
theorem f133_1 : zF 133 1 = some (.getfield 56, 3, [9, 6, 2], 0) := rfl
theorem f133_4 : zF 133 4 = some (.aload_n 0, 1, [], 0) := rfl
theorem f133_5 : zF 133 5 = some (.getfield 42, 3, [9, 3, 2], 0) := rfl
theorem f133_8 : zF 133 8 = some (.invokevirtual 237, 3, [0, 52, 6, 2, 3, 0, 0], 0) := rfl
theorem f133_11 : zF 133 11 = some (.aload_n 0, 1, [], 0) := rfl
theorem f133_12 : zF 133 12 = some (.getfield 59, 3, [9, 7, 2], 0) := rfl
theorem f133_15 : zF 133 15 = some (.aload_n 0, 1, [], 0) := rfl
theorem f133_16 : zF 133 16 = some (.getfield 52, 3, [9, 5, 2], 0) := rfl
theorem f133_19 : zF 133 19 = some (.invokevirtual 240, 3, [0, 4, 0, 2, 3, 0, 0], 0) := rfl
theorem f133_22 : zF 133 22 = some (.aload_n 0, 1, [], 0) := rfl
theorem f133_23 : zF 133 23 = some (.iconst 1, 1, [], 0) := rfl
theorem f133_24 : zF 133 24 = some (.putfield 62, 3, [9, 8, 3], 0) := rfl
theorem f133_27 : zF 133 27 = some (.iconst 1, 1, [], 0) := rfl
theorem f133_28 : zF 133 28 = some (.ireturn, 1, [0], 0) := rfl
theorem f134_0 : zF 134 0 = some (.aload_n 0, 1, [], 0) := rfl
theorem f134_1 : zF 134 1 = some (.getfield 62, 3, [9, 8, 3], 0) := rfl
theorem f134_4 : zF 134 4 = some (.ifCond .ne 6, 3, [], 0) := rfl
theorem f134_7 : zF 134 7 = some (.bipush (-4), 2, [], 0) := rfl
theorem f134_9 : zF 134 9 = some (.ireturn, 1, [0], 0) := rfl
theorem f134_10 : zF 134 10 = some (.aload_n 0, 1, [], 0) := rfl
theorem f134_11 : zF 134 11 = some (.getfield 42, 3, [9, 3, 2], 0) := rfl
theorem f134_14 : zF 134 14 = some (.aload_n 0, 1, [], 0) := rfl
theorem f134_15 : zF 134 15 = some (.getfield 56, 3, [9, 6, 2], 0) := rfl
theorem f134_18 : zF 134 18 = some (.invokevirtual 237, 3, [0, 52, 6, 2, 3, 0, 0], 0) := rfl
theorem f134_21 : zF 134 21 = some (.aload_n 0, 1, [], 0) := rfl
theorem f134_22 : zF 134 22 = some (.getfield 52, 3, [9, 5, 2], 0) := rfl
theorem f134_25 : zF 134 25 = some (.aload_n 0, 1, [], 0) := rfl
theorem f134_26 : zF 134 26 = some (.getfield 59, 3, [9, 7, 2], 0) := rfl
theorem f134_29 : zF 134 29 = some (.invokevirtual 240, 3, [0, 4, 0, 2, 3, 0, 0], 0) := rfl
theorem f134_32 : zF 134 32 = some (.iconst 1, 1, [], 0) := rfl
theorem f134_33 : zF 134 33 = some (.ireturn, 1, [0], 0) := rfl
theorem f135_0 : zF 135 0 = some (.iload_n 1, 1, [], 0) := rfl
theorem f135_1 : zF 135 1 = some (.invokestatic 243, 3, [1, 144, 0, 1, 1, 0, 0], 0) := rfl
theorem f135_4 : zF 135 4 = some (.ifCond .ne 23, 3, [], 0) := rfl
theorem f135_7 : zF 135 7 = some (.iload_n 2, 1, [], 0) := rfl
theorem f135_8 : zF 135 8 = some (.invokestatic 246, 3, [1, 145, 0, 1, 1, 0, 0], 0) := rfl
theorem f135_11 : zF 135 11 = some (.ifCond .ne 16, 3, [], 0) := rfl
theorem f135_14 : zF 135 14 = some (.iload 4, 2, [], 0) := rfl
theorem f135_16 : zF 135 16 = some (.iconst 1, 1, [], 0) := rfl
theorem f135_17 : zF 135 17 = some (.if_icmp .lt 10, 3, [], 0) := rfl
theorem f135_20 : zF 135 20 = some (.iload 4, 2, [], 0) := rfl
theorem f135_22 : zF 135 22 = some (.bipush 24, 2, [], 0) := rfl
theorem f135_24 : zF 135 24 = some (.if_icmp .le 5, 3, [], 0) := rfl
theorem f135_27 : zF 135 27 = some (.iconst (-1), 1, [], 0) := rfl
theorem f135_28 : zF 135 28 = some (.ireturn, 1, [0], 0) := rfl
theorem f135_29 : zF 135 29 = some (.aload_n 0, 1, [], 0) := rfl
theorem f135_30 : zF 135 30 = some (.getfield 84, 3, [9, 11, 2], 0) := rfl
theorem f135_33 : zF 135 33 = some (.iload_n 1, 1, [], 0) := rfl
theorem f135_34 : zF 135 34 = some (.aaload, 1, [], 0) := rfl
theorem f135_35 : zF 135 35 = some (.iload_n 2, 1, [], 0) := rfl
theorem f135_36 : zF 135 36 = some (.iload_n 3, 1, [], 0) := rfl
theorem f135_37 : zF 135 37 = some (.iload 4, 2, [], 0) := rfl
theorem f135_39 : zF 135 39 = some (.invokevirtual 249, 3, [0, 44, 5, 4, 4, 0, 0], 0) := rfl
theorem f135_42 : zF 135 42 = some (.istore 5, 2, [], 0) := rfl
theorem f135_44 : zF 135 44 = some (.iload 5, 2, [], 0) := rfl
theorem f135_46 : zF 135 46 = some (.ifCond .eq 6, 3, [], 0) := rfl
theorem f135_49 : zF 135 49 = some (.iload 5, 2, [], 0) := rfl
theorem f135_51 : zF 135 51 = some (.ireturn, 1, [0], 0) := rfl
theorem f135_52 : zF 135 52 = some (.aload_n 0, 1, [], 0) := rfl
theorem f135_53 : zF 135 53 = some (.getfield 84, 3, [9, 11, 2], 0) := rfl
theorem f135_56 : zF 135 56 = some (.iload_n 1, 1, [], 0) := rfl
theorem f135_57 : zF 135 57 = some (.aaload, 1, [], 0) := rfl
theorem f135_58 : zF 135 58 = some (.iload_n 3, 1, [], 0) := rfl
theorem f135_59 : zF 135 59 = some (.iload 4, 2, [], 0) := rfl
theorem f135_61 : zF 135 61 = some (.invokevirtual 253, 3, [0, 50, 5, 3, 4, 0, 0], 0) := rfl
theorem f135_64 : zF 135 64 = some (.ifCond .eq 19, 3, [], 0) := rfl
theorem f135_67 : zF 135 67 = some (.aload_n 0, 1, [], 0) := rfl
theorem f135_68 : zF 135 68 = some (.aload_n 0, 1, [], 0) := rfl
theorem f135_69 : zF 135 69 = some (.getfield 84, 3, [9, 11, 2], 0) := rfl
theorem f135_72 : zF 135 72 = some (.iload_n 1, 1, [], 0) := rfl
theorem f135_73 : zF 135 73 = some (.aaload, 1, [], 0) := rfl
theorem f135_74 : zF 135 74 = some (.iload_n 3, 1, [], 0) := rfl
theorem f135_75 : zF 135 75 = some (.iload 4, 2, [], 0) := rfl
theorem f135_77 : zF 135 77 = some (.invokevirtual 256, 3, [0, 149, 9, 4, 6, 0, 0], 0) := rfl
theorem f135_80 : zF 135 80 = some (.goto 5, 3, [], 0) := rfl
theorem f135_83 : zF 135 83 = some (.bipush (-2), 2, [], 0) := rfl
theorem f135_85 : zF 135 85 = some (.ireturn, 1, [0], 0) := rfl
theorem f136_0 : zF 136 0 = some (.iload_n 1, 1, [], 0) := rfl
theorem f136_1 : zF 136 1 = some (.invokestatic 243, 3, [1, 144, 0, 1, 1, 0, 0], 0) := rfl
theorem f136_4 : zF 136 4 = some (.ifCond .ne 10, 3, [], 0) := rfl
theorem f136_7 : zF 136 7 = some (.iload_n 2, 1, [], 0) := rfl
theorem f136_8 : zF 136 8 = some (.invokestatic 246, 3, [1, 145, 0, 1, 1, 0, 0], 0) := rfl
theorem f136_11 : zF 136 11 = some (.ifCond .eq 5, 3, [], 0) := rfl
theorem f136_14 : zF 136 14 = some (.iconst (-1), 1, [], 0) := rfl
theorem f136_15 : zF 136 15 = some (.ireturn, 1, [0], 0) := rfl
theorem f136_16 : zF 136 16 = some (.aload_n 0, 1, [], 0) := rfl
theorem f136_17 : zF 136 17 = some (.getfield 84, 3, [9, 11, 2], 0) := rfl
theorem f136_20 : zF 136 20 = some (.iload_n 1, 1, [], 0) := rfl
theorem f136_21 : zF 136 21 = some (.aaload, 1, [], 0) := rfl
theorem f136_22 : zF 136 22 = some (.iload_n 2, 1, [], 0) := rfl
theorem f136_23 : zF 136 23 = some (.iload_n 3, 1, [], 0) := rfl
theorem f136_24 : zF 136 24 = some (.iconst 4, 1, [], 0) := rfl
theorem f136_25 : zF 136 25 = some (.invokevirtual 249, 3, [0, 44, 5, 4, 4, 0, 0], 0) := rfl
theorem f136_28 : zF 136 28 = some (.istore 4, 2, [], 0) := rfl
theorem f136_30 : zF 136 30 = some (.iload 4, 2, [], 0) := rfl
theorem f136_32 : zF 136 32 = some (.ifCond .eq 6, 3, [], 0) := rfl
theorem f136_35 : zF 136 35 = some (.iload 4, 2, [], 0) := rfl
theorem f136_37 : zF 136 37 = some (.ireturn, 1, [0], 0) := rfl
theorem f136_38 : zF 136 38 = some (.iconst 0, 1, [], 0) := rfl
theorem f136_39 : zF 136 39 = some (.istore 5, 2, [], 0) := rfl
theorem f136_41 : zF 136 41 = some (.iload 5, 2, [], 0) := rfl
theorem f136_43 : zF 136 43 = some (.iconst 4, 1, [], 0) := rfl
theorem f136_44 : zF 136 44 = some (.if_icmp .ge 32, 3, [], 0) := rfl
theorem f136_47 : zF 136 47 = some (.aload_n 0, 1, [], 0) := rfl
theorem f136_48 : zF 136 48 = some (.getfield 84, 3, [9, 11, 2], 0) := rfl
theorem f136_51 : zF 136 51 = some (.iload_n 1, 1, [], 0) := rfl
theorem f136_52 : zF 136 52 = some (.aaload, 1, [], 0) := rfl
theorem f136_53 : zF 136 53 = some (.iload_n 3, 1, [], 0) := rfl
theorem f136_54 : zF 136 54 = some (.iload 5, 2, [], 0) := rfl
theorem f136_56 : zF 136 56 = some (.iadd, 1, [], 0) := rfl
theorem f136_57 : zF 136 57 = some (.aload_n 0, 1, [], 0) := rfl
theorem f136_58 : zF 136 58 = some (.getfield 42, 3, [9, 3, 2], 0) := rfl
theorem f136_61 : zF 136 61 = some (.iload 5, 2, [], 0) := rfl
theorem f136_63 : zF 136 63 = some (.invokevirtual 260, 3, [0, 57, 6, 2, 2, 0, 0], 0) := rfl
theorem f136_66 : zF 136 66 = some (.i2l, 1, [], 0) := rfl
theorem f136_67 : zF 136 67 = some (.invokevirtual 263, 3, [0, 47, 5, 3, 4, 0, 0], 0) := rfl
theorem f136_70 : zF 136 70 = some (.iinc 5 1, 3, [], 0) := rfl
theorem f136_73 : zF 136 73 = some (.goto (-32), 3, [], 0) := rfl
theorem f136_76 : zF 136 76 = some (.iconst 4, 1, [], 0) := rfl
theorem f136_77 : zF 136 77 = some (.ireturn, 1, [0], 0) := rfl
theorem f137_0 : zF 137 0 = some (.iload_n 1, 1, [], 0) := rfl
theorem f137_1 : zF 137 1 = some (.invokestatic 243, 3, [1, 144, 0, 1, 1, 0, 0], 0) := rfl
theorem f137_4 : zF 137 4 = some (.ifCond .ne 16, 3, [], 0) := rfl
theorem f137_7 : zF 137 7 = some (.iload_n 2, 1, [], 0) := rfl
theorem f137_8 : zF 137 8 = some (.invokestatic 246, 3, [1, 145, 0, 1, 1, 0, 0], 0) := rfl
theorem f137_11 : zF 137 11 = some (.ifCond .ne 9, 3, [], 0) := rfl
theorem f137_14 : zF 137 14 = some (.iload_n 3, 1, [], 0) := rfl
theorem f137_15 : zF 137 15 = some (.bipush 24, 2, [], 0) := rfl
theorem f137_17 : zF 137 17 = some (.if_icmp .le 5, 3, [], 0) := rfl
theorem f137_20 : zF 137 20 = some (.iconst (-1), 1, [], 0) := rfl
theorem f137_21 : zF 137 21 = some (.ireturn, 1, [0], 0) := rfl
theorem f137_22 : zF 137 22 = some (.iload_n 3, 1, [], 0) := rfl
theorem f137_23 : zF 137 23 = some (.ifCond .ge 6, 3, [], 0) := rfl
theorem f137_26 : zF 137 26 = some (.bipush (-14), 2, [], 0) := rfl
theorem f137_28 : zF 137 28 = some (.ireturn, 1, [0], 0) := rfl
theorem f137_29 : zF 137 29 = some (.aload_n 0, 1, [], 0) := rfl
theorem f137_30 : zF 137 30 = some (.getfield 84, 3, [9, 11, 2], 0) := rfl
theorem f137_33 : zF 137 33 = some (.iload_n 1, 1, [], 0) := rfl
theorem f137_34 : zF 137 34 = some (.aaload, 1, [], 0) := rfl
theorem f137_35 : zF 137 35 = some (.iload_n 2, 1, [], 0) := rfl
theorem f137_36 : zF 137 36 = some (.iload_n 3, 1, [], 0) := rfl
theorem f137_37 : zF 137 37 = some (.invokevirtual 267, 3, [0, 45, 5, 3, 3, 0, 0], 0) := rfl
theorem f137_40 : zF 137 40 = some (.iload_n 3, 1, [], 0) := rfl
theorem f137_41 : zF 137 41 = some (.ireturn, 1, [0], 0) := rfl
theorem f138_0 : zF 138 0 = some (.iload_n 1, 1, [], 0) := rfl
theorem f138_1 : zF 138 1 = some (.invokestatic 243, 3, [1, 144, 0, 1, 1, 0, 0], 0) := rfl
theorem f138_4 : zF 138 4 = some (.ifCond .eq 5, 3, [], 0) := rfl
theorem f138_7 : zF 138 7 = some (.iconst (-1), 1, [], 0) := rfl
theorem f138_8 : zF 138 8 = some (.ireturn, 1, [0], 0) := rfl
theorem f138_9 : zF 138 9 = some (.aload_n 0, 1, [], 0) := rfl
theorem f138_10 : zF 138 10 = some (.getfield 84, 3, [9, 11, 2], 0) := rfl
theorem f138_13 : zF 138 13 = some (.iload_n 1, 1, [], 0) := rfl
theorem f138_14 : zF 138 14 = some (.aaload, 1, [], 0) := rfl
theorem f138_15 : zF 138 15 = some (.invokevirtual 271, 3, [0, 41, 5, 1, 1, 0, 0], 0) := rfl
theorem f138_18 : zF 138 18 = some (.ifCond .eq 8, 3, [], 0) := rfl
theorem f138_21 : zF 138 21 = some (.bipush (-11), 2, [], 0) := rfl
theorem f138_23 : zF 138 23 = some (.goto 12, 3, [], 0) := rfl
theorem f138_26 : zF 138 26 = some (.aload_n 0, 1, [], 0) := rfl
theorem f138_27 : zF 138 27 = some (.getfield 84, 3, [9, 11, 2], 0) := rfl
theorem f138_30 : zF 138 30 = some (.iload_n 1, 1, [], 0) := rfl
theorem f138_31 : zF 138 31 = some (.aaload, 1, [], 0) := rfl
theorem f138_32 : zF 138 32 = some (.invokevirtual 274, 3, [0, 46, 5, 1, 2, 0, 0], 0) := rfl
theorem f138_35 : zF 138 35 = some (.ireturn, 1, [0], 0) := rfl
theorem f139_0 : zF 139 0 = some (.iload_n 1, 1, [], 0) := rfl
theorem f139_1 : zF 139 1 = some (.invokestatic 243, 3, [1, 144, 0, 1, 1, 0, 0], 0) := rfl
theorem f139_4 : zF 139 4 = some (.ifCond .ne 10, 3, [], 0) := rfl
theorem f139_7 : zF 139 7 = some (.iload_n 2, 1, [], 0) := rfl
theorem f139_8 : zF 139 8 = some (.invokestatic 246, 3, [1, 145, 0, 1, 1, 0, 0], 0) := rfl
theorem f139_11 : zF 139 11 = some (.ifCond .eq 5, 3, [], 0) := rfl
theorem f139_14 : zF 139 14 = some (.iconst (-1), 1, [], 0) := rfl
theorem f139_15 : zF 139 15 = some (.ireturn, 1, [0], 0) := rfl
theorem f139_16 : zF 139 16 = some (.aload_n 0, 1, [], 0) := rfl
theorem f139_17 : zF 139 17 = some (.getfield 84, 3, [9, 11, 2], 0) := rfl
theorem f139_20 : zF 139 20 = some (.iload_n 1, 1, [], 0) := rfl
theorem f139_21 : zF 139 21 = some (.aaload, 1, [], 0) := rfl
theorem f139_22 : zF 139 22 = some (.iload_n 2, 1, [], 0) := rfl
theorem f139_23 : zF 139 23 = some (.iload_n 3, 1, [], 0) := rfl
theorem f139_24 : zF 139 24 = some (.iconst 1, 1, [], 0) := rfl
theorem f139_25 : zF 139 25 = some (.invokevirtual 249, 3, [0, 44, 5, 4, 4, 0, 0], 0) := rfl
theorem f139_28 : zF 139 28 = some (.istore 6, 2, [], 0) := rfl
theorem f139_30 : zF 139 30 = some (.iload 6, 2, [], 0) := rfl
theorem f139_32 : zF 139 32 = some (.ifCond .eq 6, 3, [], 0) := rfl
theorem f139_35 : zF 139 35 = some (.iload 6, 2, [], 0) := rfl
theorem f139_37 : zF 139 37 = some (.ireturn, 1, [0], 0) := rfl
theorem f139_38 : zF 139 38 = some (.aload_n 0, 1, [], 0) := rfl
theorem f139_39 : zF 139 39 = some (.getfield 84, 3, [9, 11, 2], 0) := rfl
theorem f139_42 : zF 139 42 = some (.iload_n 1, 1, [], 0) := rfl
theorem f139_43 : zF 139 43 = some (.aaload, 1, [], 0) := rfl
theorem f139_44 : zF 139 44 = some (.iload_n 3, 1, [], 0) := rfl
theorem f139_45 : zF 139 45 = some (.lload 4, 2, [], 0) := rfl
theorem f139_47 : zF 139 47 = some (.invokevirtual 263, 3, [0, 47, 5, 3, 4, 0, 0], 0) := rfl
theorem f139_50 : zF 139 50 = some (.iconst 1, 1, [], 0) := rfl
theorem f139_51 : zF 139 51 = some (.ireturn, 1, [0], 0) := rfl
theorem f140_0 : zF 140 0 = some (.iload_n 1, 1, [], 0) := rfl
theorem f140_1 : zF 140 1 = some (.invokestatic 243, 3, [1, 144, 0, 1, 1, 0, 0], 0) := rfl
theorem f140_4 : zF 140 4 = some (.ifCond .ne 10, 3, [], 0) := rfl
theorem f140_7 : zF 140 7 = some (.iload_n 3, 1, [], 0) := rfl
theorem f140_8 : zF 140 8 = some (.invokestatic 243, 3, [1, 144, 0, 1, 1, 0, 0], 0) := rfl
theorem f140_11 : zF 140 11 = some (.ifCond .eq 5, 3, [], 0) := rfl
theorem f140_14 : zF 140 14 = some (.iconst (-1), 1, [], 0) := rfl
theorem f140_15 : zF 140 15 = some (.ireturn, 1, [0], 0) := rfl
theorem f140_16 : zF 140 16 = some (.aload_n 0, 1, [], 0) := rfl
theorem f140_17 : zF 140 17 = some (.getfield 84, 3, [9, 11, 2], 0) := rfl
theorem f140_20 : zF 140 20 = some (.iload_n 1, 1, [], 0) := rfl
theorem f140_21 : zF 140 21 = some (.aaload, 1, [], 0) := rfl
theorem f140_22 : zF 140 22 = some (.astore 6, 2, [], 0) := rfl
theorem f140_24 : zF 140 24 = some (.aload_n 0, 1, [], 0) := rfl
theorem f140_25 : zF 140 25 = some (.getfield 84, 3, [9, 11, 2], 0) := rfl
theorem f140_28 : zF 140 28 = some (.iload_n 3, 1, [], 0) := rfl
theorem f140_29 : zF 140 29 = some (.aaload, 1, [], 0) := rfl
theorem f140_30 : zF 140 30 = some (.astore 7, 2, [], 0) := rfl
theorem f140_32 : zF 140 32 = some (.aload 6, 2, [], 0) := rfl
theorem f140_34 : zF 140 34 = some (.invokevirtual 271, 3, [0, 41, 5, 1, 1, 0, 0], 0) := rfl
theorem f140_37 : zF 140 37 = some (.ifCond .ne 11, 3, [], 0) := rfl
theorem f140_40 : zF 140 40 = some (.aload 7, 2, [], 0) := rfl
theorem f140_42 : zF 140 42 = some (.invokevirtual 271, 3, [0, 41, 5, 1, 1, 0, 0], 0) := rfl
theorem f140_45 : zF 140 45 = some (.ifCond .eq 6, 3, [], 0) := rfl
theorem f140_48 : zF 140 48 = some (.bipush (-11), 2, [], 0) := rfl
theorem f140_50 : zF 140 50 = some (.ireturn, 1, [0], 0) := rfl
theorem f140_51 : zF 140 51 = some (.aload 6, 2, [], 0) := rfl
theorem f140_53 : zF 140 53 = some (.aload 7, 2, [], 0) := rfl
theorem f140_55 : zF 140 55 = some (.invokevirtual 277, 3, [0, 42, 5, 2, 2, 0, 0], 0) := rfl
theorem f140_58 : zF 140 58 = some (.ifCond .ne 6, 3, [], 0) := rfl
theorem f140_61 : zF 140 61 = some (.bipush (-12), 2, [], 0) := rfl
theorem f140_63 : zF 140 63 = some (.ireturn, 1, [0], 0) := rfl
theorem f140_64 : zF 140 64 = some (.aload 6, 2, [], 0) := rfl
theorem f140_66 : zF 140 66 = some (.iload_n 2, 1, [], 0) := rfl
theorem f140_67 : zF 140 67 = some (.iload 5, 2, [], 0) := rfl
theorem f140_69 : zF 140 69 = some (.invokevirtual 281, 3, [0, 43, 5, 3, 3, 0, 0], 0) := rfl
theorem f140_72 : zF 140 72 = some (.ifCond .eq 15, 3, [], 0) := rfl
theorem f140_75 : zF 140 75 = some (.aload 7, 2, [], 0) := rfl
theorem f140_77 : zF 140 77 = some (.iload 4, 2, [], 0) := rfl
theorem f140_79 : zF 140 79 = some (.iload 5, 2, [], 0) := rfl
theorem f140_81 : zF 140 81 = some (.invokevirtual 281, 3, [0, 43, 5, 3, 3, 0, 0], 0) := rfl
theorem f140_84 : zF 140 84 = some (.ifCond .ne 6, 3, [], 0) := rfl
theorem f140_87 : zF 140 87 = some (.bipush (-13), 2, [], 0) := rfl
theorem f140_89 : zF 140 89 = some (.ireturn, 1, [0], 0) := rfl
theorem f140_90 : zF 140 90 = some (.aload 6, 2, [], 0) := rfl
theorem f140_92 : zF 140 92 = some (.iload_n 2, 1, [], 0) := rfl
theorem f140_93 : zF 140 93 = some (.aload 7, 2, [], 0) := rfl
theorem f140_95 : zF 140 95 = some (.iload 4, 2, [], 0) := rfl
theorem f140_97 : zF 140 97 = some (.iload 5, 2, [], 0) := rfl
theorem f140_99 : zF 140 99 = some (.invokevirtual 284, 3, [0, 48, 5, 5, 5, 0, 0], 0) := rfl
theorem f140_102 : zF 140 102 = some (.iload 5, 2, [], 0) := rfl
theorem f140_104 : zF 140 104 = some (.ireturn, 1, [0], 0) := rfl
theorem f141_0 : zF 141 0 = some (.iload_n 0, 1, [], 0) := rfl
theorem f141_1 : zF 141 1 = some (.ifCond .lt 8, 3, [], 0) := rfl
theorem f141_4 : zF 141 4 = some (.iload_n 0, 1, [], 0) := rfl
theorem f141_5 : zF 141 5 = some (.iconst 4, 1, [], 0) := rfl
theorem f141_6 : zF 141 6 = some (.if_icmp .lt 7, 3, [], 0) := rfl
theorem f141_9 : zF 141 9 = some (.iconst 1, 1, [], 0) := rfl
theorem f141_10 : zF 141 10 = some (.goto 4, 3, [], 0) := rfl
theorem f141_13 : zF 141 13 = some (.iconst 0, 1, [], 0) := rfl
theorem f141_14 : zF 141 14 = some (.ireturn, 1, [1], 0) := rfl
theorem f142_0 : zF 142 0 = some (.iload_n 0, 1, [], 0) := rfl
theorem f142_1 : zF 142 1 = some (.ifCond .lt 9, 3, [], 0) := rfl
theorem f142_4 : zF 142 4 = some (.iload_n 0, 1, [], 0) := rfl
theorem f142_5 : zF 142 5 = some (.bipush 6, 2, [], 0) := rfl
theorem f142_7 : zF 142 7 = some (.if_icmp .lt 7, 3, [], 0) := rfl
theorem f142_10 : zF 142 10 = some (.iconst 1, 1, [], 0) := rfl
theorem f142_11 : zF 142 11 = some (.goto 4, 3, [], 0) := rfl
theorem f142_14 : zF 142 14 = some (.iconst 0, 1, [], 0) := rfl
theorem f142_15 : zF 142 15 = some (.ireturn, 1, [1], 0) := rfl
theorem f143_0 : zF 143 0 = some (.iload_n 0, 1, [], 0) := rfl
theorem f143_1 : zF 143 1 = some (.invokestatic 97, 3, [1, 141, 0, 1, 1, 0, 0], 0) := rfl
theorem f143_4 : zF 143 4 = some (.ifCond .ne 15, 3, [], 0) := rfl
theorem f143_7 : zF 143 7 = some (.iload_n 1, 1, [], 0) := rfl
theorem f143_8 : zF 143 8 = some (.invokestatic 97, 3, [1, 141, 0, 1, 1, 0, 0], 0) := rfl
theorem f143_11 : zF 143 11 = some (.ifCond .ne 8, 3, [], 0) := rfl
theorem f143_14 : zF 143 14 = some (.iload_n 0, 1, [], 0) := rfl
theorem f143_15 : zF 143 15 = some (.iload_n 1, 1, [], 0) := rfl
theorem f143_16 : zF 143 16 = some (.if_icmp .ne 7, 3, [], 0) := rfl
theorem f143_19 : zF 143 19 = some (.iconst 1, 1, [], 0) := rfl
theorem f143_20 : zF 143 20 = some (.goto 4, 3, [], 0) := rfl
theorem f143_23 : zF 143 23 = some (.iconst 0, 1, [], 0) := rfl
theorem f143_24 : zF 143 24 = some (.ireturn, 1, [1], 0) := rfl
theorem f144_0 : zF 144 0 = some (.iload_n 0, 1, [], 0) := rfl
theorem f144_1 : zF 144 1 = some (.ifCond .lt 8, 3, [], 0) := rfl
theorem f144_4 : zF 144 4 = some (.iload_n 0, 1, [], 0) := rfl
theorem f144_5 : zF 144 5 = some (.iconst 4, 1, [], 0) := rfl
theorem f144_6 : zF 144 6 = some (.if_icmp .lt 7, 3, [], 0) := rfl
theorem f144_9 : zF 144 9 = some (.iconst 1, 1, [], 0) := rfl
theorem f144_10 : zF 144 10 = some (.goto 4, 3, [], 0) := rfl
theorem f144_13 : zF 144 13 = some (.iconst 0, 1, [], 0) := rfl
theorem f144_14 : zF 144 14 = some (.ireturn, 1, [1], 0) := rfl
theorem f145_0 : zF 145 0 = some (.iload_n 0, 1, [], 0) := rfl
theorem f145_1 : zF 145 1 = some (.ifCond .lt 8, 3, [], 0) := rfl
theorem f145_4 : zF 145 4 = some (.iload_n 0, 1, [], 0) := rfl
theorem f145_5 : zF 145 5 = some (.iconst 4, 1, [], 0) := rfl
theorem f145_6 : zF 145 6 = some (.if_icmp .lt 7, 3, [], 0) := rfl
theorem f145_9 : zF 145 9 = some (.iconst 1, 1, [], 0) := rfl
theorem f145_10 : zF 145 10 = some (.goto 4, 3, [], 0) := rfl
theorem f145_13 : zF 145 13 = some (.iconst 0, 1, [], 0) := rfl
theorem f145_14 : zF 145 14 = some (.ireturn, 1, [1], 0) := rfl
theorem f146_0 : zF 146 0 = some (.iconst 1, 1, [], 0) := rfl
theorem f146_1 : zF 146 1 = some (.iload_n 0, 1, [], 0) := rfl
theorem f146_2 : zF 146 2 = some (.ishl, 1, [], 0) := rfl
theorem f146_3 : zF 146 3 = some (.ireturn, 1, [0], 0) := rfl
theorem f147_0 : zF 147 0 = some (.iload_n 0, 1, [], 0) := rfl
theorem f147_1 : zF 147 1 = some (.iconst 1, 1, [], 0) := rfl
theorem f147_2 : zF 147 2 = some (.iload_n 1, 1, [], 0) := rfl
theorem f147_3 : zF 147 3 = some (.ishl, 1, [], 0) := rfl
theorem f147_4 : zF 147 4 = some (.iand, 1, [], 0) := rfl
theorem f147_5 : zF 147 5 = some (.ifCond .eq 7, 3, [], 0) := rfl
theorem f147_8 : zF 147 8 = some (.iconst 1, 1, [], 0) := rfl
theorem f147_9 : zF 147 9 = some (.goto 4, 3, [], 0) := rfl
theorem f147_12 : zF 147 12 = some (.iconst 0, 1, [], 0) := rfl
theorem f147_13 : zF 147 13 = some (.ireturn, 1, [1], 0) := rfl
theorem f148_0 : zF 148 0 = some (.aload_n 0, 1, [], 0) := rfl
theorem f148_1 : zF 148 1 = some (.getfield 10, 3, [9, 0, 2], 0) := rfl
theorem f148_4 : zF 148 4 = some (.invokevirtual 288, 3, [0, 92, 7, 1, 2, 0, 0], 0) := rfl
theorem f148_7 : zF 148 7 = some (.istore_n 2, 1, [], 0) := rfl
theorem f148_8 : zF 148 8 = some (.iload_n 2, 1, [], 0) := rfl
theorem f148_9 : zF 148 9 = some (.bipush (-4), 2, [], 0) := rfl
theorem f148_11 : zF 148 11 = some (.if_icmp .eq 8, 3, [], 0) := rfl
theorem f148_14 : zF 148 14 = some (.bipush (-20), 2, [], 0) := rfl
theorem f148_16 : zF 148 16 = some (.iload_n 2, 1, [], 0) := rfl
theorem f148_17 : zF 148 17 = some (.isub, 1, [], 0) := rfl
theorem f148_18 : zF 148 18 = some (.ireturn, 1, [0], 0) := rfl
theorem f148_19 : zF 148 19 = some (.aload_n 0, 1, [], 0) := rfl
theorem f148_20 : zF 148 20 = some (.getfield 10, 3, [9, 0, 2], 0) := rfl
theorem f148_23 : zF 148 23 = some (.invokevirtual 291, 3, [0, 93, 7, 1, 4, 3, 121], 0) := rfl
theorem f148_26 : zF 148 26 = some (.astore_n 3, 1, [], 0) := rfl
theorem f148_27 : zF 148 27 = some (.aload_n 0, 1, [], 0) := rfl
theorem f148_28 : zF 148 28 = some (.getfield 19, 3, [9, 1, 2], 0) := rfl
theorem f148_31 : zF 148 31 = some (.aload_n 3, 1, [], 0) := rfl
theorem f148_32 : zF 148 32 = some (.aload_n 0, 1, [], 0) := rfl
theorem f148_33 : zF 148 33 = some (.getfield 42, 3, [9, 3, 2], 0) := rfl
theorem f148_36 : zF 148 36 = some (.invokevirtual 115, 3, [0, 55, 6, 1, 1, 0, 0], 0) := rfl
theorem f148_39 : zF 148 39 = some (.invokevirtual 125, 3, [0, 24, 3, 3, 3, 0, 0], 0) := rfl
theorem f148_42 : zF 148 42 = some (.ifCond .ne 6, 3, [], 0) := rfl
theorem f148_45 : zF 148 45 = some (.bipush (-3), 2, [], 0) := rfl
theorem f148_47 : zF 148 47 = some (.ireturn, 1, [0], 0) := rfl
theorem f148_48 : zF 148 48 = some (.aload_n 0, 1, [], 0) := rfl
theorem f148_49 : zF 148 49 = some (.getfield 52, 3, [9, 5, 2], 0) := rfl
theorem f148_52 : zF 148 52 = some (.aload_n 0, 1, [], 0) := rfl
theorem f148_53 : zF 148 53 = some (.getfield 42, 3, [9, 3, 2], 0) := rfl
theorem f148_56 : zF 148 56 = some (.invokevirtual 129, 3, [0, 2, 0, 2, 2, 0, 0], 0) := rfl
theorem f148_59 : zF 148 59 = some (.aload_n 0, 1, [], 0) := rfl
theorem f148_60 : zF 148 60 = some (.getfield 42, 3, [9, 3, 2], 0) := rfl
theorem f148_63 : zF 148 63 = some (.iload_n 1, 1, [], 0) := rfl
theorem f148_64 : zF 148 64 = some (.aload_n 3, 1, [], 0) := rfl
theorem f148_65 : zF 148 65 = some (.new 28, 3, [8, 10], 0) := rfl
theorem f148_68 : zF 148 68 = some (.dup, 1, [], 0) := rfl
theorem f148_69 : zF 148 69 = some (.aload_n 0, 1, [], 0) := rfl
theorem f148_70 : zF 148 70 = some (.getfield 19, 3, [9, 1, 2], 0) := rfl
theorem f148_73 : zF 148 73 = some (.invokespecial 30, 3, [2, 98, 0, 2, 2, 4, 124], 0) := rfl
theorem f148_76 : zF 148 76 = some (.invokevirtual 295, 3, [0, 72, 6, 4, 4, 0, 0], 0) := rfl
theorem f148_79 : zF 148 79 = some (.aload_n 0, 1, [], 0) := rfl
theorem f148_80 : zF 148 80 = some (.getfield 42, 3, [9, 3, 2], 0) := rfl
theorem f148_83 : zF 148 83 = some (.iload_n 1, 1, [], 0) := rfl
theorem f148_84 : zF 148 84 = some (.invokevirtual 145, 3, [0, 54, 6, 2, 2, 0, 0], 0) := rfl
theorem f148_87 : zF 148 87 = some (.invokevirtual 149, 3, [0, 99, 8, 1, 1, 0, 0], 0) := rfl
theorem f148_90 : zF 148 90 = some (.ireturn, 1, [0], 0) := rfl
theorem f149_0 : zF 149 0 = some (.aload_n 0, 1, [], 0) := rfl
theorem f149_1 : zF 149 1 = some (.getfield 46, 3, [9, 4, 2], 0) := rfl
theorem f149_4 : zF 149 4 = some (.aload_n 0, 1, [], 0) := rfl
theorem f149_5 : zF 149 5 = some (.getfield 42, 3, [9, 3, 2], 0) := rfl
theorem f149_8 : zF 149 8 = some (.invokevirtual 237, 3, [0, 52, 6, 2, 3, 0, 0], 0) := rfl
theorem f149_11 : zF 149 11 = some (.iconst 0, 1, [], 0) := rfl
theorem f149_12 : zF 149 12 = some (.istore 4, 2, [], 0) := rfl
theorem f149_14 : zF 149 14 = some (.iload 4, 2, [], 0) := rfl
theorem f149_16 : zF 149 16 = some (.iload_n 3, 1, [], 0) := rfl
theorem f149_17 : zF 149 17 = some (.if_icmp .ge 67, 3, [], 0) := rfl
theorem f149_20 : zF 149 20 = some (.aload_n 1, 1, [], 0) := rfl
theorem f149_21 : zF 149 21 = some (.iload_n 2, 1, [], 0) := rfl
theorem f149_22 : zF 149 22 = some (.iload 4, 2, [], 0) := rfl
theorem f149_24 : zF 149 24 = some (.iadd, 1, [], 0) := rfl
theorem f149_25 : zF 149 25 = some (.invokevirtual 299, 3, [0, 49, 5, 2, 2, 0, 0], 0) := rfl
theorem f149_28 : zF 149 28 = some (.istore 5, 2, [], 0) := rfl
theorem f149_30 : zF 149 30 = some (.iload 5, 2, [], 0) := rfl
theorem f149_32 : zF 149 32 = some (.invokestatic 97, 3, [1, 141, 0, 1, 1, 0, 0], 0) := rfl
theorem f149_35 : zF 149 35 = some (.ifCond .ne 15, 3, [], 0) := rfl
theorem f149_38 : zF 149 38 = some (.aload_n 0, 1, [], 0) := rfl
theorem f149_39 : zF 149 39 = some (.getfield 46, 3, [9, 4, 2], 0) := rfl
theorem f149_42 : zF 149 42 = some (.iload 5, 2, [], 0) := rfl
theorem f149_44 : zF 149 44 = some (.invokevirtual 163, 3, [0, 58, 6, 2, 2, 0, 0], 0) := rfl
theorem f149_47 : zF 149 47 = some (.ifCond .eq 6, 3, [], 0) := rfl
theorem f149_50 : zF 149 50 = some (.iload 4, 2, [], 0) := rfl
theorem f149_52 : zF 149 52 = some (.ireturn, 1, [0], 0) := rfl
theorem f149_53 : zF 149 53 = some (.aload_n 0, 1, [], 0) := rfl
theorem f149_54 : zF 149 54 = some (.getfield 46, 3, [9, 4, 2], 0) := rfl
theorem f149_57 : zF 149 57 = some (.iload 5, 2, [], 0) := rfl
theorem f149_59 : zF 149 59 = some (.invokevirtual 166, 3, [0, 80, 6, 2, 3, 0, 0], 0) := rfl
theorem f149_62 : zF 149 62 = some (.pop, 1, [], 0) := rfl
theorem f149_63 : zF 149 63 = some (.aload_n 0, 1, [], 0) := rfl
theorem f149_64 : zF 149 64 = some (.getfield 46, 3, [9, 4, 2], 0) := rfl
theorem f149_67 : zF 149 67 = some (.iload 5, 2, [], 0) := rfl
theorem f149_69 : zF 149 69 = some (.invokevirtual 302, 3, [0, 59, 6, 2, 2, 0, 0], 0) := rfl
theorem f149_72 : zF 149 72 = some (.ifCond .eq 6, 3, [], 0) := rfl
theorem f149_75 : zF 149 75 = some (.iload 4, 2, [], 0) := rfl
theorem f149_77 : zF 149 77 = some (.ireturn, 1, [0], 0) := rfl
theorem f149_78 : zF 149 78 = some (.iinc 4 1, 3, [], 0) := rfl
theorem f149_81 : zF 149 81 = some (.goto (-67), 3, [], 0) := rfl
theorem f149_84 : zF 149 84 = some (.iload 4, 2, [], 0) := rfl
theorem f149_86 : zF 149 86 = some (.ireturn, 1, [0], 0) := rfl
