theorem dX0_init_0 : decode cX0_init 0 = .ok (.aload_n 0, 1) := by decide +kernel
theorem dX0_init_1 : decode cX0_init 1 = .ok (.invokespecial 3, 3) := by decide +kernel
theorem dX0_init_4 : decode cX0_init 4 = .ok (.aload_n 0, 1) := by decide +kernel
theorem dX0_init_5 : decode cX0_init 5 = .ok (.bipush 12, 2) := by decide +kernel
theorem dX0_init_7 : decode cX0_init 7 = .ok (.newarray .int, 2) := by decide +kernel
theorem dX0_init_9 : decode cX0_init 9 = .ok (.putfield 9, 3) := by decide +kernel
theorem dX0_init_12 : decode cX0_init 12 = .ok (.aload_n 0, 1) := by decide +kernel
theorem dX0_init_13 : decode cX0_init 13 = .ok (.bipush 12, 2) := by decide +kernel
theorem dX0_init_15 : decode cX0_init 15 = .ok (.newarray .long, 2) := by decide +kernel
theorem dX0_init_17 : decode cX0_init 17 = .ok (.putfield 15, 3) := by decide +kernel
theorem dX0_init_20 : decode cX0_init 20 = .ok (.aload_n 0, 1) := by decide +kernel
theorem dX0_init_21 : decode cX0_init 21 = .ok (.bipush 12, 2) := by decide +kernel
theorem dX0_init_23 : decode cX0_init 23 = .ok (.newarray .boolean, 2) := by decide +kernel
theorem dX0_init_25 : decode cX0_init 25 = .ok (.putfield 19, 3) := by decide +kernel
theorem dX0_init_28 : decode cX0_init 28 = .ok (.aload_n 0, 1) := by decide +kernel
theorem dX0_init_29 : decode cX0_init 29 = .ok (.iconst 0, 1) := by decide +kernel
theorem dX0_init_30 : decode cX0_init 30 = .ok (.putfield 23, 3) := by decide +kernel
theorem dX0_init_33 : decode cX0_init 33 = .ok (.return_, 1) := by decide +kernel
theorem dX0_add_0 : decode cX0_add 0 = .ok (.aload_n 0, 1) := by decide +kernel
theorem dX0_add_1 : decode cX0_add 1 = .ok (.getfield 9, 3) := by decide +kernel
theorem dX0_add_4 : decode cX0_add 4 = .ok (.aload_n 0, 1) := by decide +kernel
theorem dX0_add_5 : decode cX0_add 5 = .ok (.getfield 23, 3) := by decide +kernel
theorem dX0_add_8 : decode cX0_add 8 = .ok (.iload_n 1, 1) := by decide +kernel
theorem dX0_add_9 : decode cX0_add 9 = .ok (.iastore, 1) := by decide +kernel
theorem dX0_add_10 : decode cX0_add 10 = .ok (.aload_n 0, 1) := by decide +kernel
theorem dX0_add_11 : decode cX0_add 11 = .ok (.getfield 19, 3) := by decide +kernel
theorem dX0_add_14 : decode cX0_add 14 = .ok (.aload_n 0, 1) := by decide +kernel
theorem dX0_add_15 : decode cX0_add 15 = .ok (.getfield 23, 3) := by decide +kernel
theorem dX0_add_18 : decode cX0_add 18 = .ok (.iconst 1, 1) := by decide +kernel
theorem dX0_add_19 : decode cX0_add 19 = .ok (.bastore, 1) := by decide +kernel
theorem dX0_add_20 : decode cX0_add 20 = .ok (.aload_n 0, 1) := by decide +kernel
theorem dX0_add_21 : decode cX0_add 21 = .ok (.dup, 1) := by decide +kernel
theorem dX0_add_22 : decode cX0_add 22 = .ok (.getfield 23, 3) := by decide +kernel
theorem dX0_add_25 : decode cX0_add 25 = .ok (.iconst 1, 1) := by decide +kernel
theorem dX0_add_26 : decode cX0_add 26 = .ok (.iadd, 1) := by decide +kernel
theorem dX0_add_27 : decode cX0_add 27 = .ok (.putfield 23, 3) := by decide +kernel
theorem dX0_add_30 : decode cX0_add 30 = .ok (.aload_n 0, 1) := by decide +kernel
theorem dX0_add_31 : decode cX0_add 31 = .ok (.getfield 23, 3) := by decide +kernel
theorem dX0_add_34 : decode cX0_add 34 = .ok (.iconst 1, 1) := by decide +kernel
theorem dX0_add_35 : decode cX0_add 35 = .ok (.isub, 1) := by decide +kernel
theorem dX0_add_36 : decode cX0_add 36 = .ok (.ireturn, 1) := by decide +kernel
theorem dX0_moveBlankets_0 : decode cX0_moveBlankets 0 = .ok (.aload_n 0, 1) := by decide +kernel
theorem dX0_moveBlankets_1 : decode cX0_moveBlankets 1 = .ok (.getfield 9, 3) := by decide +kernel
theorem dX0_moveBlankets_4 : decode cX0_moveBlankets 4 = .ok (.iload_n 1, 1) := by decide +kernel
theorem dX0_moveBlankets_5 : decode cX0_moveBlankets 5 = .ok (.dup2, 1) := by decide +kernel
theorem dX0_moveBlankets_6 : decode cX0_moveBlankets 6 = .ok (.iaload, 1) := by decide +kernel
theorem dX0_moveBlankets_7 : decode cX0_moveBlankets 7 = .ok (.iload_n 3, 1) := by decide +kernel
theorem dX0_moveBlankets_8 : decode cX0_moveBlankets 8 = .ok (.isub, 1) := by decide +kernel
theorem dX0_moveBlankets_9 : decode cX0_moveBlankets 9 = .ok (.iastore, 1) := by decide +kernel
theorem dX0_moveBlankets_10 : decode cX0_moveBlankets 10 = .ok (.aload_n 0, 1) := by decide +kernel
theorem dX0_moveBlankets_11 : decode cX0_moveBlankets 11 = .ok (.getfield 9, 3) := by decide +kernel
theorem dX0_moveBlankets_14 : decode cX0_moveBlankets 14 = .ok (.iload_n 2, 1) := by decide +kernel
theorem dX0_moveBlankets_15 : decode cX0_moveBlankets 15 = .ok (.dup2, 1) := by decide +kernel
theorem dX0_moveBlankets_16 : decode cX0_moveBlankets 16 = .ok (.iaload, 1) := by decide +kernel
theorem dX0_moveBlankets_17 : decode cX0_moveBlankets 17 = .ok (.iload_n 3, 1) := by decide +kernel
theorem dX0_moveBlankets_18 : decode cX0_moveBlankets 18 = .ok (.iadd, 1) := by decide +kernel
theorem dX0_moveBlankets_19 : decode cX0_moveBlankets 19 = .ok (.iastore, 1) := by decide +kernel
theorem dX0_moveBlankets_20 : decode cX0_moveBlankets 20 = .ok (.return_, 1) := by decide +kernel
theorem dX0_placeInRank_0 : decode cX0_placeInRank 0 = .ok (.aload_n 0, 1) := by decide +kernel
theorem dX0_placeInRank_1 : decode cX0_placeInRank 1 = .ok (.getfield 19, 3) := by decide +kernel
theorem dX0_placeInRank_4 : decode cX0_placeInRank 4 = .ok (.iload_n 1, 1) := by decide +kernel
theorem dX0_placeInRank_5 : decode cX0_placeInRank 5 = .ok (.baload, 1) := by decide +kernel
theorem dX0_placeInRank_6 : decode cX0_placeInRank 6 = .ok (.ifCond .ne 5, 3) := by decide +kernel
theorem dX0_placeInRank_9 : decode cX0_placeInRank 9 = .ok (.iconst (-1), 1) := by decide +kernel
theorem dX0_placeInRank_10 : decode cX0_placeInRank 10 = .ok (.ireturn, 1) := by decide +kernel
theorem dX0_placeInRank_11 : decode cX0_placeInRank 11 = .ok (.iconst 0, 1) := by decide +kernel
theorem dX0_placeInRank_12 : decode cX0_placeInRank 12 = .ok (.istore_n 2, 1) := by decide +kernel
theorem dX0_placeInRank_13 : decode cX0_placeInRank 13 = .ok (.iconst 0, 1) := by decide +kernel
theorem dX0_placeInRank_14 : decode cX0_placeInRank 14 = .ok (.istore_n 3, 1) := by decide +kernel
theorem dX0_placeInRank_15 : decode cX0_placeInRank 15 = .ok (.iload_n 3, 1) := by decide +kernel
theorem dX0_placeInRank_16 : decode cX0_placeInRank 16 = .ok (.aload_n 0, 1) := by decide +kernel
theorem dX0_placeInRank_17 : decode cX0_placeInRank 17 = .ok (.getfield 23, 3) := by decide +kernel
theorem dX0_placeInRank_20 : decode cX0_placeInRank 20 = .ok (.if_icmp .ge 70, 3) := by decide +kernel
theorem dX0_placeInRank_23 : decode cX0_placeInRank 23 = .ok (.aload_n 0, 1) := by decide +kernel
theorem dX0_placeInRank_24 : decode cX0_placeInRank 24 = .ok (.getfield 15, 3) := by decide +kernel
theorem dX0_placeInRank_27 : decode cX0_placeInRank 27 = .ok (.iload_n 3, 1) := by decide +kernel
theorem dX0_placeInRank_28 : decode cX0_placeInRank 28 = .ok (.laload, 1) := by decide +kernel
theorem dX0_placeInRank_29 : decode cX0_placeInRank 29 = .ok (.aload_n 0, 1) := by decide +kernel
theorem dX0_placeInRank_30 : decode cX0_placeInRank 30 = .ok (.getfield 15, 3) := by decide +kernel
theorem dX0_placeInRank_33 : decode cX0_placeInRank 33 = .ok (.iload_n 1, 1) := by decide +kernel
theorem dX0_placeInRank_34 : decode cX0_placeInRank 34 = .ok (.laload, 1) := by decide +kernel
theorem dX0_placeInRank_35 : decode cX0_placeInRank 35 = .ok (.lcmp, 1) := by decide +kernel
theorem dX0_placeInRank_36 : decode cX0_placeInRank 36 = .ok (.ifCond .gt 24, 3) := by decide +kernel
theorem dX0_placeInRank_39 : decode cX0_placeInRank 39 = .ok (.aload_n 0, 1) := by decide +kernel
theorem dX0_placeInRank_40 : decode cX0_placeInRank 40 = .ok (.getfield 15, 3) := by decide +kernel
theorem dX0_placeInRank_43 : decode cX0_placeInRank 43 = .ok (.iload_n 3, 1) := by decide +kernel
theorem dX0_placeInRank_44 : decode cX0_placeInRank 44 = .ok (.laload, 1) := by decide +kernel
theorem dX0_placeInRank_45 : decode cX0_placeInRank 45 = .ok (.aload_n 0, 1) := by decide +kernel
theorem dX0_placeInRank_46 : decode cX0_placeInRank 46 = .ok (.getfield 15, 3) := by decide +kernel
theorem dX0_placeInRank_49 : decode cX0_placeInRank 49 = .ok (.iload_n 1, 1) := by decide +kernel
theorem dX0_placeInRank_50 : decode cX0_placeInRank 50 = .ok (.laload, 1) := by decide +kernel
theorem dX0_placeInRank_51 : decode cX0_placeInRank 51 = .ok (.lcmp, 1) := by decide +kernel
theorem dX0_placeInRank_52 : decode cX0_placeInRank 52 = .ok (.ifCond .ne 12, 3) := by decide +kernel
theorem dX0_placeInRank_55 : decode cX0_placeInRank 55 = .ok (.iload_n 3, 1) := by decide +kernel
theorem dX0_placeInRank_56 : decode cX0_placeInRank 56 = .ok (.iload_n 1, 1) := by decide +kernel
theorem dX0_placeInRank_57 : decode cX0_placeInRank 57 = .ok (.if_icmp .ge 7, 3) := by decide +kernel
theorem dX0_placeInRank_60 : decode cX0_placeInRank 60 = .ok (.iconst 1, 1) := by decide +kernel
theorem dX0_placeInRank_61 : decode cX0_placeInRank 61 = .ok (.goto 4, 3) := by decide +kernel
theorem dX0_placeInRank_64 : decode cX0_placeInRank 64 = .ok (.iconst 0, 1) := by decide +kernel
theorem dX0_placeInRank_65 : decode cX0_placeInRank 65 = .ok (.istore 4, 2) := by decide +kernel
theorem dX0_placeInRank_67 : decode cX0_placeInRank 67 = .ok (.aload_n 0, 1) := by decide +kernel
theorem dX0_placeInRank_68 : decode cX0_placeInRank 68 = .ok (.getfield 19, 3) := by decide +kernel
theorem dX0_placeInRank_71 : decode cX0_placeInRank 71 = .ok (.iload_n 3, 1) := by decide +kernel
theorem dX0_placeInRank_72 : decode cX0_placeInRank 72 = .ok (.baload, 1) := by decide +kernel
theorem dX0_placeInRank_73 : decode cX0_placeInRank 73 = .ok (.ifCond .eq 11, 3) := by decide +kernel
theorem dX0_placeInRank_76 : decode cX0_placeInRank 76 = .ok (.iload 4, 2) := by decide +kernel
theorem dX0_placeInRank_78 : decode cX0_placeInRank 78 = .ok (.ifCond .eq 6, 3) := by decide +kernel
theorem dX0_placeInRank_81 : decode cX0_placeInRank 81 = .ok (.iinc 2 1, 3) := by decide +kernel
theorem dX0_placeInRank_84 : decode cX0_placeInRank 84 = .ok (.iinc 3 1, 3) := by decide +kernel
theorem dX0_placeInRank_87 : decode cX0_placeInRank 87 = .ok (.goto (-72), 3) := by decide +kernel
theorem dX0_placeInRank_90 : decode cX0_placeInRank 90 = .ok (.iload_n 2, 1) := by decide +kernel
theorem dX0_placeInRank_91 : decode cX0_placeInRank 91 = .ok (.ireturn, 1) := by decide +kernel
theorem dX1_init_0 : decode cX1_init 0 = .ok (.aload_n 0, 1) := by decide +kernel
theorem dX1_init_1 : decode cX1_init 1 = .ok (.invokespecial 3, 3) := by decide +kernel
theorem dX1_init_4 : decode cX1_init 4 = .ok (.aload_n 0, 1) := by decide +kernel
theorem dX1_init_5 : decode cX1_init 5 = .ok (.bipush 30, 2) := by decide +kernel
theorem dX1_init_7 : decode cX1_init 7 = .ok (.newarray .int, 2) := by decide +kernel
theorem dX1_init_9 : decode cX1_init 9 = .ok (.putfield 9, 3) := by decide +kernel
theorem dX1_init_12 : decode cX1_init 12 = .ok (.aload_n 0, 1) := by decide +kernel
theorem dX1_init_13 : decode cX1_init 13 = .ok (.bipush 30, 2) := by decide +kernel
theorem dX1_init_15 : decode cX1_init 15 = .ok (.newarray .int, 2) := by decide +kernel
theorem dX1_init_17 : decode cX1_init 17 = .ok (.putfield 15, 3) := by decide +kernel
theorem dX1_init_20 : decode cX1_init 20 = .ok (.aload_n 0, 1) := by decide +kernel
theorem dX1_init_21 : decode cX1_init 21 = .ok (.bipush 30, 2) := by decide +kernel
theorem dX1_init_23 : decode cX1_init 23 = .ok (.newarray .int, 2) := by decide +kernel
theorem dX1_init_25 : decode cX1_init 25 = .ok (.putfield 18, 3) := by decide +kernel
theorem dX1_init_28 : decode cX1_init 28 = .ok (.aload_n 0, 1) := by decide +kernel
theorem dX1_init_29 : decode cX1_init 29 = .ok (.iconst 0, 1) := by decide +kernel
theorem dX1_init_30 : decode cX1_init 30 = .ok (.putfield 21, 3) := by decide +kernel
theorem dX1_init_33 : decode cX1_init 33 = .ok (.return_, 1) := by decide +kernel
theorem dX1_add_0 : decode cX1_add 0 = .ok (.aload_n 0, 1) := by decide +kernel
theorem dX1_add_1 : decode cX1_add 1 = .ok (.getfield 9, 3) := by decide +kernel
theorem dX1_add_4 : decode cX1_add 4 = .ok (.aload_n 0, 1) := by decide +kernel
theorem dX1_add_5 : decode cX1_add 5 = .ok (.getfield 21, 3) := by decide +kernel
theorem dX1_add_8 : decode cX1_add 8 = .ok (.iload_n 1, 1) := by decide +kernel
theorem dX1_add_9 : decode cX1_add 9 = .ok (.iastore, 1) := by decide +kernel
theorem dX1_add_10 : decode cX1_add 10 = .ok (.aload_n 0, 1) := by decide +kernel
theorem dX1_add_11 : decode cX1_add 11 = .ok (.getfield 15, 3) := by decide +kernel
theorem dX1_add_14 : decode cX1_add 14 = .ok (.aload_n 0, 1) := by decide +kernel
theorem dX1_add_15 : decode cX1_add 15 = .ok (.getfield 21, 3) := by decide +kernel
theorem dX1_add_18 : decode cX1_add 18 = .ok (.iload_n 2, 1) := by decide +kernel
theorem dX1_add_19 : decode cX1_add 19 = .ok (.iastore, 1) := by decide +kernel
theorem dX1_add_20 : decode cX1_add 20 = .ok (.aload_n 0, 1) := by decide +kernel
theorem dX1_add_21 : decode cX1_add 21 = .ok (.getfield 18, 3) := by decide +kernel
theorem dX1_add_24 : decode cX1_add 24 = .ok (.aload_n 0, 1) := by decide +kernel
theorem dX1_add_25 : decode cX1_add 25 = .ok (.getfield 21, 3) := by decide +kernel
theorem dX1_add_28 : decode cX1_add 28 = .ok (.iload_n 2, 1) := by decide +kernel
theorem dX1_add_29 : decode cX1_add 29 = .ok (.iastore, 1) := by decide +kernel
theorem dX1_add_30 : decode cX1_add 30 = .ok (.aload_n 0, 1) := by decide +kernel
theorem dX1_add_31 : decode cX1_add 31 = .ok (.dup, 1) := by decide +kernel
theorem dX1_add_32 : decode cX1_add 32 = .ok (.getfield 21, 3) := by decide +kernel
theorem dX1_add_35 : decode cX1_add 35 = .ok (.iconst 1, 1) := by decide +kernel
theorem dX1_add_36 : decode cX1_add 36 = .ok (.iadd, 1) := by decide +kernel
theorem dX1_add_37 : decode cX1_add 37 = .ok (.putfield 21, 3) := by decide +kernel
theorem dX1_add_40 : decode cX1_add 40 = .ok (.aload_n 0, 1) := by decide +kernel
theorem dX1_add_41 : decode cX1_add 41 = .ok (.getfield 21, 3) := by decide +kernel
theorem dX1_add_44 : decode cX1_add 44 = .ok (.iconst 1, 1) := by decide +kernel
theorem dX1_add_45 : decode cX1_add 45 = .ok (.isub, 1) := by decide +kernel
theorem dX1_add_46 : decode cX1_add 46 = .ok (.ireturn, 1) := by decide +kernel
theorem dX1_breakOff_0 : decode cX1_breakOff 0 = .ok (.aload_n 0, 1) := by decide +kernel
theorem dX1_breakOff_1 : decode cX1_breakOff 1 = .ok (.getfield 15, 3) := by decide +kernel
theorem dX1_breakOff_4 : decode cX1_breakOff 4 = .ok (.iload_n 1, 1) := by decide +kernel
theorem dX1_breakOff_5 : decode cX1_breakOff 5 = .ok (.iaload, 1) := by decide +kernel
theorem dX1_breakOff_6 : decode cX1_breakOff 6 = .ok (.bipush 8, 2) := by decide +kernel
theorem dX1_breakOff_8 : decode cX1_breakOff 8 = .ok (.idiv, 1) := by decide +kernel
theorem dX1_breakOff_9 : decode cX1_breakOff 9 = .ok (.iconst 1, 1) := by decide +kernel
theorem dX1_breakOff_10 : decode cX1_breakOff 10 = .ok (.invokestatic 25, 3) := by decide +kernel
theorem dX1_breakOff_13 : decode cX1_breakOff 13 = .ok (.istore_n 2, 1) := by decide +kernel
theorem dX1_breakOff_14 : decode cX1_breakOff 14 = .ok (.aload_n 0, 1) := by decide +kernel
theorem dX1_breakOff_15 : decode cX1_breakOff 15 = .ok (.getfield 18, 3) := by decide +kernel
theorem dX1_breakOff_18 : decode cX1_breakOff 18 = .ok (.iload_n 1, 1) := by decide +kernel
theorem dX1_breakOff_19 : decode cX1_breakOff 19 = .ok (.aload_n 0, 1) := by decide +kernel
theorem dX1_breakOff_20 : decode cX1_breakOff 20 = .ok (.getfield 18, 3) := by decide +kernel
theorem dX1_breakOff_23 : decode cX1_breakOff 23 = .ok (.iload_n 1, 1) := by decide +kernel
theorem dX1_breakOff_24 : decode cX1_breakOff 24 = .ok (.iaload, 1) := by decide +kernel
theorem dX1_breakOff_25 : decode cX1_breakOff 25 = .ok (.iload_n 2, 1) := by decide +kernel
theorem dX1_breakOff_26 : decode cX1_breakOff 26 = .ok (.isub, 1) := by decide +kernel
theorem dX1_breakOff_27 : decode cX1_breakOff 27 = .ok (.iconst 0, 1) := by decide +kernel
theorem dX1_breakOff_28 : decode cX1_breakOff 28 = .ok (.invokestatic 25, 3) := by decide +kernel
theorem dX1_breakOff_31 : decode cX1_breakOff 31 = .ok (.iastore, 1) := by decide +kernel
theorem dX1_breakOff_32 : decode cX1_breakOff 32 = .ok (.aload_n 0, 1) := by decide +kernel
theorem dX1_breakOff_33 : decode cX1_breakOff 33 = .ok (.getfield 18, 3) := by decide +kernel
theorem dX1_breakOff_36 : decode cX1_breakOff 36 = .ok (.iload_n 1, 1) := by decide +kernel
theorem dX1_breakOff_37 : decode cX1_breakOff 37 = .ok (.iaload, 1) := by decide +kernel
theorem dX1_breakOff_38 : decode cX1_breakOff 38 = .ok (.ireturn, 1) := by decide +kernel
theorem dX1_inherit_0 : decode cX1_inherit 0 = .ok (.iconst 0, 1) := by decide +kernel
theorem dX1_inherit_1 : decode cX1_inherit 1 = .ok (.istore_n 3, 1) := by decide +kernel
theorem dX1_inherit_2 : decode cX1_inherit 2 = .ok (.iload_n 3, 1) := by decide +kernel
theorem dX1_inherit_3 : decode cX1_inherit 3 = .ok (.aload_n 0, 1) := by decide +kernel
theorem dX1_inherit_4 : decode cX1_inherit 4 = .ok (.getfield 21, 3) := by decide +kernel
theorem dX1_inherit_7 : decode cX1_inherit 7 = .ok (.if_icmp .ge 26, 3) := by decide +kernel
theorem dX1_inherit_10 : decode cX1_inherit 10 = .ok (.aload_n 0, 1) := by decide +kernel
theorem dX1_inherit_11 : decode cX1_inherit 11 = .ok (.getfield 9, 3) := by decide +kernel
theorem dX1_inherit_14 : decode cX1_inherit 14 = .ok (.iload_n 3, 1) := by decide +kernel
theorem dX1_inherit_15 : decode cX1_inherit 15 = .ok (.iaload, 1) := by decide +kernel
theorem dX1_inherit_16 : decode cX1_inherit 16 = .ok (.iload_n 1, 1) := by decide +kernel
theorem dX1_inherit_17 : decode cX1_inherit 17 = .ok (.if_icmp .ne 10, 3) := by decide +kernel
theorem dX1_inherit_20 : decode cX1_inherit 20 = .ok (.aload_n 0, 1) := by decide +kernel
theorem dX1_inherit_21 : decode cX1_inherit 21 = .ok (.getfield 9, 3) := by decide +kernel
theorem dX1_inherit_24 : decode cX1_inherit 24 = .ok (.iload_n 3, 1) := by decide +kernel
theorem dX1_inherit_25 : decode cX1_inherit 25 = .ok (.iload_n 2, 1) := by decide +kernel
theorem dX1_inherit_26 : decode cX1_inherit 26 = .ok (.iastore, 1) := by decide +kernel
theorem dX1_inherit_27 : decode cX1_inherit 27 = .ok (.iinc 3 1, 3) := by decide +kernel
theorem dX1_inherit_30 : decode cX1_inherit 30 = .ok (.goto (-28), 3) := by decide +kernel
theorem dX1_inherit_33 : decode cX1_inherit 33 = .ok (.return_, 1) := by decide +kernel
theorem dX2_init_0 : decode cX2_init 0 = .ok (.aload_n 0, 1) := by decide +kernel
theorem dX2_init_1 : decode cX2_init 1 = .ok (.invokespecial 3, 3) := by decide +kernel
theorem dX2_init_4 : decode cX2_init 4 = .ok (.aload_n 0, 1) := by decide +kernel
theorem dX2_init_5 : decode cX2_init 5 = .ok (.bipush 20, 2) := by decide +kernel
theorem dX2_init_7 : decode cX2_init 7 = .ok (.newarray .int, 2) := by decide +kernel
theorem dX2_init_9 : decode cX2_init 9 = .ok (.putfield 9, 3) := by decide +kernel
theorem dX2_init_12 : decode cX2_init 12 = .ok (.aload_n 0, 1) := by decide +kernel
theorem dX2_init_13 : decode cX2_init 13 = .ok (.bipush 20, 2) := by decide +kernel
theorem dX2_init_15 : decode cX2_init 15 = .ok (.newarray .int, 2) := by decide +kernel
theorem dX2_init_17 : decode cX2_init 17 = .ok (.putfield 15, 3) := by decide +kernel
theorem dX2_init_20 : decode cX2_init 20 = .ok (.aload_n 0, 1) := by decide +kernel
theorem dX2_init_21 : decode cX2_init 21 = .ok (.bipush 20, 2) := by decide +kernel
theorem dX2_init_23 : decode cX2_init 23 = .ok (.newarray .int, 2) := by decide +kernel
theorem dX2_init_25 : decode cX2_init 25 = .ok (.putfield 18, 3) := by decide +kernel
theorem dX2_init_28 : decode cX2_init 28 = .ok (.aload_n 0, 1) := by decide +kernel
theorem dX2_init_29 : decode cX2_init 29 = .ok (.bipush 20, 2) := by decide +kernel
theorem dX2_init_31 : decode cX2_init 31 = .ok (.newarray .int, 2) := by decide +kernel
theorem dX2_init_33 : decode cX2_init 33 = .ok (.putfield 21, 3) := by decide +kernel
theorem dX2_init_36 : decode cX2_init 36 = .ok (.aload_n 0, 1) := by decide +kernel
theorem dX2_init_37 : decode cX2_init 37 = .ok (.bipush 20, 2) := by decide +kernel
theorem dX2_init_39 : decode cX2_init 39 = .ok (.newarray .int, 2) := by decide +kernel
theorem dX2_init_41 : decode cX2_init 41 = .ok (.putfield 24, 3) := by decide +kernel
theorem dX2_init_44 : decode cX2_init 44 = .ok (.aload_n 0, 1) := by decide +kernel
theorem dX2_init_45 : decode cX2_init 45 = .ok (.bipush 20, 2) := by decide +kernel
theorem dX2_init_47 : decode cX2_init 47 = .ok (.newarray .int, 2) := by decide +kernel
theorem dX2_init_49 : decode cX2_init 49 = .ok (.putfield 27, 3) := by decide +kernel
theorem dX2_init_52 : decode cX2_init 52 = .ok (.aload_n 0, 1) := by decide +kernel
theorem dX2_init_53 : decode cX2_init 53 = .ok (.bipush 20, 2) := by decide +kernel
theorem dX2_init_55 : decode cX2_init 55 = .ok (.newarray .int, 2) := by decide +kernel
theorem dX2_init_57 : decode cX2_init 57 = .ok (.putfield 30, 3) := by decide +kernel
theorem dX2_init_60 : decode cX2_init 60 = .ok (.aload_n 0, 1) := by decide +kernel
theorem dX2_init_61 : decode cX2_init 61 = .ok (.iconst 0, 1) := by decide +kernel
theorem dX2_init_62 : decode cX2_init 62 = .ok (.putfield 33, 3) := by decide +kernel
theorem dX2_init_65 : decode cX2_init 65 = .ok (.return_, 1) := by decide +kernel
theorem dX2_add_0 : decode cX2_add 0 = .ok (.aload_n 0, 1) := by decide +kernel
theorem dX2_add_1 : decode cX2_add 1 = .ok (.getfield 9, 3) := by decide +kernel
theorem dX2_add_4 : decode cX2_add 4 = .ok (.aload_n 0, 1) := by decide +kernel
theorem dX2_add_5 : decode cX2_add 5 = .ok (.getfield 33, 3) := by decide +kernel
theorem dX2_add_8 : decode cX2_add 8 = .ok (.iload_n 2, 1) := by decide +kernel
theorem dX2_add_9 : decode cX2_add 9 = .ok (.iastore, 1) := by decide +kernel
theorem dX2_add_10 : decode cX2_add 10 = .ok (.aload_n 0, 1) := by decide +kernel
theorem dX2_add_11 : decode cX2_add 11 = .ok (.getfield 15, 3) := by decide +kernel
theorem dX2_add_14 : decode cX2_add 14 = .ok (.aload_n 0, 1) := by decide +kernel
theorem dX2_add_15 : decode cX2_add 15 = .ok (.getfield 33, 3) := by decide +kernel
theorem dX2_add_18 : decode cX2_add 18 = .ok (.aload_n 1, 1) := by decide +kernel
theorem dX2_add_19 : decode cX2_add 19 = .ok (.getfield 37, 3) := by decide +kernel
theorem dX2_add_22 : decode cX2_add 22 = .ok (.iastore, 1) := by decide +kernel
theorem dX2_add_23 : decode cX2_add 23 = .ok (.aload_n 0, 1) := by decide +kernel
theorem dX2_add_24 : decode cX2_add 24 = .ok (.getfield 18, 3) := by decide +kernel
theorem dX2_add_27 : decode cX2_add 27 = .ok (.aload_n 0, 1) := by decide +kernel
theorem dX2_add_28 : decode cX2_add 28 = .ok (.getfield 33, 3) := by decide +kernel
theorem dX2_add_31 : decode cX2_add 31 = .ok (.aload_n 1, 1) := by decide +kernel
theorem dX2_add_32 : decode cX2_add 32 = .ok (.getfield 41, 3) := by decide +kernel
theorem dX2_add_35 : decode cX2_add 35 = .ok (.iastore, 1) := by decide +kernel
theorem dX2_add_36 : decode cX2_add 36 = .ok (.aload_n 0, 1) := by decide +kernel
theorem dX2_add_37 : decode cX2_add 37 = .ok (.getfield 21, 3) := by decide +kernel
theorem dX2_add_40 : decode cX2_add 40 = .ok (.aload_n 0, 1) := by decide +kernel
theorem dX2_add_41 : decode cX2_add 41 = .ok (.getfield 33, 3) := by decide +kernel
theorem dX2_add_44 : decode cX2_add 44 = .ok (.aload_n 1, 1) := by decide +kernel
theorem dX2_add_45 : decode cX2_add 45 = .ok (.getfield 43, 3) := by decide +kernel
theorem dX2_add_48 : decode cX2_add 48 = .ok (.iastore, 1) := by decide +kernel
theorem dX2_add_49 : decode cX2_add 49 = .ok (.aload_n 0, 1) := by decide +kernel
theorem dX2_add_50 : decode cX2_add 50 = .ok (.getfield 24, 3) := by decide +kernel
theorem dX2_add_53 : decode cX2_add 53 = .ok (.aload_n 0, 1) := by decide +kernel
theorem dX2_add_54 : decode cX2_add 54 = .ok (.getfield 33, 3) := by decide +kernel
theorem dX2_add_57 : decode cX2_add 57 = .ok (.aload_n 1, 1) := by decide +kernel
theorem dX2_add_58 : decode cX2_add 58 = .ok (.getfield 45, 3) := by decide +kernel
theorem dX2_add_61 : decode cX2_add 61 = .ok (.iastore, 1) := by decide +kernel
theorem dX2_add_62 : decode cX2_add 62 = .ok (.aload_n 0, 1) := by decide +kernel
theorem dX2_add_63 : decode cX2_add 63 = .ok (.getfield 27, 3) := by decide +kernel
theorem dX2_add_66 : decode cX2_add 66 = .ok (.aload_n 0, 1) := by decide +kernel
theorem dX2_add_67 : decode cX2_add 67 = .ok (.getfield 33, 3) := by decide +kernel
theorem dX2_add_70 : decode cX2_add 70 = .ok (.aload_n 1, 1) := by decide +kernel
theorem dX2_add_71 : decode cX2_add 71 = .ok (.getfield 47, 3) := by decide +kernel
theorem dX2_add_74 : decode cX2_add 74 = .ok (.iastore, 1) := by decide +kernel
theorem dX2_add_75 : decode cX2_add 75 = .ok (.aload_n 0, 1) := by decide +kernel
theorem dX2_add_76 : decode cX2_add 76 = .ok (.getfield 30, 3) := by decide +kernel
theorem dX2_add_79 : decode cX2_add 79 = .ok (.aload_n 0, 1) := by decide +kernel
theorem dX2_add_80 : decode cX2_add 80 = .ok (.getfield 33, 3) := by decide +kernel
theorem dX2_add_83 : decode cX2_add 83 = .ok (.aload_n 1, 1) := by decide +kernel
theorem dX2_add_84 : decode cX2_add 84 = .ok (.getfield 49, 3) := by decide +kernel
theorem dX2_add_87 : decode cX2_add 87 = .ok (.iastore, 1) := by decide +kernel
theorem dX2_add_88 : decode cX2_add 88 = .ok (.aload_n 0, 1) := by decide +kernel
theorem dX2_add_89 : decode cX2_add 89 = .ok (.dup, 1) := by decide +kernel
theorem dX2_add_90 : decode cX2_add 90 = .ok (.getfield 33, 3) := by decide +kernel
theorem dX2_add_93 : decode cX2_add 93 = .ok (.iconst 1, 1) := by decide +kernel
theorem dX2_add_94 : decode cX2_add 94 = .ok (.iadd, 1) := by decide +kernel
theorem dX2_add_95 : decode cX2_add 95 = .ok (.putfield 33, 3) := by decide +kernel
theorem dX2_add_98 : decode cX2_add 98 = .ok (.aload_n 0, 1) := by decide +kernel
theorem dX2_add_99 : decode cX2_add 99 = .ok (.getfield 33, 3) := by decide +kernel
theorem dX2_add_102 : decode cX2_add 102 = .ok (.iconst 1, 1) := by decide +kernel
theorem dX2_add_103 : decode cX2_add 103 = .ok (.isub, 1) := by decide +kernel
theorem dX2_add_104 : decode cX2_add 104 = .ok (.ireturn, 1) := by decide +kernel
theorem dX2_inForce_0 : decode cX2_inForce 0 = .ok (.iconst (-1), 1) := by decide +kernel
theorem dX2_inForce_1 : decode cX2_inForce 1 = .ok (.istore_n 2, 1) := by decide +kernel
theorem dX2_inForce_2 : decode cX2_inForce 2 = .ok (.iconst 0, 1) := by decide +kernel
theorem dX2_inForce_3 : decode cX2_inForce 3 = .ok (.istore_n 3, 1) := by decide +kernel
theorem dX2_inForce_4 : decode cX2_inForce 4 = .ok (.iload_n 3, 1) := by decide +kernel
theorem dX2_inForce_5 : decode cX2_inForce 5 = .ok (.aload_n 0, 1) := by decide +kernel
theorem dX2_inForce_6 : decode cX2_inForce 6 = .ok (.getfield 33, 3) := by decide +kernel
theorem dX2_inForce_9 : decode cX2_inForce 9 = .ok (.if_icmp .ge 41, 3) := by decide +kernel
theorem dX2_inForce_12 : decode cX2_inForce 12 = .ok (.aload_n 0, 1) := by decide +kernel
theorem dX2_inForce_13 : decode cX2_inForce 13 = .ok (.getfield 9, 3) := by decide +kernel
theorem dX2_inForce_16 : decode cX2_inForce 16 = .ok (.iload_n 3, 1) := by decide +kernel
theorem dX2_inForce_17 : decode cX2_inForce 17 = .ok (.iaload, 1) := by decide +kernel
theorem dX2_inForce_18 : decode cX2_inForce 18 = .ok (.iload_n 1, 1) := by decide +kernel
theorem dX2_inForce_19 : decode cX2_inForce 19 = .ok (.if_icmp .gt 25, 3) := by decide +kernel
theorem dX2_inForce_22 : decode cX2_inForce 22 = .ok (.iload_n 2, 1) := by decide +kernel
theorem dX2_inForce_23 : decode cX2_inForce 23 = .ok (.iconst (-1), 1) := by decide +kernel
theorem dX2_inForce_24 : decode cX2_inForce 24 = .ok (.if_icmp .eq 18, 3) := by decide +kernel
theorem dX2_inForce_27 : decode cX2_inForce 27 = .ok (.aload_n 0, 1) := by decide +kernel
theorem dX2_inForce_28 : decode cX2_inForce 28 = .ok (.getfield 9, 3) := by decide +kernel
theorem dX2_inForce_31 : decode cX2_inForce 31 = .ok (.iload_n 3, 1) := by decide +kernel
theorem dX2_inForce_32 : decode cX2_inForce 32 = .ok (.iaload, 1) := by decide +kernel
theorem dX2_inForce_33 : decode cX2_inForce 33 = .ok (.aload_n 0, 1) := by decide +kernel
theorem dX2_inForce_34 : decode cX2_inForce 34 = .ok (.getfield 9, 3) := by decide +kernel
theorem dX2_inForce_37 : decode cX2_inForce 37 = .ok (.iload_n 2, 1) := by decide +kernel
theorem dX2_inForce_38 : decode cX2_inForce 38 = .ok (.iaload, 1) := by decide +kernel
theorem dX2_inForce_39 : decode cX2_inForce 39 = .ok (.if_icmp .lt 5, 3) := by decide +kernel
theorem dX2_inForce_42 : decode cX2_inForce 42 = .ok (.iload_n 3, 1) := by decide +kernel
theorem dX2_inForce_43 : decode cX2_inForce 43 = .ok (.istore_n 2, 1) := by decide +kernel
theorem dX2_inForce_44 : decode cX2_inForce 44 = .ok (.iinc 3 1, 3) := by decide +kernel
theorem dX2_inForce_47 : decode cX2_inForce 47 = .ok (.goto (-43), 3) := by decide +kernel
theorem dX2_inForce_50 : decode cX2_inForce 50 = .ok (.iload_n 2, 1) := by decide +kernel
theorem dX2_inForce_51 : decode cX2_inForce 51 = .ok (.ireturn, 1) := by decide +kernel
theorem dX2_witnessShare_0 : decode cX2_witnessShare 0 = .ok (.iload_n 1, 1) := by decide +kernel
theorem dX2_witnessShare_1 : decode cX2_witnessShare 1 = .ok (.iconst (-1), 1) := by decide +kernel
theorem dX2_witnessShare_2 : decode cX2_witnessShare 2 = .ok (.if_icmp .ne 7, 3) := by decide +kernel
theorem dX2_witnessShare_5 : decode cX2_witnessShare 5 = .ok (.iconst 0, 1) := by decide +kernel
theorem dX2_witnessShare_6 : decode cX2_witnessShare 6 = .ok (.goto 9, 3) := by decide +kernel
theorem dX2_witnessShare_9 : decode cX2_witnessShare 9 = .ok (.aload_n 0, 1) := by decide +kernel
theorem dX2_witnessShare_10 : decode cX2_witnessShare 10 = .ok (.getfield 30, 3) := by decide +kernel
theorem dX2_witnessShare_13 : decode cX2_witnessShare 13 = .ok (.iload_n 1, 1) := by decide +kernel
theorem dX2_witnessShare_14 : decode cX2_witnessShare 14 = .ok (.iaload, 1) := by decide +kernel
theorem dX2_witnessShare_15 : decode cX2_witnessShare 15 = .ok (.ireturn, 1) := by decide +kernel
theorem dX2_yearsToAnswer_0 : decode cX2_yearsToAnswer 0 = .ok (.iload_n 1, 1) := by decide +kernel
theorem dX2_yearsToAnswer_1 : decode cX2_yearsToAnswer 1 = .ok (.iconst (-1), 1) := by decide +kernel
theorem dX2_yearsToAnswer_2 : decode cX2_yearsToAnswer 2 = .ok (.if_icmp .ne 7, 3) := by decide +kernel
theorem dX2_yearsToAnswer_5 : decode cX2_yearsToAnswer 5 = .ok (.iconst 0, 1) := by decide +kernel
theorem dX2_yearsToAnswer_6 : decode cX2_yearsToAnswer 6 = .ok (.goto 9, 3) := by decide +kernel
theorem dX2_yearsToAnswer_9 : decode cX2_yearsToAnswer 9 = .ok (.aload_n 0, 1) := by decide +kernel
theorem dX2_yearsToAnswer_10 : decode cX2_yearsToAnswer 10 = .ok (.getfield 21, 3) := by decide +kernel
theorem dX2_yearsToAnswer_13 : decode cX2_yearsToAnswer 13 = .ok (.iload_n 1, 1) := by decide +kernel
theorem dX2_yearsToAnswer_14 : decode cX2_yearsToAnswer 14 = .ok (.iaload, 1) := by decide +kernel
theorem dX2_yearsToAnswer_15 : decode cX2_yearsToAnswer 15 = .ok (.ireturn, 1) := by decide +kernel
theorem dX2_askedFor_0 : decode cX2_askedFor 0 = .ok (.iload_n 1, 1) := by decide +kernel
theorem dX2_askedFor_1 : decode cX2_askedFor 1 = .ok (.iconst (-1), 1) := by decide +kernel
theorem dX2_askedFor_2 : decode cX2_askedFor 2 = .ok (.if_icmp .ne 7, 3) := by decide +kernel
theorem dX2_askedFor_5 : decode cX2_askedFor 5 = .ok (.iconst 0, 1) := by decide +kernel
theorem dX2_askedFor_6 : decode cX2_askedFor 6 = .ok (.goto 9, 3) := by decide +kernel
theorem dX2_askedFor_9 : decode cX2_askedFor 9 = .ok (.aload_n 0, 1) := by decide +kernel
theorem dX2_askedFor_10 : decode cX2_askedFor 10 = .ok (.getfield 18, 3) := by decide +kernel
theorem dX2_askedFor_13 : decode cX2_askedFor 13 = .ok (.iload_n 1, 1) := by decide +kernel
theorem dX2_askedFor_14 : decode cX2_askedFor 14 = .ok (.iaload, 1) := by decide +kernel
theorem dX2_askedFor_15 : decode cX2_askedFor 15 = .ok (.istore 4, 2) := by decide +kernel
theorem dX2_askedFor_17 : decode cX2_askedFor 17 = .ok (.iload 4, 2) := by decide +kernel
theorem dX2_askedFor_19 : decode cX2_askedFor 19 = .ok (.ifCond .ne 5, 3) := by decide +kernel
theorem dX2_askedFor_22 : decode cX2_askedFor 22 = .ok (.iconst 0, 1) := by decide +kernel
theorem dX2_askedFor_23 : decode cX2_askedFor 23 = .ok (.ireturn, 1) := by decide +kernel
theorem dX2_askedFor_24 : decode cX2_askedFor 24 = .ok (.lload_n 2, 1) := by decide +kernel
theorem dX2_askedFor_25 : decode cX2_askedFor 25 = .ok (.aload_n 0, 1) := by decide +kernel
theorem dX2_askedFor_26 : decode cX2_askedFor 26 = .ok (.getfield 15, 3) := by decide +kernel
theorem dX2_askedFor_29 : decode cX2_askedFor 29 = .ok (.iload_n 1, 1) := by decide +kernel
theorem dX2_askedFor_30 : decode cX2_askedFor 30 = .ok (.iaload, 1) := by decide +kernel
theorem dX2_askedFor_31 : decode cX2_askedFor 31 = .ok (.i2l, 1) := by decide +kernel
theorem dX2_askedFor_32 : decode cX2_askedFor 32 = .ok (.lmul, 1) := by decide +kernel
theorem dX2_askedFor_33 : decode cX2_askedFor 33 = .ok (.iload 4, 2) := by decide +kernel
theorem dX2_askedFor_35 : decode cX2_askedFor 35 = .ok (.i2l, 1) := by decide +kernel
theorem dX2_askedFor_36 : decode cX2_askedFor 36 = .ok (.ladd, 1) := by decide +kernel
theorem dX2_askedFor_37 : decode cX2_askedFor 37 = .ok (.lconst 1, 1) := by decide +kernel
theorem dX2_askedFor_38 : decode cX2_askedFor 38 = .ok (.lsub, 1) := by decide +kernel
theorem dX2_askedFor_39 : decode cX2_askedFor 39 = .ok (.iload 4, 2) := by decide +kernel
theorem dX2_askedFor_41 : decode cX2_askedFor 41 = .ok (.i2l, 1) := by decide +kernel
theorem dX2_askedFor_42 : decode cX2_askedFor 42 = .ok (.ldiv, 1) := by decide +kernel
theorem dX2_askedFor_43 : decode cX2_askedFor 43 = .ok (.lstore 5, 2) := by decide +kernel
theorem dX2_askedFor_45 : decode cX2_askedFor 45 = .ok (.lload 5, 2) := by decide +kernel
theorem dX2_askedFor_47 : decode cX2_askedFor 47 = .ok (.ldc2_w 51, 3) := by decide +kernel
theorem dX2_askedFor_50 : decode cX2_askedFor 50 = .ok (.invokestatic 53, 3) := by decide +kernel
theorem dX2_askedFor_53 : decode cX2_askedFor 53 = .ok (.l2i, 1) := by decide +kernel
theorem dX2_askedFor_54 : decode cX2_askedFor 54 = .ok (.ireturn, 1) := by decide +kernel
theorem dX2_grown_0 : decode cX2_grown 0 = .ok (.iload_n 1, 1) := by decide +kernel
theorem dX2_grown_1 : decode cX2_grown 1 = .ok (.iconst (-1), 1) := by decide +kernel
theorem dX2_grown_2 : decode cX2_grown 2 = .ok (.if_icmp .ne 7, 3) := by decide +kernel
theorem dX2_grown_5 : decode cX2_grown 5 = .ok (.iconst 0, 1) := by decide +kernel
theorem dX2_grown_6 : decode cX2_grown 6 = .ok (.goto 9, 3) := by decide +kernel
theorem dX2_grown_9 : decode cX2_grown 9 = .ok (.aload_n 0, 1) := by decide +kernel
theorem dX2_grown_10 : decode cX2_grown 10 = .ok (.getfield 27, 3) := by decide +kernel
theorem dX2_grown_13 : decode cX2_grown 13 = .ok (.iload_n 1, 1) := by decide +kernel
theorem dX2_grown_14 : decode cX2_grown 14 = .ok (.iaload, 1) := by decide +kernel
theorem dX2_grown_15 : decode cX2_grown 15 = .ok (.istore_n 3, 1) := by decide +kernel
theorem dX2_grown_16 : decode cX2_grown 16 = .ok (.iload_n 3, 1) := by decide +kernel
theorem dX2_grown_17 : decode cX2_grown 17 = .ok (.ifCond .ne 5, 3) := by decide +kernel
theorem dX2_grown_20 : decode cX2_grown 20 = .ok (.iload_n 2, 1) := by decide +kernel
theorem dX2_grown_21 : decode cX2_grown 21 = .ok (.ireturn, 1) := by decide +kernel
theorem dX2_grown_22 : decode cX2_grown 22 = .ok (.iload_n 2, 1) := by decide +kernel
theorem dX2_grown_23 : decode cX2_grown 23 = .ok (.i2l, 1) := by decide +kernel
theorem dX2_grown_24 : decode cX2_grown 24 = .ok (.aload_n 0, 1) := by decide +kernel
theorem dX2_grown_25 : decode cX2_grown 25 = .ok (.getfield 24, 3) := by decide +kernel
theorem dX2_grown_28 : decode cX2_grown 28 = .ok (.iload_n 1, 1) := by decide +kernel
theorem dX2_grown_29 : decode cX2_grown 29 = .ok (.iaload, 1) := by decide +kernel
theorem dX2_grown_30 : decode cX2_grown 30 = .ok (.i2l, 1) := by decide +kernel
theorem dX2_grown_31 : decode cX2_grown 31 = .ok (.lmul, 1) := by decide +kernel
theorem dX2_grown_32 : decode cX2_grown 32 = .ok (.iload_n 3, 1) := by decide +kernel
theorem dX2_grown_33 : decode cX2_grown 33 = .ok (.i2l, 1) := by decide +kernel
theorem dX2_grown_34 : decode cX2_grown 34 = .ok (.ldiv, 1) := by decide +kernel
theorem dX2_grown_35 : decode cX2_grown 35 = .ok (.lstore 4, 2) := by decide +kernel
theorem dX2_grown_37 : decode cX2_grown 37 = .ok (.iload_n 2, 1) := by decide +kernel
theorem dX2_grown_38 : decode cX2_grown 38 = .ok (.i2l, 1) := by decide +kernel
theorem dX2_grown_39 : decode cX2_grown 39 = .ok (.lload 4, 2) := by decide +kernel
theorem dX2_grown_41 : decode cX2_grown 41 = .ok (.ladd, 1) := by decide +kernel
theorem dX2_grown_42 : decode cX2_grown 42 = .ok (.ldc2_w 51, 3) := by decide +kernel
theorem dX2_grown_45 : decode cX2_grown 45 = .ok (.invokestatic 53, 3) := by decide +kernel
theorem dX2_grown_48 : decode cX2_grown 48 = .ok (.l2i, 1) := by decide +kernel
theorem dX2_grown_49 : decode cX2_grown 49 = .ok (.ireturn, 1) := by decide +kernel
theorem dX3_init_0 : decode cX3_init 0 = .ok (.aload_n 0, 1) := by decide +kernel
theorem dX3_init_1 : decode cX3_init 1 = .ok (.invokespecial 3, 3) := by decide +kernel
theorem dX3_init_4 : decode cX3_init 4 = .ok (.aload_n 0, 1) := by decide +kernel
theorem dX3_init_5 : decode cX3_init 5 = .ok (.sipush 400, 3) := by decide +kernel
theorem dX3_init_8 : decode cX3_init 8 = .ok (.newarray .int, 2) := by decide +kernel
theorem dX3_init_10 : decode cX3_init 10 = .ok (.putfield 9, 3) := by decide +kernel
theorem dX3_init_13 : decode cX3_init 13 = .ok (.aload_n 0, 1) := by decide +kernel
theorem dX3_init_14 : decode cX3_init 14 = .ok (.sipush 400, 3) := by decide +kernel
theorem dX3_init_17 : decode cX3_init 17 = .ok (.newarray .int, 2) := by decide +kernel
theorem dX3_init_19 : decode cX3_init 19 = .ok (.putfield 15, 3) := by decide +kernel
theorem dX3_init_22 : decode cX3_init 22 = .ok (.aload_n 0, 1) := by decide +kernel
theorem dX3_init_23 : decode cX3_init 23 = .ok (.sipush 400, 3) := by decide +kernel
theorem dX3_init_26 : decode cX3_init 26 = .ok (.newarray .int, 2) := by decide +kernel
theorem dX3_init_28 : decode cX3_init 28 = .ok (.putfield 18, 3) := by decide +kernel
theorem dX3_init_31 : decode cX3_init 31 = .ok (.aload_n 0, 1) := by decide +kernel
theorem dX3_init_32 : decode cX3_init 32 = .ok (.sipush 400, 3) := by decide +kernel
theorem dX3_init_35 : decode cX3_init 35 = .ok (.newarray .int, 2) := by decide +kernel
theorem dX3_init_37 : decode cX3_init 37 = .ok (.putfield 21, 3) := by decide +kernel
theorem dX3_init_40 : decode cX3_init 40 = .ok (.aload_n 0, 1) := by decide +kernel
theorem dX3_init_41 : decode cX3_init 41 = .ok (.iconst 0, 1) := by decide +kernel
theorem dX3_init_42 : decode cX3_init 42 = .ok (.putfield 24, 3) := by decide +kernel
theorem dX3_init_45 : decode cX3_init 45 = .ok (.return_, 1) := by decide +kernel
theorem dX3_add_0 : decode cX3_add 0 = .ok (.aload_n 0, 1) := by decide +kernel
theorem dX3_add_1 : decode cX3_add 1 = .ok (.getfield 9, 3) := by decide +kernel
theorem dX3_add_4 : decode cX3_add 4 = .ok (.aload_n 0, 1) := by decide +kernel
theorem dX3_add_5 : decode cX3_add 5 = .ok (.getfield 24, 3) := by decide +kernel
theorem dX3_add_8 : decode cX3_add 8 = .ok (.iload_n 1, 1) := by decide +kernel
theorem dX3_add_9 : decode cX3_add 9 = .ok (.iastore, 1) := by decide +kernel
theorem dX3_add_10 : decode cX3_add 10 = .ok (.aload_n 0, 1) := by decide +kernel
theorem dX3_add_11 : decode cX3_add 11 = .ok (.getfield 15, 3) := by decide +kernel
theorem dX3_add_14 : decode cX3_add 14 = .ok (.aload_n 0, 1) := by decide +kernel
theorem dX3_add_15 : decode cX3_add 15 = .ok (.getfield 24, 3) := by decide +kernel
theorem dX3_add_18 : decode cX3_add 18 = .ok (.iload_n 2, 1) := by decide +kernel
theorem dX3_add_19 : decode cX3_add 19 = .ok (.iastore, 1) := by decide +kernel
theorem dX3_add_20 : decode cX3_add 20 = .ok (.aload_n 0, 1) := by decide +kernel
theorem dX3_add_21 : decode cX3_add 21 = .ok (.getfield 18, 3) := by decide +kernel
theorem dX3_add_24 : decode cX3_add 24 = .ok (.aload_n 0, 1) := by decide +kernel
theorem dX3_add_25 : decode cX3_add 25 = .ok (.getfield 24, 3) := by decide +kernel
theorem dX3_add_28 : decode cX3_add 28 = .ok (.iload_n 3, 1) := by decide +kernel
theorem dX3_add_29 : decode cX3_add 29 = .ok (.iastore, 1) := by decide +kernel
theorem dX3_add_30 : decode cX3_add 30 = .ok (.aload_n 0, 1) := by decide +kernel
theorem dX3_add_31 : decode cX3_add 31 = .ok (.getfield 21, 3) := by decide +kernel
theorem dX3_add_34 : decode cX3_add 34 = .ok (.aload_n 0, 1) := by decide +kernel
theorem dX3_add_35 : decode cX3_add 35 = .ok (.getfield 24, 3) := by decide +kernel
theorem dX3_add_38 : decode cX3_add 38 = .ok (.iload 4, 2) := by decide +kernel
theorem dX3_add_40 : decode cX3_add 40 = .ok (.iastore, 1) := by decide +kernel
theorem dX3_add_41 : decode cX3_add 41 = .ok (.aload_n 0, 1) := by decide +kernel
theorem dX3_add_42 : decode cX3_add 42 = .ok (.dup, 1) := by decide +kernel
theorem dX3_add_43 : decode cX3_add 43 = .ok (.getfield 24, 3) := by decide +kernel
theorem dX3_add_46 : decode cX3_add 46 = .ok (.iconst 1, 1) := by decide +kernel
theorem dX3_add_47 : decode cX3_add 47 = .ok (.iadd, 1) := by decide +kernel
theorem dX3_add_48 : decode cX3_add 48 = .ok (.putfield 24, 3) := by decide +kernel
theorem dX3_add_51 : decode cX3_add 51 = .ok (.aload_n 0, 1) := by decide +kernel
theorem dX3_add_52 : decode cX3_add 52 = .ok (.getfield 24, 3) := by decide +kernel
theorem dX3_add_55 : decode cX3_add 55 = .ok (.iconst 1, 1) := by decide +kernel
theorem dX3_add_56 : decode cX3_add 56 = .ok (.isub, 1) := by decide +kernel
theorem dX3_add_57 : decode cX3_add 57 = .ok (.ireturn, 1) := by decide +kernel
theorem dX3_room_0 : decode cX3_room 0 = .ok (.sipush 400, 3) := by decide +kernel
theorem dX3_room_3 : decode cX3_room 3 = .ok (.aload_n 0, 1) := by decide +kernel
theorem dX3_room_4 : decode cX3_room 4 = .ok (.getfield 24, 3) := by decide +kernel
theorem dX3_room_7 : decode cX3_room 7 = .ok (.isub, 1) := by decide +kernel
theorem dX3_room_8 : decode cX3_room 8 = .ok (.ireturn, 1) := by decide +kernel
theorem dX3_isLoan_0 : decode cX3_isLoan 0 = .ok (.aload_n 0, 1) := by decide +kernel
theorem dX3_isLoan_1 : decode cX3_isLoan 1 = .ok (.getfield 21, 3) := by decide +kernel
theorem dX3_isLoan_4 : decode cX3_isLoan 4 = .ok (.iload_n 1, 1) := by decide +kernel
theorem dX3_isLoan_5 : decode cX3_isLoan 5 = .ok (.iaload, 1) := by decide +kernel
theorem dX3_isLoan_6 : decode cX3_isLoan 6 = .ok (.iconst (-1), 1) := by decide +kernel
theorem dX3_isLoan_7 : decode cX3_isLoan 7 = .ok (.if_icmp .ne 7, 3) := by decide +kernel
theorem dX3_isLoan_10 : decode cX3_isLoan 10 = .ok (.iconst 1, 1) := by decide +kernel
theorem dX3_isLoan_11 : decode cX3_isLoan 11 = .ok (.goto 4, 3) := by decide +kernel
theorem dX3_isLoan_14 : decode cX3_isLoan 14 = .ok (.iconst 0, 1) := by decide +kernel
theorem dX3_isLoan_15 : decode cX3_isLoan 15 = .ok (.ireturn, 1) := by decide +kernel
theorem dX3_open_0 : decode cX3_open 0 = .ok (.iconst 0, 1) := by decide +kernel
theorem dX3_open_1 : decode cX3_open 1 = .ok (.istore_n 1, 1) := by decide +kernel
theorem dX3_open_2 : decode cX3_open 2 = .ok (.iconst 0, 1) := by decide +kernel
theorem dX3_open_3 : decode cX3_open 3 = .ok (.istore_n 2, 1) := by decide +kernel
theorem dX3_open_4 : decode cX3_open 4 = .ok (.iload_n 2, 1) := by decide +kernel
theorem dX3_open_5 : decode cX3_open 5 = .ok (.aload_n 0, 1) := by decide +kernel
theorem dX3_open_6 : decode cX3_open 6 = .ok (.getfield 24, 3) := by decide +kernel
theorem dX3_open_9 : decode cX3_open 9 = .ok (.if_icmp .ge 21, 3) := by decide +kernel
theorem dX3_open_12 : decode cX3_open 12 = .ok (.aload_n 0, 1) := by decide +kernel
theorem dX3_open_13 : decode cX3_open 13 = .ok (.getfield 18, 3) := by decide +kernel
theorem dX3_open_16 : decode cX3_open 16 = .ok (.iload_n 2, 1) := by decide +kernel
theorem dX3_open_17 : decode cX3_open 17 = .ok (.iaload, 1) := by decide +kernel
theorem dX3_open_18 : decode cX3_open 18 = .ok (.ifCond .le 6, 3) := by decide +kernel
theorem dX3_open_21 : decode cX3_open 21 = .ok (.iinc 1 1, 3) := by decide +kernel
theorem dX3_open_24 : decode cX3_open 24 = .ok (.iinc 2 1, 3) := by decide +kernel
theorem dX3_open_27 : decode cX3_open 27 = .ok (.goto (-23), 3) := by decide +kernel
theorem dX3_open_30 : decode cX3_open 30 = .ok (.iload_n 1, 1) := by decide +kernel
theorem dX3_open_31 : decode cX3_open 31 = .ok (.ireturn, 1) := by decide +kernel
set_option maxRecDepth 20000 in
theorem ggX3_overdue_X3_isLoan : GoodIn wsX3_overdue wsX3_isLoan := goodIn_r _ [8, 3, 9, 10, 11, 12, 13] (by decide +kernel) (by decide +kernel)
set_option maxRecDepth 20000 in
theorem gX3_overdue_X3_isLoan : GoodIn wsX3_overdue (wsV RX3 28 RX3 yX3_isLoan wsX3_isLoan) := goodIn_app (goodIn_of _ (by decide +kernel)) ggX3_overdue_X3_isLoan
theorem dX3_overdue_0 : decode cX3_overdue 0 = .ok (.iconst 0, 1) := by decide +kernel
theorem dX3_overdue_1 : decode cX3_overdue 1 = .ok (.istore_n 3, 1) := by decide +kernel
theorem dX3_overdue_2 : decode cX3_overdue 2 = .ok (.iconst 0, 1) := by decide +kernel
theorem dX3_overdue_3 : decode cX3_overdue 3 = .ok (.istore 4, 2) := by decide +kernel
theorem dX3_overdue_5 : decode cX3_overdue 5 = .ok (.iload 4, 2) := by decide +kernel
theorem dX3_overdue_7 : decode cX3_overdue 7 = .ok (.aload_n 0, 1) := by decide +kernel
theorem dX3_overdue_8 : decode cX3_overdue 8 = .ok (.getfield 24, 3) := by decide +kernel
theorem dX3_overdue_11 : decode cX3_overdue 11 = .ok (.if_icmp .ge 50, 3) := by decide +kernel
theorem dX3_overdue_14 : decode cX3_overdue 14 = .ok (.aload_n 0, 1) := by decide +kernel
theorem dX3_overdue_15 : decode cX3_overdue 15 = .ok (.getfield 18, 3) := by decide +kernel
theorem dX3_overdue_18 : decode cX3_overdue 18 = .ok (.iload 4, 2) := by decide +kernel
theorem dX3_overdue_20 : decode cX3_overdue 20 = .ok (.iaload, 1) := by decide +kernel
theorem dX3_overdue_21 : decode cX3_overdue 21 = .ok (.ifCond .le 34, 3) := by decide +kernel
theorem dX3_overdue_24 : decode cX3_overdue 24 = .ok (.aload_n 0, 1) := by decide +kernel
theorem dX3_overdue_25 : decode cX3_overdue 25 = .ok (.iload 4, 2) := by decide +kernel
theorem dX3_overdue_27 : decode cX3_overdue 27 = .ok (.invokevirtual 28, 3) := by decide +kernel
theorem dX3_overdue_30 : decode cX3_overdue 30 = .ok (.ifCond .ne 25, 3) := by decide +kernel
theorem dX3_overdue_33 : decode cX3_overdue 33 = .ok (.aload_n 0, 1) := by decide +kernel
theorem dX3_overdue_34 : decode cX3_overdue 34 = .ok (.getfield 21, 3) := by decide +kernel
theorem dX3_overdue_37 : decode cX3_overdue 37 = .ok (.iload 4, 2) := by decide +kernel
theorem dX3_overdue_39 : decode cX3_overdue 39 = .ok (.iaload, 1) := by decide +kernel
theorem dX3_overdue_40 : decode cX3_overdue 40 = .ok (.iload_n 2, 1) := by decide +kernel
theorem dX3_overdue_41 : decode cX3_overdue 41 = .ok (.if_icmp .ge 14, 3) := by decide +kernel
theorem dX3_overdue_44 : decode cX3_overdue 44 = .ok (.iload_n 3, 1) := by decide +kernel
theorem dX3_overdue_45 : decode cX3_overdue 45 = .ok (.iload_n 1, 1) := by decide +kernel
theorem dX3_overdue_46 : decode cX3_overdue 46 = .ok (.if_icmp .ne 6, 3) := by decide +kernel
theorem dX3_overdue_49 : decode cX3_overdue 49 = .ok (.iload 4, 2) := by decide +kernel
theorem dX3_overdue_51 : decode cX3_overdue 51 = .ok (.ireturn, 1) := by decide +kernel
theorem dX3_overdue_52 : decode cX3_overdue 52 = .ok (.iinc 3 1, 3) := by decide +kernel
theorem dX3_overdue_55 : decode cX3_overdue 55 = .ok (.iinc 4 1, 3) := by decide +kernel
theorem dX3_overdue_58 : decode cX3_overdue 58 = .ok (.goto (-53), 3) := by decide +kernel
theorem dX3_overdue_61 : decode cX3_overdue 61 = .ok (.iconst (-1), 1) := by decide +kernel
theorem dX3_overdue_62 : decode cX3_overdue 62 = .ok (.ireturn, 1) := by decide +kernel
theorem dX3_isOpenBetween_0 : decode cX3_isOpenBetween 0 = .ok (.aload_n 0, 1) := by decide +kernel
theorem dX3_isOpenBetween_1 : decode cX3_isOpenBetween 1 = .ok (.getfield 18, 3) := by decide +kernel
theorem dX3_isOpenBetween_4 : decode cX3_isOpenBetween 4 = .ok (.iload_n 1, 1) := by decide +kernel
theorem dX3_isOpenBetween_5 : decode cX3_isOpenBetween 5 = .ok (.iaload, 1) := by decide +kernel
theorem dX3_isOpenBetween_6 : decode cX3_isOpenBetween 6 = .ok (.ifCond .le 27, 3) := by decide +kernel
theorem dX3_isOpenBetween_9 : decode cX3_isOpenBetween 9 = .ok (.aload_n 0, 1) := by decide +kernel
theorem dX3_isOpenBetween_10 : decode cX3_isOpenBetween 10 = .ok (.getfield 9, 3) := by decide +kernel
theorem dX3_isOpenBetween_13 : decode cX3_isOpenBetween 13 = .ok (.iload_n 1, 1) := by decide +kernel
theorem dX3_isOpenBetween_14 : decode cX3_isOpenBetween 14 = .ok (.iaload, 1) := by decide +kernel
theorem dX3_isOpenBetween_15 : decode cX3_isOpenBetween 15 = .ok (.iload_n 2, 1) := by decide +kernel
theorem dX3_isOpenBetween_16 : decode cX3_isOpenBetween 16 = .ok (.if_icmp .ne 17, 3) := by decide +kernel
theorem dX3_isOpenBetween_19 : decode cX3_isOpenBetween 19 = .ok (.aload_n 0, 1) := by decide +kernel
theorem dX3_isOpenBetween_20 : decode cX3_isOpenBetween 20 = .ok (.getfield 15, 3) := by decide +kernel
theorem dX3_isOpenBetween_23 : decode cX3_isOpenBetween 23 = .ok (.iload_n 1, 1) := by decide +kernel
theorem dX3_isOpenBetween_24 : decode cX3_isOpenBetween 24 = .ok (.iaload, 1) := by decide +kernel
theorem dX3_isOpenBetween_25 : decode cX3_isOpenBetween 25 = .ok (.iload_n 3, 1) := by decide +kernel
theorem dX3_isOpenBetween_26 : decode cX3_isOpenBetween 26 = .ok (.if_icmp .ne 7, 3) := by decide +kernel
theorem dX3_isOpenBetween_29 : decode cX3_isOpenBetween 29 = .ok (.iconst 1, 1) := by decide +kernel
theorem dX3_isOpenBetween_30 : decode cX3_isOpenBetween 30 = .ok (.goto 4, 3) := by decide +kernel
theorem dX3_isOpenBetween_33 : decode cX3_isOpenBetween 33 = .ok (.iconst 0, 1) := by decide +kernel
theorem dX3_isOpenBetween_34 : decode cX3_isOpenBetween 34 = .ok (.ireturn, 1) := by decide +kernel
set_option maxRecDepth 20000 in
theorem ggX3_owed_X3_isOpenBetween : GoodIn wsX3_owed wsX3_isOpenBetween := goodIn_r _ [7, 2, 8, 9, 10, 11, 12, 13, 14] (by decide +kernel) (by decide +kernel)
set_option maxRecDepth 20000 in
theorem gX3_owed_X3_isOpenBetween : GoodIn wsX3_owed (wsV RX3 32 RX3 yX3_isOpenBetween wsX3_isOpenBetween) := goodIn_app (goodIn_of _ (by decide +kernel)) ggX3_owed_X3_isOpenBetween
theorem dX3_owed_0 : decode cX3_owed 0 = .ok (.lconst 0, 1) := by decide +kernel
theorem dX3_owed_1 : decode cX3_owed 1 = .ok (.lstore_n 3, 1) := by decide +kernel
theorem dX3_owed_2 : decode cX3_owed 2 = .ok (.iconst 0, 1) := by decide +kernel
theorem dX3_owed_3 : decode cX3_owed 3 = .ok (.istore 5, 2) := by decide +kernel
theorem dX3_owed_5 : decode cX3_owed 5 = .ok (.iload 5, 2) := by decide +kernel
theorem dX3_owed_7 : decode cX3_owed 7 = .ok (.aload_n 0, 1) := by decide +kernel
theorem dX3_owed_8 : decode cX3_owed 8 = .ok (.getfield 24, 3) := by decide +kernel
theorem dX3_owed_11 : decode cX3_owed 11 = .ok (.if_icmp .ge 31, 3) := by decide +kernel
theorem dX3_owed_14 : decode cX3_owed 14 = .ok (.aload_n 0, 1) := by decide +kernel
theorem dX3_owed_15 : decode cX3_owed 15 = .ok (.iload 5, 2) := by decide +kernel
theorem dX3_owed_17 : decode cX3_owed 17 = .ok (.iload_n 1, 1) := by decide +kernel
theorem dX3_owed_18 : decode cX3_owed 18 = .ok (.iload_n 2, 1) := by decide +kernel
theorem dX3_owed_19 : decode cX3_owed 19 = .ok (.invokevirtual 32, 3) := by decide +kernel
theorem dX3_owed_22 : decode cX3_owed 22 = .ok (.ifCond .eq 14, 3) := by decide +kernel
theorem dX3_owed_25 : decode cX3_owed 25 = .ok (.lload_n 3, 1) := by decide +kernel
theorem dX3_owed_26 : decode cX3_owed 26 = .ok (.aload_n 0, 1) := by decide +kernel
theorem dX3_owed_27 : decode cX3_owed 27 = .ok (.getfield 18, 3) := by decide +kernel
theorem dX3_owed_30 : decode cX3_owed 30 = .ok (.iload 5, 2) := by decide +kernel
theorem dX3_owed_32 : decode cX3_owed 32 = .ok (.iaload, 1) := by decide +kernel
theorem dX3_owed_33 : decode cX3_owed 33 = .ok (.i2l, 1) := by decide +kernel
theorem dX3_owed_34 : decode cX3_owed 34 = .ok (.ladd, 1) := by decide +kernel
theorem dX3_owed_35 : decode cX3_owed 35 = .ok (.lstore_n 3, 1) := by decide +kernel
theorem dX3_owed_36 : decode cX3_owed 36 = .ok (.iinc 5 1, 3) := by decide +kernel
theorem dX3_owed_39 : decode cX3_owed 39 = .ok (.goto (-34), 3) := by decide +kernel
theorem dX3_owed_42 : decode cX3_owed 42 = .ok (.lload_n 3, 1) := by decide +kernel
theorem dX3_owed_43 : decode cX3_owed 43 = .ok (.lreturn, 1) := by decide +kernel
set_option maxRecDepth 20000 in
theorem ggX3_answer_X3_firstToAnswer : GoodIn wsX3_answer wsX3_firstToAnswer := goodIn_r _ [11, 1, 12, 13, 14, 10, 15, 2, 16, 17, 18, 19, 20, 21, 22, 23, 24, 25, 26, 27, 28, 29, 30, 31, 32] (by decide +kernel) (by decide +kernel)
set_option maxRecDepth 20000 in
theorem gX3_answer_X3_firstToAnswer : GoodIn wsX3_answer (wsV RX3 36 RX3 yX3_firstToAnswer wsX3_firstToAnswer) := goodIn_app (goodIn_of _ (by decide +kernel)) ggX3_answer_X3_firstToAnswer
theorem dX3_answer_0 : decode cX3_answer 0 = .ok (.iload_n 3, 1) := by decide +kernel
theorem dX3_answer_1 : decode cX3_answer 1 = .ok (.istore 4, 2) := by decide +kernel
theorem dX3_answer_3 : decode cX3_answer 3 = .ok (.iconst 0, 1) := by decide +kernel
theorem dX3_answer_4 : decode cX3_answer 4 = .ok (.istore 5, 2) := by decide +kernel
theorem dX3_answer_6 : decode cX3_answer 6 = .ok (.iload 5, 2) := by decide +kernel
theorem dX3_answer_8 : decode cX3_answer 8 = .ok (.aload_n 0, 1) := by decide +kernel
theorem dX3_answer_9 : decode cX3_answer 9 = .ok (.getfield 24, 3) := by decide +kernel
theorem dX3_answer_12 : decode cX3_answer 12 = .ok (.if_icmp .ge 64, 3) := by decide +kernel
theorem dX3_answer_15 : decode cX3_answer 15 = .ok (.iload 4, 2) := by decide +kernel
theorem dX3_answer_17 : decode cX3_answer 17 = .ok (.ifCond .le 59, 3) := by decide +kernel
theorem dX3_answer_20 : decode cX3_answer 20 = .ok (.aload_n 0, 1) := by decide +kernel
theorem dX3_answer_21 : decode cX3_answer 21 = .ok (.iload_n 1, 1) := by decide +kernel
theorem dX3_answer_22 : decode cX3_answer 22 = .ok (.iload_n 2, 1) := by decide +kernel
theorem dX3_answer_23 : decode cX3_answer 23 = .ok (.invokevirtual 36, 3) := by decide +kernel
theorem dX3_answer_26 : decode cX3_answer 26 = .ok (.istore 6, 2) := by decide +kernel
theorem dX3_answer_28 : decode cX3_answer 28 = .ok (.iload 6, 2) := by decide +kernel
theorem dX3_answer_30 : decode cX3_answer 30 = .ok (.iconst (-1), 1) := by decide +kernel
theorem dX3_answer_31 : decode cX3_answer 31 = .ok (.if_icmp .ne 6, 3) := by decide +kernel
theorem dX3_answer_34 : decode cX3_answer 34 = .ok (.goto 42, 3) := by decide +kernel
theorem dX3_answer_37 : decode cX3_answer 37 = .ok (.iload 4, 2) := by decide +kernel
theorem dX3_answer_39 : decode cX3_answer 39 = .ok (.aload_n 0, 1) := by decide +kernel
theorem dX3_answer_40 : decode cX3_answer 40 = .ok (.getfield 18, 3) := by decide +kernel
theorem dX3_answer_43 : decode cX3_answer 43 = .ok (.iload 6, 2) := by decide +kernel
theorem dX3_answer_45 : decode cX3_answer 45 = .ok (.iaload, 1) := by decide +kernel
theorem dX3_answer_46 : decode cX3_answer 46 = .ok (.invokestatic 40, 3) := by decide +kernel
theorem dX3_answer_49 : decode cX3_answer 49 = .ok (.istore 7, 2) := by decide +kernel
theorem dX3_answer_51 : decode cX3_answer 51 = .ok (.aload_n 0, 1) := by decide +kernel
theorem dX3_answer_52 : decode cX3_answer 52 = .ok (.getfield 18, 3) := by decide +kernel
theorem dX3_answer_55 : decode cX3_answer 55 = .ok (.iload 6, 2) := by decide +kernel
theorem dX3_answer_57 : decode cX3_answer 57 = .ok (.dup2, 1) := by decide +kernel
theorem dX3_answer_58 : decode cX3_answer 58 = .ok (.iaload, 1) := by decide +kernel
theorem dX3_answer_59 : decode cX3_answer 59 = .ok (.iload 7, 2) := by decide +kernel
theorem dX3_answer_61 : decode cX3_answer 61 = .ok (.isub, 1) := by decide +kernel
theorem dX3_answer_62 : decode cX3_answer 62 = .ok (.iastore, 1) := by decide +kernel
theorem dX3_answer_63 : decode cX3_answer 63 = .ok (.iload 4, 2) := by decide +kernel
theorem dX3_answer_65 : decode cX3_answer 65 = .ok (.iload 7, 2) := by decide +kernel
theorem dX3_answer_67 : decode cX3_answer 67 = .ok (.isub, 1) := by decide +kernel
theorem dX3_answer_68 : decode cX3_answer 68 = .ok (.istore 4, 2) := by decide +kernel
theorem dX3_answer_70 : decode cX3_answer 70 = .ok (.iinc 5 1, 3) := by decide +kernel
theorem dX3_answer_73 : decode cX3_answer 73 = .ok (.goto (-67), 3) := by decide +kernel
theorem dX3_answer_76 : decode cX3_answer 76 = .ok (.iload_n 3, 1) := by decide +kernel
theorem dX3_answer_77 : decode cX3_answer 77 = .ok (.iload 4, 2) := by decide +kernel
theorem dX3_answer_79 : decode cX3_answer 79 = .ok (.isub, 1) := by decide +kernel
theorem dX3_answer_80 : decode cX3_answer 80 = .ok (.ireturn, 1) := by decide +kernel
set_option maxRecDepth 20000 in
theorem ggX3_firstToAnswer_X3_isOpenBetween : GoodIn wsX3_firstToAnswer wsX3_isOpenBetween := goodIn_r _ [6, 7, 8, 9, 20, 21, 22, 23, 24] (by decide +kernel) (by decide +kernel)
set_option maxRecDepth 20000 in
theorem gX3_firstToAnswer_X3_isOpenBetween : GoodIn wsX3_firstToAnswer (wsV RX3 32 RX3 yX3_isOpenBetween wsX3_isOpenBetween) := goodIn_app (goodIn_of _ (by decide +kernel)) ggX3_firstToAnswer_X3_isOpenBetween
set_option maxRecDepth 20000 in
theorem ggX3_firstToAnswer_X3_turn : GoodIn wsX3_firstToAnswer wsX3_turn := goodIn_r _ [13, 14, 15, 16, 17, 18, 5, 19, 20, 21, 22, 23, 24] (by decide +kernel) (by decide +kernel)
set_option maxRecDepth 20000 in
theorem gX3_firstToAnswer_X3_turn : GoodIn wsX3_firstToAnswer (wsV RX3 45 RX3 yX3_turn wsX3_turn) := goodIn_app (goodIn_of _ (by decide +kernel)) ggX3_firstToAnswer_X3_turn
theorem dX3_firstToAnswer_0 : decode cX3_firstToAnswer 0 = .ok (.iconst (-1), 1) := by decide +kernel
theorem dX3_firstToAnswer_1 : decode cX3_firstToAnswer 1 = .ok (.istore_n 3, 1) := by decide +kernel
theorem dX3_firstToAnswer_2 : decode cX3_firstToAnswer 2 = .ok (.iconst 0, 1) := by decide +kernel
theorem dX3_firstToAnswer_3 : decode cX3_firstToAnswer 3 = .ok (.istore 4, 2) := by decide +kernel
theorem dX3_firstToAnswer_5 : decode cX3_firstToAnswer 5 = .ok (.iload 4, 2) := by decide +kernel
theorem dX3_firstToAnswer_7 : decode cX3_firstToAnswer 7 = .ok (.aload_n 0, 1) := by decide +kernel
theorem dX3_firstToAnswer_8 : decode cX3_firstToAnswer 8 = .ok (.getfield 24, 3) := by decide +kernel
theorem dX3_firstToAnswer_11 : decode cX3_firstToAnswer 11 = .ok (.if_icmp .ge 42, 3) := by decide +kernel
theorem dX3_firstToAnswer_14 : decode cX3_firstToAnswer 14 = .ok (.aload_n 0, 1) := by decide +kernel
theorem dX3_firstToAnswer_15 : decode cX3_firstToAnswer 15 = .ok (.iload 4, 2) := by decide +kernel
theorem dX3_firstToAnswer_17 : decode cX3_firstToAnswer 17 = .ok (.iload_n 1, 1) := by decide +kernel
theorem dX3_firstToAnswer_18 : decode cX3_firstToAnswer 18 = .ok (.iload_n 2, 1) := by decide +kernel
theorem dX3_firstToAnswer_19 : decode cX3_firstToAnswer 19 = .ok (.invokevirtual 32, 3) := by decide +kernel
theorem dX3_firstToAnswer_22 : decode cX3_firstToAnswer 22 = .ok (.ifCond .eq 25, 3) := by decide +kernel
theorem dX3_firstToAnswer_25 : decode cX3_firstToAnswer 25 = .ok (.iload_n 3, 1) := by decide +kernel
theorem dX3_firstToAnswer_26 : decode cX3_firstToAnswer 26 = .ok (.iconst (-1), 1) := by decide +kernel
theorem dX3_firstToAnswer_27 : decode cX3_firstToAnswer 27 = .ok (.if_icmp .eq 17, 3) := by decide +kernel
theorem dX3_firstToAnswer_30 : decode cX3_firstToAnswer 30 = .ok (.aload_n 0, 1) := by decide +kernel
theorem dX3_firstToAnswer_31 : decode cX3_firstToAnswer 31 = .ok (.iload 4, 2) := by decide +kernel
theorem dX3_firstToAnswer_33 : decode cX3_firstToAnswer 33 = .ok (.invokevirtual 45, 3) := by decide +kernel
theorem dX3_firstToAnswer_36 : decode cX3_firstToAnswer 36 = .ok (.aload_n 0, 1) := by decide +kernel
theorem dX3_firstToAnswer_37 : decode cX3_firstToAnswer 37 = .ok (.iload_n 3, 1) := by decide +kernel
theorem dX3_firstToAnswer_38 : decode cX3_firstToAnswer 38 = .ok (.invokevirtual 45, 3) := by decide +kernel
theorem dX3_firstToAnswer_41 : decode cX3_firstToAnswer 41 = .ok (.if_icmp .ge 6, 3) := by decide +kernel
theorem dX3_firstToAnswer_44 : decode cX3_firstToAnswer 44 = .ok (.iload 4, 2) := by decide +kernel
theorem dX3_firstToAnswer_46 : decode cX3_firstToAnswer 46 = .ok (.istore_n 3, 1) := by decide +kernel
theorem dX3_firstToAnswer_47 : decode cX3_firstToAnswer 47 = .ok (.iinc 4 1, 3) := by decide +kernel
theorem dX3_firstToAnswer_50 : decode cX3_firstToAnswer 50 = .ok (.goto (-45), 3) := by decide +kernel
theorem dX3_firstToAnswer_53 : decode cX3_firstToAnswer 53 = .ok (.iload_n 3, 1) := by decide +kernel
theorem dX3_firstToAnswer_54 : decode cX3_firstToAnswer 54 = .ok (.ireturn, 1) := by decide +kernel
set_option maxRecDepth 20000 in
theorem ggX3_turn_X3_isLoan : GoodIn wsX3_turn wsX3_isLoan := goodIn_r _ [7, 2, 8, 9, 10, 11, 12] (by decide +kernel) (by decide +kernel)
set_option maxRecDepth 20000 in
theorem gX3_turn_X3_isLoan : GoodIn wsX3_turn (wsV RX3 28 RX3 yX3_isLoan wsX3_isLoan) := goodIn_app (goodIn_of _ (by decide +kernel)) ggX3_turn_X3_isLoan
theorem dX3_turn_0 : decode cX3_turn 0 = .ok (.aload_n 0, 1) := by decide +kernel
theorem dX3_turn_1 : decode cX3_turn 1 = .ok (.iload_n 1, 1) := by decide +kernel
theorem dX3_turn_2 : decode cX3_turn 2 = .ok (.invokevirtual 28, 3) := by decide +kernel
theorem dX3_turn_5 : decode cX3_turn 5 = .ok (.ifCond .eq 8, 3) := by decide +kernel
theorem dX3_turn_8 : decode cX3_turn 8 = .ok (.ldc 49, 2) := by decide +kernel
theorem dX3_turn_10 : decode cX3_turn 10 = .ok (.goto 9, 3) := by decide +kernel
theorem dX3_turn_13 : decode cX3_turn 13 = .ok (.aload_n 0, 1) := by decide +kernel
theorem dX3_turn_14 : decode cX3_turn 14 = .ok (.getfield 21, 3) := by decide +kernel
theorem dX3_turn_17 : decode cX3_turn 17 = .ok (.iload_n 1, 1) := by decide +kernel
theorem dX3_turn_18 : decode cX3_turn 18 = .ok (.iaload, 1) := by decide +kernel
theorem dX3_turn_19 : decode cX3_turn 19 = .ok (.ireturn, 1) := by decide +kernel
set_option maxRecDepth 20000 in
theorem ggX3_inherit_X3_isOpenBetween : GoodIn wsX3_inherit wsX3_isOpenBetween := goodIn_r _ [9, 2, 3, 4, 10, 11, 12, 13, 14] (by decide +kernel) (by decide +kernel)
set_option maxRecDepth 20000 in
theorem gX3_inherit_X3_isOpenBetween : GoodIn wsX3_inherit (wsV RX3 32 RX3 yX3_isOpenBetween wsX3_isOpenBetween) := goodIn_app (goodIn_of _ (by decide +kernel)) ggX3_inherit_X3_isOpenBetween
theorem dX3_inherit_0 : decode cX3_inherit 0 = .ok (.iconst 0, 1) := by decide +kernel
theorem dX3_inherit_1 : decode cX3_inherit 1 = .ok (.istore_n 3, 1) := by decide +kernel
theorem dX3_inherit_2 : decode cX3_inherit 2 = .ok (.iconst 0, 1) := by decide +kernel
theorem dX3_inherit_3 : decode cX3_inherit 3 = .ok (.istore 4, 2) := by decide +kernel
theorem dX3_inherit_5 : decode cX3_inherit 5 = .ok (.iload 4, 2) := by decide +kernel
theorem dX3_inherit_7 : decode cX3_inherit 7 = .ok (.aload_n 0, 1) := by decide +kernel
theorem dX3_inherit_8 : decode cX3_inherit 8 = .ok (.getfield 24, 3) := by decide +kernel
theorem dX3_inherit_11 : decode cX3_inherit 11 = .ok (.if_icmp .ge 109, 3) := by decide +kernel
theorem dX3_inherit_14 : decode cX3_inherit 14 = .ok (.aload_n 0, 1) := by decide +kernel
theorem dX3_inherit_15 : decode cX3_inherit 15 = .ok (.iload 4, 2) := by decide +kernel
theorem dX3_inherit_17 : decode cX3_inherit 17 = .ok (.iload_n 1, 1) := by decide +kernel
theorem dX3_inherit_18 : decode cX3_inherit 18 = .ok (.iload_n 2, 1) := by decide +kernel
theorem dX3_inherit_19 : decode cX3_inherit 19 = .ok (.invokevirtual 32, 3) := by decide +kernel
theorem dX3_inherit_22 : decode cX3_inherit 22 = .ok (.ifCond .ne 14, 3) := by decide +kernel
theorem dX3_inherit_25 : decode cX3_inherit 25 = .ok (.aload_n 0, 1) := by decide +kernel
theorem dX3_inherit_26 : decode cX3_inherit 26 = .ok (.iload 4, 2) := by decide +kernel
theorem dX3_inherit_28 : decode cX3_inherit 28 = .ok (.iload_n 2, 1) := by decide +kernel
theorem dX3_inherit_29 : decode cX3_inherit 29 = .ok (.iload_n 1, 1) := by decide +kernel
theorem dX3_inherit_30 : decode cX3_inherit 30 = .ok (.invokevirtual 32, 3) := by decide +kernel
theorem dX3_inherit_33 : decode cX3_inherit 33 = .ok (.ifCond .eq 14, 3) := by decide +kernel
theorem dX3_inherit_36 : decode cX3_inherit 36 = .ok (.aload_n 0, 1) := by decide +kernel
theorem dX3_inherit_37 : decode cX3_inherit 37 = .ok (.getfield 18, 3) := by decide +kernel
theorem dX3_inherit_40 : decode cX3_inherit 40 = .ok (.iload 4, 2) := by decide +kernel
theorem dX3_inherit_42 : decode cX3_inherit 42 = .ok (.iconst 0, 1) := by decide +kernel
theorem dX3_inherit_43 : decode cX3_inherit 43 = .ok (.iastore, 1) := by decide +kernel
theorem dX3_inherit_44 : decode cX3_inherit 44 = .ok (.goto 70, 3) := by decide +kernel
theorem dX3_inherit_47 : decode cX3_inherit 47 = .ok (.aload_n 0, 1) := by decide +kernel
theorem dX3_inherit_48 : decode cX3_inherit 48 = .ok (.getfield 18, 3) := by decide +kernel
theorem dX3_inherit_51 : decode cX3_inherit 51 = .ok (.iload 4, 2) := by decide +kernel
theorem dX3_inherit_53 : decode cX3_inherit 53 = .ok (.iaload, 1) := by decide +kernel
theorem dX3_inherit_54 : decode cX3_inherit 54 = .ok (.ifCond .le 28, 3) := by decide +kernel
theorem dX3_inherit_57 : decode cX3_inherit 57 = .ok (.aload_n 0, 1) := by decide +kernel
theorem dX3_inherit_58 : decode cX3_inherit 58 = .ok (.getfield 9, 3) := by decide +kernel
theorem dX3_inherit_61 : decode cX3_inherit 61 = .ok (.iload 4, 2) := by decide +kernel
theorem dX3_inherit_63 : decode cX3_inherit 63 = .ok (.iaload, 1) := by decide +kernel
theorem dX3_inherit_64 : decode cX3_inherit 64 = .ok (.iload_n 1, 1) := by decide +kernel
theorem dX3_inherit_65 : decode cX3_inherit 65 = .ok (.if_icmp .ne 17, 3) := by decide +kernel
theorem dX3_inherit_68 : decode cX3_inherit 68 = .ok (.aload_n 0, 1) := by decide +kernel
theorem dX3_inherit_69 : decode cX3_inherit 69 = .ok (.getfield 9, 3) := by decide +kernel
theorem dX3_inherit_72 : decode cX3_inherit 72 = .ok (.iload 4, 2) := by decide +kernel
theorem dX3_inherit_74 : decode cX3_inherit 74 = .ok (.iload_n 2, 1) := by decide +kernel
theorem dX3_inherit_75 : decode cX3_inherit 75 = .ok (.iastore, 1) := by decide +kernel
theorem dX3_inherit_76 : decode cX3_inherit 76 = .ok (.iinc 3 1, 3) := by decide +kernel
theorem dX3_inherit_79 : decode cX3_inherit 79 = .ok (.goto 35, 3) := by decide +kernel
theorem dX3_inherit_82 : decode cX3_inherit 82 = .ok (.aload_n 0, 1) := by decide +kernel
theorem dX3_inherit_83 : decode cX3_inherit 83 = .ok (.getfield 18, 3) := by decide +kernel
theorem dX3_inherit_86 : decode cX3_inherit 86 = .ok (.iload 4, 2) := by decide +kernel
theorem dX3_inherit_88 : decode cX3_inherit 88 = .ok (.iaload, 1) := by decide +kernel
theorem dX3_inherit_89 : decode cX3_inherit 89 = .ok (.ifCond .le 25, 3) := by decide +kernel
theorem dX3_inherit_92 : decode cX3_inherit 92 = .ok (.aload_n 0, 1) := by decide +kernel
theorem dX3_inherit_93 : decode cX3_inherit 93 = .ok (.getfield 15, 3) := by decide +kernel
theorem dX3_inherit_96 : decode cX3_inherit 96 = .ok (.iload 4, 2) := by decide +kernel
theorem dX3_inherit_98 : decode cX3_inherit 98 = .ok (.iaload, 1) := by decide +kernel
theorem dX3_inherit_99 : decode cX3_inherit 99 = .ok (.iload_n 1, 1) := by decide +kernel
theorem dX3_inherit_100 : decode cX3_inherit 100 = .ok (.if_icmp .ne 14, 3) := by decide +kernel
theorem dX3_inherit_103 : decode cX3_inherit 103 = .ok (.aload_n 0, 1) := by decide +kernel
theorem dX3_inherit_104 : decode cX3_inherit 104 = .ok (.getfield 15, 3) := by decide +kernel
theorem dX3_inherit_107 : decode cX3_inherit 107 = .ok (.iload 4, 2) := by decide +kernel
theorem dX3_inherit_109 : decode cX3_inherit 109 = .ok (.iload_n 2, 1) := by decide +kernel
theorem dX3_inherit_110 : decode cX3_inherit 110 = .ok (.iastore, 1) := by decide +kernel
theorem dX3_inherit_111 : decode cX3_inherit 111 = .ok (.iinc 3 1, 3) := by decide +kernel
theorem dX3_inherit_114 : decode cX3_inherit 114 = .ok (.iinc 4 1, 3) := by decide +kernel
theorem dX3_inherit_117 : decode cX3_inherit 117 = .ok (.goto (-112), 3) := by decide +kernel
theorem dX3_inherit_120 : decode cX3_inherit 120 = .ok (.iload_n 3, 1) := by decide +kernel
theorem dX3_inherit_121 : decode cX3_inherit 121 = .ok (.ireturn, 1) := by decide +kernel
theorem dX4_init_0 : decode cX4_init 0 = .ok (.aload_n 0, 1) := by decide +kernel
theorem dX4_init_1 : decode cX4_init 1 = .ok (.invokespecial 3, 3) := by decide +kernel
theorem dX4_init_4 : decode cX4_init 4 = .ok (.aload_n 0, 1) := by decide +kernel
theorem dX4_init_5 : decode cX4_init 5 = .ok (.bipush 12, 2) := by decide +kernel
theorem dX4_init_7 : decode cX4_init 7 = .ok (.newarray .long, 2) := by decide +kernel
theorem dX4_init_9 : decode cX4_init 9 = .ok (.putfield 9, 3) := by decide +kernel
theorem dX4_init_12 : decode cX4_init 12 = .ok (.aload_n 0, 1) := by decide +kernel
theorem dX4_init_13 : decode cX4_init 13 = .ok (.bipush 12, 2) := by decide +kernel
theorem dX4_init_15 : decode cX4_init 15 = .ok (.bipush 12, 2) := by decide +kernel
theorem dX4_init_17 : decode cX4_init 17 = .ok (.multianewarray 15 2, 4) := by decide +kernel
theorem dX4_init_21 : decode cX4_init 21 = .ok (.putfield 17, 3) := by decide +kernel
theorem dX4_init_24 : decode cX4_init 24 = .ok (.aload_n 0, 1) := by decide +kernel
theorem dX4_init_25 : decode cX4_init 25 = .ok (.bipush 12, 2) := by decide +kernel
theorem dX4_init_27 : decode cX4_init 27 = .ok (.newarray .boolean, 2) := by decide +kernel
theorem dX4_init_29 : decode cX4_init 29 = .ok (.putfield 20, 3) := by decide +kernel
theorem dX4_init_32 : decode cX4_init 32 = .ok (.aload_n 0, 1) := by decide +kernel
theorem dX4_init_33 : decode cX4_init 33 = .ok (.bipush 12, 2) := by decide +kernel
theorem dX4_init_35 : decode cX4_init 35 = .ok (.newarray .int, 2) := by decide +kernel
theorem dX4_init_37 : decode cX4_init 37 = .ok (.putfield 24, 3) := by decide +kernel
theorem dX4_init_40 : decode cX4_init 40 = .ok (.aload_n 0, 1) := by decide +kernel
theorem dX4_init_41 : decode cX4_init 41 = .ok (.bipush 12, 2) := by decide +kernel
theorem dX4_init_43 : decode cX4_init 43 = .ok (.newarray .int, 2) := by decide +kernel
theorem dX4_init_45 : decode cX4_init 45 = .ok (.putfield 28, 3) := by decide +kernel
theorem dX4_init_48 : decode cX4_init 48 = .ok (.return_, 1) := by decide +kernel
set_option maxRecDepth 20000 in
theorem ggX4_callIn_X3_isLoan : GoodIn wsX4_callIn wsX3_isLoan := goodIn_r _ [13, 14, 24, 25, 26, 27, 28] (by decide +kernel) (by decide +kernel)
set_option maxRecDepth 20000 in
theorem gX4_callIn_X3_isLoan : GoodIn wsX4_callIn (wsV RX4 42 RX3 yX3_isLoan wsX3_isLoan) := goodIn_app (goodIn_of _ (by decide +kernel)) ggX4_callIn_X3_isLoan
theorem dX4_callIn_0 : decode cX4_callIn 0 = .ok (.iconst 0, 1) := by decide +kernel
theorem dX4_callIn_1 : decode cX4_callIn 1 = .ok (.istore 4, 2) := by decide +kernel
theorem dX4_callIn_3 : decode cX4_callIn 3 = .ok (.iload 4, 2) := by decide +kernel
theorem dX4_callIn_5 : decode cX4_callIn 5 = .ok (.bipush 12, 2) := by decide +kernel
theorem dX4_callIn_7 : decode cX4_callIn 7 = .ok (.if_icmp .ge 51, 3) := by decide +kernel
theorem dX4_callIn_10 : decode cX4_callIn 10 = .ok (.aload_n 0, 1) := by decide +kernel
theorem dX4_callIn_11 : decode cX4_callIn 11 = .ok (.getfield 9, 3) := by decide +kernel
theorem dX4_callIn_14 : decode cX4_callIn 14 = .ok (.iload 4, 2) := by decide +kernel
theorem dX4_callIn_16 : decode cX4_callIn 16 = .ok (.aload_n 1, 1) := by decide +kernel
theorem dX4_callIn_17 : decode cX4_callIn 17 = .ok (.getfield 31, 3) := by decide +kernel
theorem dX4_callIn_20 : decode cX4_callIn 20 = .ok (.iload 4, 2) := by decide +kernel
theorem dX4_callIn_22 : decode cX4_callIn 22 = .ok (.iaload, 1) := by decide +kernel
theorem dX4_callIn_23 : decode cX4_callIn 23 = .ok (.i2l, 1) := by decide +kernel
theorem dX4_callIn_24 : decode cX4_callIn 24 = .ok (.lastore, 1) := by decide +kernel
theorem dX4_callIn_25 : decode cX4_callIn 25 = .ok (.iconst 0, 1) := by decide +kernel
theorem dX4_callIn_26 : decode cX4_callIn 26 = .ok (.istore 5, 2) := by decide +kernel
theorem dX4_callIn_28 : decode cX4_callIn 28 = .ok (.iload 5, 2) := by decide +kernel
theorem dX4_callIn_30 : decode cX4_callIn 30 = .ok (.bipush 12, 2) := by decide +kernel
theorem dX4_callIn_32 : decode cX4_callIn 32 = .ok (.if_icmp .ge 20, 3) := by decide +kernel
theorem dX4_callIn_35 : decode cX4_callIn 35 = .ok (.aload_n 0, 1) := by decide +kernel
theorem dX4_callIn_36 : decode cX4_callIn 36 = .ok (.getfield 17, 3) := by decide +kernel
theorem dX4_callIn_39 : decode cX4_callIn 39 = .ok (.iload 4, 2) := by decide +kernel
theorem dX4_callIn_41 : decode cX4_callIn 41 = .ok (.aaload, 1) := by decide +kernel
theorem dX4_callIn_42 : decode cX4_callIn 42 = .ok (.iload 5, 2) := by decide +kernel
theorem dX4_callIn_44 : decode cX4_callIn 44 = .ok (.lconst 0, 1) := by decide +kernel
theorem dX4_callIn_45 : decode cX4_callIn 45 = .ok (.lastore, 1) := by decide +kernel
theorem dX4_callIn_46 : decode cX4_callIn 46 = .ok (.iinc 5 1, 3) := by decide +kernel
theorem dX4_callIn_49 : decode cX4_callIn 49 = .ok (.goto (-21), 3) := by decide +kernel
theorem dX4_callIn_52 : decode cX4_callIn 52 = .ok (.iinc 4 1, 3) := by decide +kernel
theorem dX4_callIn_55 : decode cX4_callIn 55 = .ok (.goto (-52), 3) := by decide +kernel
theorem dX4_callIn_58 : decode cX4_callIn 58 = .ok (.iconst 0, 1) := by decide +kernel
theorem dX4_callIn_59 : decode cX4_callIn 59 = .ok (.istore 4, 2) := by decide +kernel
theorem dX4_callIn_61 : decode cX4_callIn 61 = .ok (.iload 4, 2) := by decide +kernel
theorem dX4_callIn_63 : decode cX4_callIn 63 = .ok (.aload_n 2, 1) := by decide +kernel
theorem dX4_callIn_64 : decode cX4_callIn 64 = .ok (.getfield 36, 3) := by decide +kernel
theorem dX4_callIn_67 : decode cX4_callIn 67 = .ok (.if_icmp .ge 60, 3) := by decide +kernel
theorem dX4_callIn_70 : decode cX4_callIn 70 = .ok (.aload_n 2, 1) := by decide +kernel
theorem dX4_callIn_71 : decode cX4_callIn 71 = .ok (.iload 4, 2) := by decide +kernel
theorem dX4_callIn_73 : decode cX4_callIn 73 = .ok (.invokevirtual 42, 3) := by decide +kernel
theorem dX4_callIn_76 : decode cX4_callIn 76 = .ok (.ifCond .ne 14, 3) := by decide +kernel
theorem dX4_callIn_79 : decode cX4_callIn 79 = .ok (.aload_n 2, 1) := by decide +kernel
theorem dX4_callIn_80 : decode cX4_callIn 80 = .ok (.getfield 46, 3) := by decide +kernel
theorem dX4_callIn_83 : decode cX4_callIn 83 = .ok (.iload 4, 2) := by decide +kernel
theorem dX4_callIn_85 : decode cX4_callIn 85 = .ok (.iaload, 1) := by decide +kernel
theorem dX4_callIn_86 : decode cX4_callIn 86 = .ok (.iload_n 3, 1) := by decide +kernel
theorem dX4_callIn_87 : decode cX4_callIn 87 = .ok (.if_icmp .gt 34, 3) := by decide +kernel
theorem dX4_callIn_90 : decode cX4_callIn 90 = .ok (.aload_n 0, 1) := by decide +kernel
theorem dX4_callIn_91 : decode cX4_callIn 91 = .ok (.getfield 17, 3) := by decide +kernel
theorem dX4_callIn_94 : decode cX4_callIn 94 = .ok (.aload_n 2, 1) := by decide +kernel
theorem dX4_callIn_95 : decode cX4_callIn 95 = .ok (.getfield 49, 3) := by decide +kernel
theorem dX4_callIn_98 : decode cX4_callIn 98 = .ok (.iload 4, 2) := by decide +kernel
theorem dX4_callIn_100 : decode cX4_callIn 100 = .ok (.iaload, 1) := by decide +kernel
theorem dX4_callIn_101 : decode cX4_callIn 101 = .ok (.aaload, 1) := by decide +kernel
theorem dX4_callIn_102 : decode cX4_callIn 102 = .ok (.aload_n 2, 1) := by decide +kernel
theorem dX4_callIn_103 : decode cX4_callIn 103 = .ok (.getfield 52, 3) := by decide +kernel
theorem dX4_callIn_106 : decode cX4_callIn 106 = .ok (.iload 4, 2) := by decide +kernel
theorem dX4_callIn_108 : decode cX4_callIn 108 = .ok (.iaload, 1) := by decide +kernel
theorem dX4_callIn_109 : decode cX4_callIn 109 = .ok (.dup2, 1) := by decide +kernel
theorem dX4_callIn_110 : decode cX4_callIn 110 = .ok (.laload, 1) := by decide +kernel
theorem dX4_callIn_111 : decode cX4_callIn 111 = .ok (.aload_n 2, 1) := by decide +kernel
theorem dX4_callIn_112 : decode cX4_callIn 112 = .ok (.getfield 55, 3) := by decide +kernel
theorem dX4_callIn_115 : decode cX4_callIn 115 = .ok (.iload 4, 2) := by decide +kernel
theorem dX4_callIn_117 : decode cX4_callIn 117 = .ok (.iaload, 1) := by decide +kernel
theorem dX4_callIn_118 : decode cX4_callIn 118 = .ok (.i2l, 1) := by decide +kernel
theorem dX4_callIn_119 : decode cX4_callIn 119 = .ok (.ladd, 1) := by decide +kernel
theorem dX4_callIn_120 : decode cX4_callIn 120 = .ok (.lastore, 1) := by decide +kernel
theorem dX4_callIn_121 : decode cX4_callIn 121 = .ok (.iinc 4 1, 3) := by decide +kernel
theorem dX4_callIn_124 : decode cX4_callIn 124 = .ok (.goto (-63), 3) := by decide +kernel
theorem dX4_callIn_127 : decode cX4_callIn 127 = .ok (.return_, 1) := by decide +kernel
set_option maxRecDepth 20000 in
theorem ggX4_most_X4_nearestGiver : GoodIn wsX4_most wsX4_nearestGiver := goodIn_r _ [6, 7, 8, 1, 9, 10, 19, 20, 21, 22, 23] (by decide +kernel) (by decide +kernel)
set_option maxRecDepth 20000 in
theorem gX4_most_X4_nearestGiver : GoodIn wsX4_most (wsV RX4 58 RX4 yX4_nearestGiver wsX4_nearestGiver) := goodIn_app (goodIn_of _ (by decide +kernel)) ggX4_most_X4_nearestGiver
set_option maxRecDepth 20000 in
theorem ggX4_most_X4_handOn : GoodIn wsX4_most wsX4_handOn := goodIn_r _ [14, 1, 9, 10, 15, 16, 17, 18, 19, 20, 21, 22, 23] (by decide +kernel) (by decide +kernel)
set_option maxRecDepth 20000 in
theorem gX4_most_X4_handOn : GoodIn wsX4_most (wsV RX4 62 RX4 yX4_handOn wsX4_handOn) := goodIn_app (goodIn_of _ (by decide +kernel)) ggX4_most_X4_handOn
theorem dX4_most_0 : decode cX4_most 0 = .ok (.aload_n 0, 1) := by decide +kernel
theorem dX4_most_1 : decode cX4_most 1 = .ok (.getfield 9, 3) := by decide +kernel
theorem dX4_most_4 : decode cX4_most 4 = .ok (.iload_n 1, 1) := by decide +kernel
theorem dX4_most_5 : decode cX4_most 5 = .ok (.laload, 1) := by decide +kernel
theorem dX4_most_6 : decode cX4_most 6 = .ok (.lstore_n 2, 1) := by decide +kernel
theorem dX4_most_7 : decode cX4_most 7 = .ok (.aload_n 0, 1) := by decide +kernel
theorem dX4_most_8 : decode cX4_most 8 = .ok (.getfield 9, 3) := by decide +kernel
theorem dX4_most_11 : decode cX4_most 11 = .ok (.iload_n 1, 1) := by decide +kernel
theorem dX4_most_12 : decode cX4_most 12 = .ok (.lconst 0, 1) := by decide +kernel
theorem dX4_most_13 : decode cX4_most 13 = .ok (.lastore, 1) := by decide +kernel
theorem dX4_most_14 : decode cX4_most 14 = .ok (.iconst 0, 1) := by decide +kernel
theorem dX4_most_15 : decode cX4_most 15 = .ok (.istore 4, 2) := by decide +kernel
theorem dX4_most_17 : decode cX4_most 17 = .ok (.iload 4, 2) := by decide +kernel
theorem dX4_most_19 : decode cX4_most 19 = .ok (.sipush 10000, 3) := by decide +kernel
theorem dX4_most_22 : decode cX4_most 22 = .ok (.if_icmp .ge 35, 3) := by decide +kernel
theorem dX4_most_25 : decode cX4_most 25 = .ok (.aload_n 0, 1) := by decide +kernel
theorem dX4_most_26 : decode cX4_most 26 = .ok (.iload_n 1, 1) := by decide +kernel
theorem dX4_most_27 : decode cX4_most 27 = .ok (.invokevirtual 58, 3) := by decide +kernel
theorem dX4_most_30 : decode cX4_most 30 = .ok (.istore 5, 2) := by decide +kernel
theorem dX4_most_32 : decode cX4_most 32 = .ok (.iload 5, 2) := by decide +kernel
theorem dX4_most_34 : decode cX4_most 34 = .ok (.iconst (-1), 1) := by decide +kernel
theorem dX4_most_35 : decode cX4_most 35 = .ok (.if_icmp .ne 6, 3) := by decide +kernel
theorem dX4_most_38 : decode cX4_most 38 = .ok (.goto 19, 3) := by decide +kernel
theorem dX4_most_41 : decode cX4_most 41 = .ok (.lload_n 2, 1) := by decide +kernel
theorem dX4_most_42 : decode cX4_most 42 = .ok (.aload_n 0, 1) := by decide +kernel
theorem dX4_most_43 : decode cX4_most 43 = .ok (.iload 5, 2) := by decide +kernel
theorem dX4_most_45 : decode cX4_most 45 = .ok (.iload_n 1, 1) := by decide +kernel
theorem dX4_most_46 : decode cX4_most 46 = .ok (.invokevirtual 62, 3) := by decide +kernel
theorem dX4_most_49 : decode cX4_most 49 = .ok (.ladd, 1) := by decide +kernel
theorem dX4_most_50 : decode cX4_most 50 = .ok (.lstore_n 2, 1) := by decide +kernel
theorem dX4_most_51 : decode cX4_most 51 = .ok (.iinc 4 1, 3) := by decide +kernel
theorem dX4_most_54 : decode cX4_most 54 = .ok (.goto (-37), 3) := by decide +kernel
theorem dX4_most_57 : decode cX4_most 57 = .ok (.lload_n 2, 1) := by decide +kernel
theorem dX4_most_58 : decode cX4_most 58 = .ok (.lreturn, 1) := by decide +kernel
theorem dX4_side_0 : decode cX4_side 0 = .ok (.iconst 0, 1) := by decide +kernel
theorem dX4_side_1 : decode cX4_side 1 = .ok (.istore_n 1, 1) := by decide +kernel
theorem dX4_side_2 : decode cX4_side 2 = .ok (.iconst 0, 1) := by decide +kernel
theorem dX4_side_3 : decode cX4_side 3 = .ok (.istore_n 2, 1) := by decide +kernel
theorem dX4_side_4 : decode cX4_side 4 = .ok (.iload_n 2, 1) := by decide +kernel
theorem dX4_side_5 : decode cX4_side 5 = .ok (.bipush 12, 2) := by decide +kernel
theorem dX4_side_7 : decode cX4_side 7 = .ok (.if_icmp .ge 28, 3) := by decide +kernel
theorem dX4_side_10 : decode cX4_side 10 = .ok (.iload_n 1, 1) := by decide +kernel
theorem dX4_side_11 : decode cX4_side 11 = .ok (.aload_n 0, 1) := by decide +kernel
theorem dX4_side_12 : decode cX4_side 12 = .ok (.getfield 20, 3) := by decide +kernel
theorem dX4_side_15 : decode cX4_side 15 = .ok (.iload_n 2, 1) := by decide +kernel
theorem dX4_side_16 : decode cX4_side 16 = .ok (.baload, 1) := by decide +kernel
theorem dX4_side_17 : decode cX4_side 17 = .ok (.ifCond .eq 9, 3) := by decide +kernel
theorem dX4_side_20 : decode cX4_side 20 = .ok (.iconst 1, 1) := by decide +kernel
