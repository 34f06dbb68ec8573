set_option maxRecDepth 20000 in
theorem ggX7_copper_X7_checkChief : GoodIn wsX7_copper wsX7_checkChief := goodIn_ca (goodIn_r _ [12, 13, 14, 15, 16, 31, 32, 33, 34, 35, 36, 37, 38, 39, 44, 45, 46, 47] (by decide +kernel) (by decide +kernel)) (goodIn_sub (fun _ h => List.mem_cons_of_mem _ (List.mem_append_right _ h)) (by decide +kernel))
set_option maxRecDepth 20000 in
theorem gX7_copper_X7_checkChief : GoodIn wsX7_copper (wsV RX7 140 RX7 yX7_checkChief wsX7_checkChief) := goodIn_app (goodIn_of _ (by decide +kernel)) ggX7_copper_X7_checkChief
set_option maxRecDepth 20000 in
theorem ggX7_copper_X7_checkLives : GoodIn wsX7_copper wsX7_checkLives := goodIn_ca (goodIn_r _ [20, 3, 4, 15, 21, 31, 32, 33, 34, 35, 36, 37, 38, 39, 44, 45, 46, 47] (by decide +kernel) (by decide +kernel)) (goodIn_sub (fun _ h => List.mem_cons_of_mem _ (List.mem_append_left _ (List.mem_append_right _ h))) (by decide +kernel))
set_option maxRecDepth 20000 in
theorem gX7_copper_X7_checkLives : GoodIn wsX7_copper (wsV RX7 145 RX7 yX7_checkLives wsX7_checkLives) := goodIn_app (goodIn_of _ (by decide +kernel)) ggX7_copper_X7_checkLives
set_option maxRecDepth 20000 in
theorem ggX7_copper_X1_add : GoodIn wsX7_copper wsX1_add := goodIn_r _ [26, 27, 28, 29, 30, 40, 41, 42, 43] (by decide +kernel) (by decide +kernel)
set_option maxRecDepth 20000 in
theorem gX7_copper_X1_add : GoodIn wsX7_copper (wsV RX7 151 RX1 yX1_add wsX1_add) := goodIn_app (goodIn_of _ (by decide +kernel)) ggX7_copper_X1_add
theorem dX7_copper_0 : decode cX7_copper 0 = .ok (.aload_n 0, 1) := by decide +kernel
theorem dX7_copper_1 : decode cX7_copper 1 = .ok (.iload_n 1, 1) := by decide +kernel
theorem dX7_copper_2 : decode cX7_copper 2 = .ok (.invokevirtual 140, 3) := by decide +kernel
theorem dX7_copper_5 : decode cX7_copper 5 = .ok (.iload_n 2, 1) := by decide +kernel
theorem dX7_copper_6 : decode cX7_copper 6 = .ok (.iconst 1, 1) := by decide +kernel
theorem dX7_copper_7 : decode cX7_copper 7 = .ok (.if_icmp .lt 9, 3) := by decide +kernel
theorem dX7_copper_10 : decode cX7_copper 10 = .ok (.iload_n 2, 1) := by decide +kernel
theorem dX7_copper_11 : decode cX7_copper 11 = .ok (.ldc 65, 2) := by decide +kernel
theorem dX7_copper_13 : decode cX7_copper 13 = .ok (.if_icmp .le 13, 3) := by decide +kernel
theorem dX7_copper_16 : decode cX7_copper 16 = .ok (.new 66, 3) := by decide +kernel
theorem dX7_copper_19 : decode cX7_copper 19 = .ok (.dup, 1) := by decide +kernel
theorem dX7_copper_20 : decode cX7_copper 20 = .ok (.ldc 143, 2) := by decide +kernel
theorem dX7_copper_22 : decode cX7_copper 22 = .ok (.invokespecial 70, 3) := by decide +kernel
theorem dX7_copper_25 : decode cX7_copper 25 = .ok (.athrow, 1) := by decide +kernel
theorem dX7_copper_26 : decode cX7_copper 26 = .ok (.aload_n 0, 1) := by decide +kernel
theorem dX7_copper_27 : decode cX7_copper 27 = .ok (.iload_n 1, 1) := by decide +kernel
theorem dX7_copper_28 : decode cX7_copper 28 = .ok (.invokevirtual 145, 3) := by decide +kernel
theorem dX7_copper_31 : decode cX7_copper 31 = .ok (.aload_n 0, 1) := by decide +kernel
theorem dX7_copper_32 : decode cX7_copper 32 = .ok (.getfield 47, 3) := by decide +kernel
theorem dX7_copper_35 : decode cX7_copper 35 = .ok (.getfield 148, 3) := by decide +kernel
theorem dX7_copper_38 : decode cX7_copper 38 = .ok (.bipush 30, 2) := by decide +kernel
theorem dX7_copper_40 : decode cX7_copper 40 = .ok (.if_icmp .lt 13, 3) := by decide +kernel
theorem dX7_copper_43 : decode cX7_copper 43 = .ok (.new 76, 3) := by decide +kernel
theorem dX7_copper_46 : decode cX7_copper 46 = .ok (.dup, 1) := by decide +kernel
theorem dX7_copper_47 : decode cX7_copper 47 = .ok (.ldc 149, 2) := by decide +kernel
theorem dX7_copper_49 : decode cX7_copper 49 = .ok (.invokespecial 80, 3) := by decide +kernel
theorem dX7_copper_52 : decode cX7_copper 52 = .ok (.athrow, 1) := by decide +kernel
theorem dX7_copper_53 : decode cX7_copper 53 = .ok (.aload_n 0, 1) := by decide +kernel
theorem dX7_copper_54 : decode cX7_copper 54 = .ok (.getfield 47, 3) := by decide +kernel
theorem dX7_copper_57 : decode cX7_copper 57 = .ok (.iload_n 1, 1) := by decide +kernel
theorem dX7_copper_58 : decode cX7_copper 58 = .ok (.iload_n 2, 1) := by decide +kernel
theorem dX7_copper_59 : decode cX7_copper 59 = .ok (.invokevirtual 151, 3) := by decide +kernel
theorem dX7_copper_62 : decode cX7_copper 62 = .ok (.ireturn, 1) := by decide +kernel
set_option maxRecDepth 20000 in
theorem ggX7_pass_X7_checkCopper : GoodIn wsX7_pass wsX7_checkCopper := goodIn_ca (goodIn_r _ [11, 12, 13, 3, 14, 105, 106, 107, 108, 109, 110, 111, 112, 113, 114, 115, 116, 117] (by decide +kernel) (by decide +kernel)) (goodIn_sub (fun _ h => List.mem_cons_of_mem _ (List.mem_append_left _ (List.mem_append_right _ h))) (by decide +kernel))
set_option maxRecDepth 20000 in
theorem gX7_pass_X7_checkCopper : GoodIn wsX7_pass (wsV RX7 154 RX7 yX7_checkCopper wsX7_checkCopper) := goodIn_app (goodIn_of _ (by decide +kernel)) ggX7_pass_X7_checkCopper
set_option maxRecDepth 20000 in
theorem ggX7_pass_X7_checkChief : GoodIn wsX7_pass wsX7_checkChief := goodIn_ca (goodIn_r _ [18, 12, 13, 19, 20, 105, 106, 107, 108, 109, 110, 111, 112, 113, 118, 119, 120, 121] (by decide +kernel) (by decide +kernel)) (goodIn_sub (fun _ h => List.mem_cons_of_mem _ (List.mem_append_left _ (List.mem_append_right _ h))) (by decide +kernel))
set_option maxRecDepth 20000 in
theorem gX7_pass_X7_checkChief : GoodIn wsX7_pass (wsV RX7 140 RX7 yX7_checkChief wsX7_checkChief) := goodIn_app (goodIn_of _ (by decide +kernel)) ggX7_pass_X7_checkChief
set_option maxRecDepth 20000 in
theorem ggX7_pass_X7_checkLives : GoodIn wsX7_pass wsX7_checkLives := goodIn_ca (goodIn_r _ [24, 25, 26, 19, 27, 105, 106, 107, 108, 109, 110, 111, 112, 113, 118, 119, 120, 121] (by decide +kernel) (by decide +kernel)) (goodIn_sub (fun _ h => List.mem_cons_of_mem _ (List.mem_append_right _ h)) (by decide +kernel))
set_option maxRecDepth 20000 in
theorem gX7_pass_X7_checkLives : GoodIn wsX7_pass (wsV RX7 145 RX7 yX7_checkLives wsX7_checkLives) := goodIn_app (goodIn_of _ (by decide +kernel)) ggX7_pass_X7_checkLives
set_option maxRecDepth 20000 in
theorem ggX7_pass_X7_debtsMadeBy : GoodIn wsX7_pass wsX7_debtsMadeBy := goodIn_r _ [31, 6, 32, 33, 34, 35, 36, 37, 38, 39, 40, 41, 42, 43, 44, 45, 46, 47, 48, 49, 50, 51, 52, 53, 54, 55, 56, 57, 58, 59, 60, 61, 62, 63, 64, 65, 105, 106, 107, 108, 109, 110, 111, 112, 113, 122, 123, 124, 125, 126, 127, 128, 129, 130, 131, 132, 133, 134] (by decide +kernel) (by decide +kernel)
set_option maxRecDepth 20000 in
theorem gX7_pass_X7_debtsMadeBy : GoodIn wsX7_pass (wsV RX7 123 RX7 yX7_debtsMadeBy wsX7_debtsMadeBy) := goodIn_app (goodIn_of _ (by decide +kernel)) ggX7_pass_X7_debtsMadeBy
set_option maxRecDepth 20000 in
theorem ggX7_pass_X3_room : GoodIn wsX7_pass wsX3_room := goodIn_r _ [69, 43, 122, 123, 124, 125, 126] (by decide +kernel) (by decide +kernel)
set_option maxRecDepth 20000 in
theorem gX7_pass_X3_room : GoodIn wsX7_pass (wsV RX7 127 RX3 yX3_room wsX3_room) := goodIn_app (goodIn_of _ (by decide +kernel)) ggX7_pass_X3_room
set_option maxRecDepth 20000 in
theorem ggX7_pass_X7_recordGiven : GoodIn wsX7_pass wsX7_recordGiven := goodIn_r _ [73, 6, 19, 74, 36, 37, 75, 76, 77, 41, 78, 43, 44, 79, 80, 34, 81, 82, 83, 84, 85, 45, 46, 47, 48, 49, 50, 86, 87, 88, 89, 90, 91, 92, 93, 94, 95, 51, 52, 53, 54, 55, 56, 57, 58, 59, 60, 61, 62, 63, 64, 65, 33, 35, 96, 97, 98, 99, 100, 101, 102, 103, 104, 105, 106, 107, 108, 109, 110, 111, 112, 113, 118, 119, 120, 121, 122, 123, 124, 125, 126, 127, 128, 129, 130, 131, 132, 133, 134] (by decide +kernel) (by decide +kernel)
set_option maxRecDepth 20000 in
theorem gX7_pass_X7_recordGiven : GoodIn wsX7_pass (wsV RX7 134 RX7 yX7_recordGiven wsX7_recordGiven) := goodIn_app (goodIn_of _ (by decide +kernel)) ggX7_pass_X7_recordGiven
theorem dX7_pass_0 : decode cX7_pass 0 = .ok (.aload_n 0, 1) := by decide +kernel
theorem dX7_pass_1 : decode cX7_pass 1 = .ok (.iload_n 1, 1) := by decide +kernel
theorem dX7_pass_2 : decode cX7_pass 2 = .ok (.invokevirtual 154, 3) := by decide +kernel
theorem dX7_pass_5 : decode cX7_pass 5 = .ok (.aload_n 0, 1) := by decide +kernel
theorem dX7_pass_6 : decode cX7_pass 6 = .ok (.iload_n 2, 1) := by decide +kernel
theorem dX7_pass_7 : decode cX7_pass 7 = .ok (.invokevirtual 140, 3) := by decide +kernel
theorem dX7_pass_10 : decode cX7_pass 10 = .ok (.aload_n 0, 1) := by decide +kernel
theorem dX7_pass_11 : decode cX7_pass 11 = .ok (.getfield 47, 3) := by decide +kernel
theorem dX7_pass_14 : decode cX7_pass 14 = .ok (.getfield 157, 3) := by decide +kernel
theorem dX7_pass_17 : decode cX7_pass 17 = .ok (.iload_n 1, 1) := by decide +kernel
theorem dX7_pass_18 : decode cX7_pass 18 = .ok (.iaload, 1) := by decide +kernel
theorem dX7_pass_19 : decode cX7_pass 19 = .ok (.istore_n 3, 1) := by decide +kernel
theorem dX7_pass_20 : decode cX7_pass 20 = .ok (.iload_n 3, 1) := by decide +kernel
theorem dX7_pass_21 : decode cX7_pass 21 = .ok (.iload_n 2, 1) := by decide +kernel
theorem dX7_pass_22 : decode cX7_pass 22 = .ok (.if_icmp .ne 13, 3) := by decide +kernel
theorem dX7_pass_25 : decode cX7_pass 25 = .ok (.new 66, 3) := by decide +kernel
theorem dX7_pass_28 : decode cX7_pass 28 = .ok (.dup, 1) := by decide +kernel
theorem dX7_pass_29 : decode cX7_pass 29 = .ok (.ldc 160, 2) := by decide +kernel
theorem dX7_pass_31 : decode cX7_pass 31 = .ok (.invokespecial 70, 3) := by decide +kernel
theorem dX7_pass_34 : decode cX7_pass 34 = .ok (.athrow, 1) := by decide +kernel
theorem dX7_pass_35 : decode cX7_pass 35 = .ok (.aload_n 0, 1) := by decide +kernel
theorem dX7_pass_36 : decode cX7_pass 36 = .ok (.iload_n 2, 1) := by decide +kernel
theorem dX7_pass_37 : decode cX7_pass 37 = .ok (.invokevirtual 145, 3) := by decide +kernel
theorem dX7_pass_40 : decode cX7_pass 40 = .ok (.aload_n 0, 1) := by decide +kernel
theorem dX7_pass_41 : decode cX7_pass 41 = .ok (.getfield 47, 3) := by decide +kernel
theorem dX7_pass_44 : decode cX7_pass 44 = .ok (.getfield 162, 3) := by decide +kernel
theorem dX7_pass_47 : decode cX7_pass 47 = .ok (.iload_n 1, 1) := by decide +kernel
theorem dX7_pass_48 : decode cX7_pass 48 = .ok (.iaload, 1) := by decide +kernel
theorem dX7_pass_49 : decode cX7_pass 49 = .ok (.istore 4, 2) := by decide +kernel
theorem dX7_pass_51 : decode cX7_pass 51 = .ok (.iload 4, 2) := by decide +kernel
theorem dX7_pass_53 : decode cX7_pass 53 = .ok (.ifCond .ne 5, 3) := by decide +kernel
theorem dX7_pass_56 : decode cX7_pass 56 = .ok (.iconst (-1), 1) := by decide +kernel
theorem dX7_pass_57 : decode cX7_pass 57 = .ok (.ireturn, 1) := by decide +kernel
theorem dX7_pass_58 : decode cX7_pass 58 = .ok (.aload_n 0, 1) := by decide +kernel
theorem dX7_pass_59 : decode cX7_pass 59 = .ok (.iload_n 3, 1) := by decide +kernel
theorem dX7_pass_60 : decode cX7_pass 60 = .ok (.iload_n 2, 1) := by decide +kernel
theorem dX7_pass_61 : decode cX7_pass 61 = .ok (.iload 4, 2) := by decide +kernel
theorem dX7_pass_63 : decode cX7_pass 63 = .ok (.invokevirtual 123, 3) := by decide +kernel
theorem dX7_pass_66 : decode cX7_pass 66 = .ok (.aload_n 0, 1) := by decide +kernel
theorem dX7_pass_67 : decode cX7_pass 67 = .ok (.getfield 40, 3) := by decide +kernel
theorem dX7_pass_70 : decode cX7_pass 70 = .ok (.invokevirtual 127, 3) := by decide +kernel
theorem dX7_pass_73 : decode cX7_pass 73 = .ok (.if_icmp .le 6, 3) := by decide +kernel
theorem dX7_pass_76 : decode cX7_pass 76 = .ok (.bipush (-2), 2) := by decide +kernel
theorem dX7_pass_78 : decode cX7_pass 78 = .ok (.ireturn, 1) := by decide +kernel
theorem dX7_pass_79 : decode cX7_pass 79 = .ok (.aload_n 0, 1) := by decide +kernel
theorem dX7_pass_80 : decode cX7_pass 80 = .ok (.getfield 47, 3) := by decide +kernel
theorem dX7_pass_83 : decode cX7_pass 83 = .ok (.getfield 157, 3) := by decide +kernel
theorem dX7_pass_86 : decode cX7_pass 86 = .ok (.iload_n 1, 1) := by decide +kernel
theorem dX7_pass_87 : decode cX7_pass 87 = .ok (.iload_n 2, 1) := by decide +kernel
theorem dX7_pass_88 : decode cX7_pass 88 = .ok (.iastore, 1) := by decide +kernel
theorem dX7_pass_89 : decode cX7_pass 89 = .ok (.aload_n 0, 1) := by decide +kernel
theorem dX7_pass_90 : decode cX7_pass 90 = .ok (.iload_n 3, 1) := by decide +kernel
theorem dX7_pass_91 : decode cX7_pass 91 = .ok (.iload_n 2, 1) := by decide +kernel
theorem dX7_pass_92 : decode cX7_pass 92 = .ok (.iload 4, 2) := by decide +kernel
theorem dX7_pass_94 : decode cX7_pass 94 = .ok (.invokevirtual 134, 3) := by decide +kernel
theorem dX7_pass_97 : decode cX7_pass 97 = .ok (.ireturn, 1) := by decide +kernel
set_option maxRecDepth 20000 in
theorem ggX7_breaks_X7_checkCopper : GoodIn wsX7_breaks wsX7_checkCopper := goodIn_ca (goodIn_r _ [7, 8, 9, 1, 10, 22, 23, 24, 25, 26, 27, 28, 29, 30, 31, 32, 33, 34] (by decide +kernel) (by decide +kernel)) (goodIn_sub (fun _ h => List.mem_cons_of_mem _ (List.mem_append_right _ h)) (by decide +kernel))
set_option maxRecDepth 20000 in
theorem gX7_breaks_X7_checkCopper : GoodIn wsX7_breaks (wsV RX7 154 RX7 yX7_checkCopper wsX7_checkCopper) := goodIn_app (goodIn_of _ (by decide +kernel)) ggX7_breaks_X7_checkCopper
set_option maxRecDepth 20000 in
theorem ggX7_breaks_X1_breakOff : GoodIn wsX7_breaks wsX1_breakOff := goodIn_r _ [15, 16, 17, 18, 19, 20, 21, 31, 32, 33, 34] (by decide +kernel) (by decide +kernel)
set_option maxRecDepth 20000 in
theorem gX7_breaks_X1_breakOff : GoodIn wsX7_breaks (wsV RX7 165 RX1 yX1_breakOff wsX1_breakOff) := goodIn_app (goodIn_of _ (by decide +kernel)) ggX7_breaks_X1_breakOff
theorem dX7_breaks_0 : decode cX7_breaks 0 = .ok (.aload_n 0, 1) := by decide +kernel
theorem dX7_breaks_1 : decode cX7_breaks 1 = .ok (.iload_n 1, 1) := by decide +kernel
theorem dX7_breaks_2 : decode cX7_breaks 2 = .ok (.invokevirtual 154, 3) := by decide +kernel
theorem dX7_breaks_5 : decode cX7_breaks 5 = .ok (.aload_n 0, 1) := by decide +kernel
theorem dX7_breaks_6 : decode cX7_breaks 6 = .ok (.getfield 47, 3) := by decide +kernel
theorem dX7_breaks_9 : decode cX7_breaks 9 = .ok (.getfield 162, 3) := by decide +kernel
theorem dX7_breaks_12 : decode cX7_breaks 12 = .ok (.iload_n 1, 1) := by decide +kernel
theorem dX7_breaks_13 : decode cX7_breaks 13 = .ok (.iaload, 1) := by decide +kernel
theorem dX7_breaks_14 : decode cX7_breaks 14 = .ok (.ifCond .ne 5, 3) := by decide +kernel
theorem dX7_breaks_17 : decode cX7_breaks 17 = .ok (.iconst (-1), 1) := by decide +kernel
theorem dX7_breaks_18 : decode cX7_breaks 18 = .ok (.ireturn, 1) := by decide +kernel
theorem dX7_breaks_19 : decode cX7_breaks 19 = .ok (.aload_n 0, 1) := by decide +kernel
theorem dX7_breaks_20 : decode cX7_breaks 20 = .ok (.getfield 47, 3) := by decide +kernel
theorem dX7_breaks_23 : decode cX7_breaks 23 = .ok (.iload_n 1, 1) := by decide +kernel
theorem dX7_breaks_24 : decode cX7_breaks 24 = .ok (.invokevirtual 165, 3) := by decide +kernel
theorem dX7_breaks_27 : decode cX7_breaks 27 = .ok (.ireturn, 1) := by decide +kernel
set_option maxRecDepth 20000 in
theorem ggX7_copperTold_X7_checkCopper : GoodIn wsX7_copperTold wsX7_checkCopper := goodIn_ca (goodIn_r _ [10, 11, 12, 3, 13, 14, 15, 16, 17, 18, 19, 20, 21, 22, 23, 24, 25, 26] (by decide +kernel) (by decide +kernel)) (goodIn_sub (fun _ h => List.mem_cons_of_mem _ (List.mem_append_right _ h)) (by decide +kernel))
set_option maxRecDepth 20000 in
theorem gX7_copperTold_X7_checkCopper : GoodIn wsX7_copperTold (wsV RX7 154 RX7 yX7_checkCopper wsX7_checkCopper) := goodIn_app (goodIn_of _ (by decide +kernel)) ggX7_copperTold_X7_checkCopper
theorem dX7_copperTold_0 : decode cX7_copperTold 0 = .ok (.aload_n 0, 1) := by decide +kernel
theorem dX7_copperTold_1 : decode cX7_copperTold 1 = .ok (.iload_n 1, 1) := by decide +kernel
theorem dX7_copperTold_2 : decode cX7_copperTold 2 = .ok (.invokevirtual 154, 3) := by decide +kernel
theorem dX7_copperTold_5 : decode cX7_copperTold 5 = .ok (.iload_n 2, 1) := by decide +kernel
theorem dX7_copperTold_6 : decode cX7_copperTold 6 = .ok (.lookupswitch 46 #[(0, 26), (1, 36)], 26) := by decide +kernel
theorem dX7_copperTold_32 : decode cX7_copperTold 32 = .ok (.aload_n 0, 1) := by decide +kernel
theorem dX7_copperTold_33 : decode cX7_copperTold 33 = .ok (.getfield 47, 3) := by decide +kernel
theorem dX7_copperTold_36 : decode cX7_copperTold 36 = .ok (.getfield 157, 3) := by decide +kernel
theorem dX7_copperTold_39 : decode cX7_copperTold 39 = .ok (.iload_n 1, 1) := by decide +kernel
theorem dX7_copperTold_40 : decode cX7_copperTold 40 = .ok (.iaload, 1) := by decide +kernel
theorem dX7_copperTold_41 : decode cX7_copperTold 41 = .ok (.ireturn, 1) := by decide +kernel
theorem dX7_copperTold_42 : decode cX7_copperTold 42 = .ok (.aload_n 0, 1) := by decide +kernel
theorem dX7_copperTold_43 : decode cX7_copperTold 43 = .ok (.getfield 47, 3) := by decide +kernel
theorem dX7_copperTold_46 : decode cX7_copperTold 46 = .ok (.getfield 162, 3) := by decide +kernel
theorem dX7_copperTold_49 : decode cX7_copperTold 49 = .ok (.iload_n 1, 1) := by decide +kernel
theorem dX7_copperTold_50 : decode cX7_copperTold 50 = .ok (.iaload, 1) := by decide +kernel
theorem dX7_copperTold_51 : decode cX7_copperTold 51 = .ok (.ireturn, 1) := by decide +kernel
theorem dX7_copperTold_52 : decode cX7_copperTold 52 = .ok (.new 66, 3) := by decide +kernel
theorem dX7_copperTold_55 : decode cX7_copperTold 55 = .ok (.dup, 1) := by decide +kernel
theorem dX7_copperTold_56 : decode cX7_copperTold 56 = .ok (.ldc 168, 2) := by decide +kernel
theorem dX7_copperTold_58 : decode cX7_copperTold 58 = .ok (.invokespecial 70, 3) := by decide +kernel
theorem dX7_copperTold_61 : decode cX7_copperTold 61 = .ok (.athrow, 1) := by decide +kernel
set_option maxRecDepth 20000 in
theorem ggX7_feast_X7_checkFeast : GoodIn wsX7_feast wsX7_checkFeast := goodIn_ca (goodIn_ca (goodIn_ca (goodIn_r _ [11, 12, 13, 3, 6, 14, 15, 16, 17, 10, 18, 19, 20, 21, 22, 23, 24, 25, 26, 27, 28, 29, 30, 128, 129, 130, 131, 132, 133, 134, 135, 136, 137, 138, 139, 140] (by decide +kernel) (by decide +kernel)) (goodIn_sub (fun _ h => List.mem_cons_of_mem _ (List.mem_append_left _ (List.mem_append_left _ (List.mem_append_right _ h)))) (by decide +kernel))) (goodIn_sub (fun _ h => List.mem_cons_of_mem _ (List.mem_append_left _ (List.mem_append_right _ h))) (by decide +kernel))) (goodIn_sub (fun _ h => List.mem_cons_of_mem _ (List.mem_append_right _ h)) (by decide +kernel))
set_option maxRecDepth 20000 in
theorem gX7_feast_X7_checkFeast : GoodIn wsX7_feast (wsV RX7 170 RX7 yX7_checkFeast wsX7_checkFeast) := goodIn_app (goodIn_of _ (by decide +kernel)) ggX7_feast_X7_checkFeast
set_option maxRecDepth 20000 in
theorem ggX7_feast_X2_inForce : GoodIn wsX7_feast wsX2_inForce := goodIn_r _ [35, 36, 37, 141, 142, 143, 144, 145, 146, 147, 148] (by decide +kernel) (by decide +kernel)
set_option maxRecDepth 20000 in
theorem gX7_feast_X2_inForce : GoodIn wsX7_feast (wsV RX7 112 RX2 yX2_inForce wsX2_inForce) := goodIn_app (goodIn_of _ (by decide +kernel)) ggX7_feast_X2_inForce
set_option maxRecDepth 20000 in
theorem ggX7_feast_X2_witnessShare : GoodIn wsX7_feast wsX2_witnessShare := goodIn_r _ [41, 42, 141, 142, 143, 144, 145, 146, 147, 148] (by decide +kernel) (by decide +kernel)
set_option maxRecDepth 20000 in
theorem gX7_feast_X2_witnessShare : GoodIn wsX7_feast (wsV RX7 174 RX2 yX2_witnessShare wsX2_witnessShare) := goodIn_app (goodIn_of _ (by decide +kernel)) ggX7_feast_X2_witnessShare
set_option maxRecDepth 20000 in
theorem ggX7_feast_J6_bitCount_0f7a4 : GoodIn wsX7_feast wsJ6_bitCount_0f7a4 := goodIn_r _ [46, 47, 48, 49] (by decide +kernel) (by decide +kernel)
set_option maxRecDepth 20000 in
theorem gX7_feast_J6_bitCount_0f7a4 : GoodIn wsX7_feast (va_wsS RX7 177 yJ6_bitCount_0f7a4 wsJ6_bitCount_0f7a4) := goodIn_app (goodIn_of _ (by decide +kernel)) ggX7_feast_J6_bitCount_0f7a4
set_option maxRecDepth 20000 in
theorem ggX7_feast_X7_debtsMadeByFeast : GoodIn wsX7_feast wsX7_debtsMadeByFeast := goodIn_r _ [53, 3, 6, 21, 22, 10, 23, 54, 55, 56, 57, 5, 58, 59, 60, 61, 1, 2, 62, 63, 64, 65, 66, 67, 68, 69, 70, 71, 72, 73, 74, 31, 32, 33, 34, 35, 36, 37, 75, 76, 77, 78, 79, 80, 81, 82, 128, 129, 130, 131, 132, 133, 134, 135, 136, 137, 138, 139, 140, 149, 150, 151, 152, 153, 141, 142, 143, 144, 145, 146, 147, 148] (by decide +kernel) (by decide +kernel)
set_option maxRecDepth 20000 in
theorem gX7_feast_X7_debtsMadeByFeast : GoodIn wsX7_feast (wsV RX7 182 RX7 yX7_debtsMadeByFeast wsX7_debtsMadeByFeast) := goodIn_app (goodIn_of _ (by decide +kernel)) ggX7_feast_X7_debtsMadeByFeast
set_option maxRecDepth 20000 in
theorem ggX7_feast_X3_room : GoodIn wsX7_feast wsX3_room := goodIn_r _ [86, 67, 149, 150, 151, 152, 153] (by decide +kernel) (by decide +kernel)
set_option maxRecDepth 20000 in
theorem gX7_feast_X3_room : GoodIn wsX7_feast (wsV RX7 127 RX3 yX3_room wsX3_room) := goodIn_app (goodIn_of _ (by decide +kernel)) ggX7_feast_X3_room
set_option maxRecDepth 20000 in
theorem ggX7_feast_X7_isIn : GoodIn wsX7_feast wsX7_isIn := goodIn_r _ [23] (by decide +kernel) (by decide +kernel)
set_option maxRecDepth 20000 in
theorem gX7_feast_X7_isIn : GoodIn wsX7_feast (va_wsS RX7 185 yX7_isIn wsX7_isIn) := goodIn_app (goodIn_of _ (by decide +kernel)) ggX7_feast_X7_isIn
set_option maxRecDepth 20000 in
theorem ggX7_feast_X0_moveBlankets : GoodIn wsX7_feast wsX0_moveBlankets := goodIn_r _ [91, 92, 137, 138, 139, 140] (by decide +kernel) (by decide +kernel)
set_option maxRecDepth 20000 in
theorem gX7_feast_X0_moveBlankets : GoodIn wsX7_feast (wsV RX7 131 RX0 yX0_moveBlankets wsX0_moveBlankets) := goodIn_app (goodIn_of _ (by decide +kernel)) ggX7_feast_X0_moveBlankets
set_option maxRecDepth 20000 in
theorem ggX7_feast_X7_recordGiven : GoodIn wsX7_feast wsX7_recordGiven := goodIn_r _ [96, 5, 3, 97, 1, 2, 98, 99, 100, 65, 101, 67, 68, 102, 103, 60, 104, 105, 106, 107, 108, 69, 70, 71, 72, 73, 74, 109, 110, 111, 112, 113, 114, 115, 116, 117, 118, 31, 32, 33, 34, 35, 36, 37, 75, 76, 77, 78, 79, 80, 81, 82, 59, 61, 119, 120, 121, 122, 123, 124, 125, 126, 127, 128, 129, 130, 131, 132, 133, 134, 135, 136, 137, 138, 139, 140, 149, 150, 151, 152, 153, 141, 142, 143, 144, 145, 146, 147, 148] (by decide +kernel) (by decide +kernel)
set_option maxRecDepth 20000 in
theorem gX7_feast_X7_recordGiven : GoodIn wsX7_feast (wsV RX7 134 RX7 yX7_recordGiven wsX7_recordGiven) := goodIn_app (goodIn_of _ (by decide +kernel)) ggX7_feast_X7_recordGiven
theorem dX7_feast_0 : decode cX7_feast 0 = .ok (.aload_n 0, 1) := by decide +kernel
theorem dX7_feast_1 : decode cX7_feast 1 = .ok (.iload_n 1, 1) := by decide +kernel
theorem dX7_feast_2 : decode cX7_feast 2 = .ok (.iload_n 2, 1) := by decide +kernel
theorem dX7_feast_3 : decode cX7_feast 3 = .ok (.iload_n 3, 1) := by decide +kernel
theorem dX7_feast_4 : decode cX7_feast 4 = .ok (.iload 4, 2) := by decide +kernel
theorem dX7_feast_6 : decode cX7_feast 6 = .ok (.invokevirtual 170, 3) := by decide +kernel
theorem dX7_feast_9 : decode cX7_feast 9 = .ok (.aload_n 0, 1) := by decide +kernel
theorem dX7_feast_10 : decode cX7_feast 10 = .ok (.getfield 26, 3) := by decide +kernel
theorem dX7_feast_13 : decode cX7_feast 13 = .ok (.aload_n 0, 1) := by decide +kernel
theorem dX7_feast_14 : decode cX7_feast 14 = .ok (.getfield 26, 3) := by decide +kernel
theorem dX7_feast_17 : decode cX7_feast 17 = .ok (.aload_n 0, 1) := by decide +kernel
theorem dX7_feast_18 : decode cX7_feast 18 = .ok (.getfield 58, 3) := by decide +kernel
theorem dX7_feast_21 : decode cX7_feast 21 = .ok (.invokevirtual 112, 3) := by decide +kernel
theorem dX7_feast_24 : decode cX7_feast 24 = .ok (.invokevirtual 174, 3) := by decide +kernel
theorem dX7_feast_27 : decode cX7_feast 27 = .ok (.istore 5, 2) := by decide +kernel
theorem dX7_feast_29 : decode cX7_feast 29 = .ok (.iload_n 2, 1) := by decide +kernel
theorem dX7_feast_30 : decode cX7_feast 30 = .ok (.invokestatic 177, 3) := by decide +kernel
theorem dX7_feast_33 : decode cX7_feast 33 = .ok (.iload_n 3, 1) := by decide +kernel
theorem dX7_feast_34 : decode cX7_feast 34 = .ok (.imul, 1) := by decide +kernel
theorem dX7_feast_35 : decode cX7_feast 35 = .ok (.iload 4, 2) := by decide +kernel
theorem dX7_feast_37 : decode cX7_feast 37 = .ok (.invokestatic 177, 3) := by decide +kernel
theorem dX7_feast_40 : decode cX7_feast 40 = .ok (.iload 5, 2) := by decide +kernel
theorem dX7_feast_42 : decode cX7_feast 42 = .ok (.imul, 1) := by decide +kernel
theorem dX7_feast_43 : decode cX7_feast 43 = .ok (.iadd, 1) := by decide +kernel
theorem dX7_feast_44 : decode cX7_feast 44 = .ok (.istore 6, 2) := by decide +kernel
theorem dX7_feast_46 : decode cX7_feast 46 = .ok (.aload_n 0, 1) := by decide +kernel
theorem dX7_feast_47 : decode cX7_feast 47 = .ok (.getfield 33, 3) := by decide +kernel
theorem dX7_feast_50 : decode cX7_feast 50 = .ok (.getfield 119, 3) := by decide +kernel
theorem dX7_feast_53 : decode cX7_feast 53 = .ok (.iload_n 1, 1) := by decide +kernel
theorem dX7_feast_54 : decode cX7_feast 54 = .ok (.iaload, 1) := by decide +kernel
theorem dX7_feast_55 : decode cX7_feast 55 = .ok (.iload 6, 2) := by decide +kernel
theorem dX7_feast_57 : decode cX7_feast 57 = .ok (.if_icmp .ge 5, 3) := by decide +kernel
theorem dX7_feast_60 : decode cX7_feast 60 = .ok (.iconst (-1), 1) := by decide +kernel
theorem dX7_feast_61 : decode cX7_feast 61 = .ok (.ireturn, 1) := by decide +kernel
theorem dX7_feast_62 : decode cX7_feast 62 = .ok (.aload_n 0, 1) := by decide +kernel
theorem dX7_feast_63 : decode cX7_feast 63 = .ok (.iload_n 1, 1) := by decide +kernel
theorem dX7_feast_64 : decode cX7_feast 64 = .ok (.iload_n 2, 1) := by decide +kernel
theorem dX7_feast_65 : decode cX7_feast 65 = .ok (.iload_n 3, 1) := by decide +kernel
theorem dX7_feast_66 : decode cX7_feast 66 = .ok (.invokevirtual 182, 3) := by decide +kernel
theorem dX7_feast_69 : decode cX7_feast 69 = .ok (.aload_n 0, 1) := by decide +kernel
theorem dX7_feast_70 : decode cX7_feast 70 = .ok (.getfield 40, 3) := by decide +kernel
theorem dX7_feast_73 : decode cX7_feast 73 = .ok (.invokevirtual 127, 3) := by decide +kernel
theorem dX7_feast_76 : decode cX7_feast 76 = .ok (.if_icmp .le 6, 3) := by decide +kernel
theorem dX7_feast_79 : decode cX7_feast 79 = .ok (.bipush (-2), 2) := by decide +kernel
theorem dX7_feast_81 : decode cX7_feast 81 = .ok (.ireturn, 1) := by decide +kernel
theorem dX7_feast_82 : decode cX7_feast 82 = .ok (.iconst 0, 1) := by decide +kernel
theorem dX7_feast_83 : decode cX7_feast 83 = .ok (.istore 7, 2) := by decide +kernel
theorem dX7_feast_85 : decode cX7_feast 85 = .ok (.iload 7, 2) := by decide +kernel
theorem dX7_feast_87 : decode cX7_feast 87 = .ok (.aload_n 0, 1) := by decide +kernel
theorem dX7_feast_88 : decode cX7_feast 88 = .ok (.getfield 33, 3) := by decide +kernel
theorem dX7_feast_91 : decode cX7_feast 91 = .ok (.getfield 73, 3) := by decide +kernel
theorem dX7_feast_94 : decode cX7_feast 94 = .ok (.if_icmp .ge 63, 3) := by decide +kernel
theorem dX7_feast_97 : decode cX7_feast 97 = .ok (.iload_n 2, 1) := by decide +kernel
theorem dX7_feast_98 : decode cX7_feast 98 = .ok (.iload 7, 2) := by decide +kernel
theorem dX7_feast_100 : decode cX7_feast 100 = .ok (.invokestatic 185, 3) := by decide +kernel
theorem dX7_feast_103 : decode cX7_feast 103 = .ok (.ifCond .eq 26, 3) := by decide +kernel
theorem dX7_feast_106 : decode cX7_feast 106 = .ok (.aload_n 0, 1) := by decide +kernel
theorem dX7_feast_107 : decode cX7_feast 107 = .ok (.getfield 33, 3) := by decide +kernel
theorem dX7_feast_110 : decode cX7_feast 110 = .ok (.iload_n 1, 1) := by decide +kernel
theorem dX7_feast_111 : decode cX7_feast 111 = .ok (.iload 7, 2) := by decide +kernel
theorem dX7_feast_113 : decode cX7_feast 113 = .ok (.iload_n 3, 1) := by decide +kernel
theorem dX7_feast_114 : decode cX7_feast 114 = .ok (.invokevirtual 131, 3) := by decide +kernel
theorem dX7_feast_117 : decode cX7_feast 117 = .ok (.aload_n 0, 1) := by decide +kernel
theorem dX7_feast_118 : decode cX7_feast 118 = .ok (.iload_n 1, 1) := by decide +kernel
theorem dX7_feast_119 : decode cX7_feast 119 = .ok (.iload 7, 2) := by decide +kernel
theorem dX7_feast_121 : decode cX7_feast 121 = .ok (.iload_n 3, 1) := by decide +kernel
theorem dX7_feast_122 : decode cX7_feast 122 = .ok (.invokevirtual 134, 3) := by decide +kernel
theorem dX7_feast_125 : decode cX7_feast 125 = .ok (.pop, 1) := by decide +kernel
theorem dX7_feast_126 : decode cX7_feast 126 = .ok (.goto 25, 3) := by decide +kernel
theorem dX7_feast_129 : decode cX7_feast 129 = .ok (.iload 4, 2) := by decide +kernel
theorem dX7_feast_131 : decode cX7_feast 131 = .ok (.iload 7, 2) := by decide +kernel
theorem dX7_feast_133 : decode cX7_feast 133 = .ok (.invokestatic 185, 3) := by decide +kernel
theorem dX7_feast_136 : decode cX7_feast 136 = .ok (.ifCond .eq 15, 3) := by decide +kernel
theorem dX7_feast_139 : decode cX7_feast 139 = .ok (.aload_n 0, 1) := by decide +kernel
theorem dX7_feast_140 : decode cX7_feast 140 = .ok (.getfield 33, 3) := by decide +kernel
theorem dX7_feast_143 : decode cX7_feast 143 = .ok (.iload_n 1, 1) := by decide +kernel
theorem dX7_feast_144 : decode cX7_feast 144 = .ok (.iload 7, 2) := by decide +kernel
theorem dX7_feast_146 : decode cX7_feast 146 = .ok (.iload 5, 2) := by decide +kernel
theorem dX7_feast_148 : decode cX7_feast 148 = .ok (.invokevirtual 131, 3) := by decide +kernel
theorem dX7_feast_151 : decode cX7_feast 151 = .ok (.iinc 7 1, 3) := by decide +kernel
theorem dX7_feast_154 : decode cX7_feast 154 = .ok (.goto (-69), 3) := by decide +kernel
theorem dX7_feast_157 : decode cX7_feast 157 = .ok (.iload 6, 2) := by decide +kernel
theorem dX7_feast_159 : decode cX7_feast 159 = .ok (.ireturn, 1) := by decide +kernel
set_option maxRecDepth 20000 in
theorem ggX7_died_X7_checkChief : GoodIn wsX7_died wsX7_checkChief := goodIn_ca (goodIn_r _ [12, 13, 14, 3, 15, 48, 49, 50, 51, 52, 53, 54, 55, 56, 57, 58, 59, 60] (by decide +kernel) (by decide +kernel)) (goodIn_sub (fun _ h => List.mem_cons_of_mem _ (List.mem_append_left _ (List.mem_append_right _ h))) (by decide +kernel))
set_option maxRecDepth 20000 in
theorem gX7_died_X7_checkChief : GoodIn wsX7_died (wsV RX7 140 RX7 yX7_checkChief wsX7_checkChief) := goodIn_app (goodIn_of _ (by decide +kernel)) ggX7_died_X7_checkChief
set_option maxRecDepth 20000 in
theorem ggX7_died_X7_checkLives : GoodIn wsX7_died wsX7_checkLives := goodIn_ca (goodIn_r _ [19, 20, 21, 3, 5, 48, 49, 50, 51, 52, 53, 54, 55, 56, 57, 58, 59, 60] (by decide +kernel) (by decide +kernel)) (goodIn_sub (fun _ h => List.mem_cons_of_mem _ (List.mem_append_right _ h)) (by decide +kernel))
set_option maxRecDepth 20000 in
theorem gX7_died_X7_checkLives : GoodIn wsX7_died (wsV RX7 145 RX7 yX7_checkLives wsX7_checkLives) := goodIn_app (goodIn_of _ (by decide +kernel)) ggX7_died_X7_checkLives
set_option maxRecDepth 20000 in
theorem ggX7_died_X0_moveBlankets : GoodIn wsX7_died wsX0_moveBlankets := goodIn_r _ [26, 27, 57, 58, 59, 60] (by decide +kernel) (by decide +kernel)
set_option maxRecDepth 20000 in
theorem gX7_died_X0_moveBlankets : GoodIn wsX7_died (wsV RX7 131 RX0 yX0_moveBlankets wsX0_moveBlankets) := goodIn_app (goodIn_of _ (by decide +kernel)) ggX7_died_X0_moveBlankets
set_option maxRecDepth 20000 in
theorem ggX7_died_X1_inherit : GoodIn wsX7_died wsX1_inherit := goodIn_r _ [32, 33, 34, 61, 62, 63, 64] (by decide +kernel) (by decide +kernel)
set_option maxRecDepth 20000 in
theorem gX7_died_X1_inherit : GoodIn wsX7_died (wsV RX7 195 RX1 yX1_inherit wsX1_inherit) := goodIn_app (goodIn_of _ (by decide +kernel)) ggX7_died_X1_inherit
set_option maxRecDepth 20000 in
theorem ggX7_died_X3_inherit : GoodIn wsX7_died wsX3_inherit := goodIn_r _ [39, 40, 41, 42, 43, 44, 45, 46, 38, 47, 65, 66, 67, 68, 69] (by decide +kernel) (by decide +kernel)
set_option maxRecDepth 20000 in
theorem gX7_died_X3_inherit : GoodIn wsX7_died (wsV RX7 199 RX3 yX3_inherit wsX3_inherit) := goodIn_app (goodIn_of _ (by decide +kernel)) ggX7_died_X3_inherit
theorem dX7_died_0 : decode cX7_died 0 = .ok (.aload_n 0, 1) := by decide +kernel
theorem dX7_died_1 : decode cX7_died 1 = .ok (.iload_n 1, 1) := by decide +kernel
theorem dX7_died_2 : decode cX7_died 2 = .ok (.invokevirtual 140, 3) := by decide +kernel
theorem dX7_died_5 : decode cX7_died 5 = .ok (.aload_n 0, 1) := by decide +kernel
theorem dX7_died_6 : decode cX7_died 6 = .ok (.iload_n 2, 1) := by decide +kernel
theorem dX7_died_7 : decode cX7_died 7 = .ok (.invokevirtual 140, 3) := by decide +kernel
theorem dX7_died_10 : decode cX7_died 10 = .ok (.iload_n 1, 1) := by decide +kernel
theorem dX7_died_11 : decode cX7_died 11 = .ok (.iload_n 2, 1) := by decide +kernel
theorem dX7_died_12 : decode cX7_died 12 = .ok (.if_icmp .ne 13, 3) := by decide +kernel
theorem dX7_died_15 : decode cX7_died 15 = .ok (.new 66, 3) := by decide +kernel
theorem dX7_died_18 : decode cX7_died 18 = .ok (.dup, 1) := by decide +kernel
theorem dX7_died_19 : decode cX7_died 19 = .ok (.ldc 189, 2) := by decide +kernel
theorem dX7_died_21 : decode cX7_died 21 = .ok (.invokespecial 70, 3) := by decide +kernel
theorem dX7_died_24 : decode cX7_died 24 = .ok (.athrow, 1) := by decide +kernel
theorem dX7_died_25 : decode cX7_died 25 = .ok (.aload_n 0, 1) := by decide +kernel
theorem dX7_died_26 : decode cX7_died 26 = .ok (.iload_n 1, 1) := by decide +kernel
theorem dX7_died_27 : decode cX7_died 27 = .ok (.invokevirtual 145, 3) := by decide +kernel
theorem dX7_died_30 : decode cX7_died 30 = .ok (.aload_n 0, 1) := by decide +kernel
theorem dX7_died_31 : decode cX7_died 31 = .ok (.iload_n 2, 1) := by decide +kernel
theorem dX7_died_32 : decode cX7_died 32 = .ok (.invokevirtual 145, 3) := by decide +kernel
theorem dX7_died_35 : decode cX7_died 35 = .ok (.aload_n 0, 1) := by decide +kernel
theorem dX7_died_36 : decode cX7_died 36 = .ok (.getfield 33, 3) := by decide +kernel
theorem dX7_died_39 : decode cX7_died 39 = .ok (.iload_n 1, 1) := by decide +kernel
theorem dX7_died_40 : decode cX7_died 40 = .ok (.iload_n 2, 1) := by decide +kernel
theorem dX7_died_41 : decode cX7_died 41 = .ok (.aload_n 0, 1) := by decide +kernel
theorem dX7_died_42 : decode cX7_died 42 = .ok (.getfield 33, 3) := by decide +kernel
theorem dX7_died_45 : decode cX7_died 45 = .ok (.getfield 119, 3) := by decide +kernel
theorem dX7_died_48 : decode cX7_died 48 = .ok (.iload_n 1, 1) := by decide +kernel
theorem dX7_died_49 : decode cX7_died 49 = .ok (.iaload, 1) := by decide +kernel
theorem dX7_died_50 : decode cX7_died 50 = .ok (.invokevirtual 131, 3) := by decide +kernel
theorem dX7_died_53 : decode cX7_died 53 = .ok (.aload_n 0, 1) := by decide +kernel
theorem dX7_died_54 : decode cX7_died 54 = .ok (.getfield 33, 3) := by decide +kernel
theorem dX7_died_57 : decode cX7_died 57 = .ok (.getfield 191, 3) := by decide +kernel
theorem dX7_died_60 : decode cX7_died 60 = .ok (.iload_n 1, 1) := by decide +kernel
theorem dX7_died_61 : decode cX7_died 61 = .ok (.iconst 0, 1) := by decide +kernel
theorem dX7_died_62 : decode cX7_died 62 = .ok (.bastore, 1) := by decide +kernel
theorem dX7_died_63 : decode cX7_died 63 = .ok (.aload_n 0, 1) := by decide +kernel
theorem dX7_died_64 : decode cX7_died 64 = .ok (.getfield 47, 3) := by decide +kernel
theorem dX7_died_67 : decode cX7_died 67 = .ok (.iload_n 1, 1) := by decide +kernel
theorem dX7_died_68 : decode cX7_died 68 = .ok (.iload_n 2, 1) := by decide +kernel
theorem dX7_died_69 : decode cX7_died 69 = .ok (.invokevirtual 195, 3) := by decide +kernel
theorem dX7_died_72 : decode cX7_died 72 = .ok (.aload_n 0, 1) := by decide +kernel
theorem dX7_died_73 : decode cX7_died 73 = .ok (.getfield 40, 3) := by decide +kernel
theorem dX7_died_76 : decode cX7_died 76 = .ok (.iload_n 1, 1) := by decide +kernel
theorem dX7_died_77 : decode cX7_died 77 = .ok (.iload_n 2, 1) := by decide +kernel
theorem dX7_died_78 : decode cX7_died 78 = .ok (.invokevirtual 199, 3) := by decide +kernel
theorem dX7_died_81 : decode cX7_died 81 = .ok (.ireturn, 1) := by decide +kernel
set_option maxRecDepth 20000 in
theorem ggX7_wait_X7_growLoans : GoodIn wsX7_wait wsX7_growLoans := goodIn_r _ [8, 9, 3, 10, 11, 12, 13, 14, 15, 16, 17, 18, 19, 20, 21, 22, 23, 24, 25, 26, 27, 28, 29, 30, 31, 32, 33, 34, 35, 36, 37, 38, 39, 40, 41, 42, 43, 44, 45, 46, 47, 48, 49, 50, 51, 52, 53, 54, 55, 56, 57, 58] (by decide +kernel) (by decide +kernel)
set_option maxRecDepth 20000 in
theorem gX7_wait_X7_growLoans : GoodIn wsX7_wait (wsV RX7 203 RX7 yX7_growLoans wsX7_growLoans) := goodIn_app (goodIn_of _ (by decide +kernel)) ggX7_wait_X7_growLoans
theorem dX7_wait_0 : decode cX7_wait 0 = .ok (.iload_n 1, 1) := by decide +kernel
theorem dX7_wait_1 : decode cX7_wait 1 = .ok (.ifCond .lt 21, 3) := by decide +kernel
theorem dX7_wait_4 : decode cX7_wait 4 = .ok (.iload_n 1, 1) := by decide +kernel
theorem dX7_wait_5 : decode cX7_wait 5 = .ok (.bipush 100, 2) := by decide +kernel
theorem dX7_wait_7 : decode cX7_wait 7 = .ok (.if_icmp .gt 15, 3) := by decide +kernel
theorem dX7_wait_10 : decode cX7_wait 10 = .ok (.aload_n 0, 1) := by decide +kernel
theorem dX7_wait_11 : decode cX7_wait 11 = .ok (.getfield 58, 3) := by decide +kernel
theorem dX7_wait_14 : decode cX7_wait 14 = .ok (.iload_n 1, 1) := by decide +kernel
theorem dX7_wait_15 : decode cX7_wait 15 = .ok (.iadd, 1) := by decide +kernel
theorem dX7_wait_16 : decode cX7_wait 16 = .ok (.sipush 1000, 3) := by decide +kernel
theorem dX7_wait_19 : decode cX7_wait 19 = .ok (.if_icmp .le 13, 3) := by decide +kernel
theorem dX7_wait_22 : decode cX7_wait 22 = .ok (.new 66, 3) := by decide +kernel
theorem dX7_wait_25 : decode cX7_wait 25 = .ok (.dup, 1) := by decide +kernel
theorem dX7_wait_26 : decode cX7_wait 26 = .ok (.ldc 201, 2) := by decide +kernel
theorem dX7_wait_28 : decode cX7_wait 28 = .ok (.invokespecial 70, 3) := by decide +kernel
theorem dX7_wait_31 : decode cX7_wait 31 = .ok (.athrow, 1) := by decide +kernel
theorem dX7_wait_32 : decode cX7_wait 32 = .ok (.iconst 0, 1) := by decide +kernel
theorem dX7_wait_33 : decode cX7_wait 33 = .ok (.istore_n 2, 1) := by decide +kernel
theorem dX7_wait_34 : decode cX7_wait 34 = .ok (.iload_n 2, 1) := by decide +kernel
theorem dX7_wait_35 : decode cX7_wait 35 = .ok (.iload_n 1, 1) := by decide +kernel
theorem dX7_wait_36 : decode cX7_wait 36 = .ok (.if_icmp .ge 23, 3) := by decide +kernel
theorem dX7_wait_39 : decode cX7_wait 39 = .ok (.aload_n 0, 1) := by decide +kernel
theorem dX7_wait_40 : decode cX7_wait 40 = .ok (.invokevirtual 203, 3) := by decide +kernel
theorem dX7_wait_43 : decode cX7_wait 43 = .ok (.aload_n 0, 1) := by decide +kernel
theorem dX7_wait_44 : decode cX7_wait 44 = .ok (.dup, 1) := by decide +kernel
theorem dX7_wait_45 : decode cX7_wait 45 = .ok (.getfield 58, 3) := by decide +kernel
theorem dX7_wait_48 : decode cX7_wait 48 = .ok (.iconst 1, 1) := by decide +kernel
theorem dX7_wait_49 : decode cX7_wait 49 = .ok (.iadd, 1) := by decide +kernel
theorem dX7_wait_50 : decode cX7_wait 50 = .ok (.putfield 58, 3) := by decide +kernel
theorem dX7_wait_53 : decode cX7_wait 53 = .ok (.iinc 2 1, 3) := by decide +kernel
theorem dX7_wait_56 : decode cX7_wait 56 = .ok (.goto (-22), 3) := by decide +kernel
theorem dX7_wait_59 : decode cX7_wait 59 = .ok (.aload_n 0, 1) := by decide +kernel
theorem dX7_wait_60 : decode cX7_wait 60 = .ok (.getfield 58, 3) := by decide +kernel
theorem dX7_wait_63 : decode cX7_wait 63 = .ok (.ireturn, 1) := by decide +kernel
set_option maxRecDepth 20000 in
theorem ggX7_debt_X3_isLoan : GoodIn wsX7_debt wsX3_isLoan := goodIn_r _ [15, 16, 26, 27, 28, 29, 30] (by decide +kernel) (by decide +kernel)
set_option maxRecDepth 20000 in
theorem gX7_debt_X3_isLoan : GoodIn wsX7_debt (wsV RX7 221 RX3 yX3_isLoan wsX3_isLoan) := goodIn_app (goodIn_of _ (by decide +kernel)) ggX7_debt_X3_isLoan
theorem dX7_debt_0 : decode cX7_debt 0 = .ok (.iload_n 1, 1) := by decide +kernel
theorem dX7_debt_1 : decode cX7_debt 1 = .ok (.ifCond .lt 14, 3) := by decide +kernel
theorem dX7_debt_4 : decode cX7_debt 4 = .ok (.iload_n 1, 1) := by decide +kernel
theorem dX7_debt_5 : decode cX7_debt 5 = .ok (.aload_n 0, 1) := by decide +kernel
theorem dX7_debt_6 : decode cX7_debt 6 = .ok (.getfield 40, 3) := by decide +kernel
theorem dX7_debt_9 : decode cX7_debt 9 = .ok (.getfield 206, 3) := by decide +kernel
theorem dX7_debt_12 : decode cX7_debt 12 = .ok (.if_icmp .lt 13, 3) := by decide +kernel
theorem dX7_debt_15 : decode cX7_debt 15 = .ok (.new 207, 3) := by decide +kernel
theorem dX7_debt_18 : decode cX7_debt 18 = .ok (.dup, 1) := by decide +kernel
theorem dX7_debt_19 : decode cX7_debt 19 = .ok (.ldc 209, 2) := by decide +kernel
theorem dX7_debt_21 : decode cX7_debt 21 = .ok (.invokespecial 211, 3) := by decide +kernel
theorem dX7_debt_24 : decode cX7_debt 24 = .ok (.athrow, 1) := by decide +kernel
theorem dX7_debt_25 : decode cX7_debt 25 = .ok (.iload_n 2, 1) := by decide +kernel
theorem dX7_debt_26 : decode cX7_debt 26 = .ok (.tableswitch 91 0 4 #[34, 44, 54, 64, 81], 34) := by decide +kernel
theorem dX7_debt_60 : decode cX7_debt 60 = .ok (.aload_n 0, 1) := by decide +kernel
theorem dX7_debt_61 : decode cX7_debt 61 = .ok (.getfield 40, 3) := by decide +kernel
theorem dX7_debt_64 : decode cX7_debt 64 = .ok (.getfield 212, 3) := by decide +kernel
theorem dX7_debt_67 : decode cX7_debt 67 = .ok (.iload_n 1, 1) := by decide +kernel
theorem dX7_debt_68 : decode cX7_debt 68 = .ok (.iaload, 1) := by decide +kernel
theorem dX7_debt_69 : decode cX7_debt 69 = .ok (.ireturn, 1) := by decide +kernel
theorem dX7_debt_70 : decode cX7_debt 70 = .ok (.aload_n 0, 1) := by decide +kernel
theorem dX7_debt_71 : decode cX7_debt 71 = .ok (.getfield 40, 3) := by decide +kernel
theorem dX7_debt_74 : decode cX7_debt 74 = .ok (.getfield 215, 3) := by decide +kernel
theorem dX7_debt_77 : decode cX7_debt 77 = .ok (.iload_n 1, 1) := by decide +kernel
theorem dX7_debt_78 : decode cX7_debt 78 = .ok (.iaload, 1) := by decide +kernel
theorem dX7_debt_79 : decode cX7_debt 79 = .ok (.ireturn, 1) := by decide +kernel
theorem dX7_debt_80 : decode cX7_debt 80 = .ok (.aload_n 0, 1) := by decide +kernel
theorem dX7_debt_81 : decode cX7_debt 81 = .ok (.getfield 40, 3) := by decide +kernel
theorem dX7_debt_84 : decode cX7_debt 84 = .ok (.getfield 218, 3) := by decide +kernel
theorem dX7_debt_87 : decode cX7_debt 87 = .ok (.iload_n 1, 1) := by decide +kernel
theorem dX7_debt_88 : decode cX7_debt 88 = .ok (.iaload, 1) := by decide +kernel
theorem dX7_debt_89 : decode cX7_debt 89 = .ok (.ireturn, 1) := by decide +kernel
theorem dX7_debt_90 : decode cX7_debt 90 = .ok (.aload_n 0, 1) := by decide +kernel
theorem dX7_debt_91 : decode cX7_debt 91 = .ok (.getfield 40, 3) := by decide +kernel
theorem dX7_debt_94 : decode cX7_debt 94 = .ok (.iload_n 1, 1) := by decide +kernel
theorem dX7_debt_95 : decode cX7_debt 95 = .ok (.invokevirtual 221, 3) := by decide +kernel
theorem dX7_debt_98 : decode cX7_debt 98 = .ok (.ifCond .eq 7, 3) := by decide +kernel
theorem dX7_debt_101 : decode cX7_debt 101 = .ok (.iconst 1, 1) := by decide +kernel
theorem dX7_debt_102 : decode cX7_debt 102 = .ok (.goto 4, 3) := by decide +kernel
theorem dX7_debt_105 : decode cX7_debt 105 = .ok (.iconst 0, 1) := by decide +kernel
theorem dX7_debt_106 : decode cX7_debt 106 = .ok (.ireturn, 1) := by decide +kernel
theorem dX7_debt_107 : decode cX7_debt 107 = .ok (.aload_n 0, 1) := by decide +kernel
theorem dX7_debt_108 : decode cX7_debt 108 = .ok (.getfield 40, 3) := by decide +kernel
theorem dX7_debt_111 : decode cX7_debt 111 = .ok (.getfield 225, 3) := by decide +kernel
theorem dX7_debt_114 : decode cX7_debt 114 = .ok (.iload_n 1, 1) := by decide +kernel
theorem dX7_debt_115 : decode cX7_debt 115 = .ok (.iaload, 1) := by decide +kernel
theorem dX7_debt_116 : decode cX7_debt 116 = .ok (.ireturn, 1) := by decide +kernel
theorem dX7_debt_117 : decode cX7_debt 117 = .ok (.new 66, 3) := by decide +kernel
theorem dX7_debt_120 : decode cX7_debt 120 = .ok (.dup, 1) := by decide +kernel
theorem dX7_debt_121 : decode cX7_debt 121 = .ok (.ldc 228, 2) := by decide +kernel
theorem dX7_debt_123 : decode cX7_debt 123 = .ok (.invokespecial 70, 3) := by decide +kernel
theorem dX7_debt_126 : decode cX7_debt 126 = .ok (.athrow, 1) := by decide +kernel
set_option maxRecDepth 20000 in
theorem ggX7_late_X3_overdue : GoodIn wsX7_late wsX3_overdue := goodIn_r _ [7, 8, 9, 10, 11, 12, 13, 6, 14, 24, 25, 26, 27, 28] (by decide +kernel) (by decide +kernel)
set_option maxRecDepth 20000 in
theorem gX7_late_X3_overdue : GoodIn wsX7_late (wsV RX7 230 RX3 yX3_overdue wsX3_overdue) := goodIn_app (goodIn_of _ (by decide +kernel)) ggX7_late_X3_overdue
theorem dX7_late_0 : decode cX7_late 0 = .ok (.aload_n 0, 1) := by decide +kernel
theorem dX7_late_1 : decode cX7_late 1 = .ok (.getfield 40, 3) := by decide +kernel
theorem dX7_late_4 : decode cX7_late 4 = .ok (.iload_n 1, 1) := by decide +kernel
theorem dX7_late_5 : decode cX7_late 5 = .ok (.aload_n 0, 1) := by decide +kernel
theorem dX7_late_6 : decode cX7_late 6 = .ok (.getfield 58, 3) := by decide +kernel
theorem dX7_late_9 : decode cX7_late 9 = .ok (.invokevirtual 230, 3) := by decide +kernel
theorem dX7_late_12 : decode cX7_late 12 = .ok (.ireturn, 1) := by decide +kernel
set_option maxRecDepth 20000 in
theorem ggX7_about_X7_checkChief : GoodIn wsX7_about wsX7_checkChief := goodIn_ca (goodIn_r _ [10, 11, 12, 3, 13, 22, 23, 24, 25, 26, 27, 28, 29, 30, 31, 32, 33, 34] (by decide +kernel) (by decide +kernel)) (goodIn_sub (fun _ h => List.mem_cons_of_mem _ (List.mem_append_right _ h)) (by decide +kernel))
set_option maxRecDepth 20000 in
theorem gX7_about_X7_checkChief : GoodIn wsX7_about (wsV RX7 140 RX7 yX7_checkChief wsX7_checkChief) := goodIn_app (goodIn_of _ (by decide +kernel)) ggX7_about_X7_checkChief
set_option maxRecDepth 20000 in
theorem ggX7_about_X0_placeInRank : GoodIn wsX7_about wsX0_placeInRank := goodIn_r _ [18, 19, 20, 21, 31, 32, 33, 34] (by decide +kernel) (by decide +kernel)
set_option maxRecDepth 20000 in
theorem gX7_about_X0_placeInRank : GoodIn wsX7_about (wsV RX7 233 RX0 yX0_placeInRank wsX0_placeInRank) := goodIn_app (goodIn_of _ (by decide +kernel)) ggX7_about_X0_placeInRank
theorem dX7_about_0 : decode cX7_about 0 = .ok (.aload_n 0, 1) := by decide +kernel
theorem dX7_about_1 : decode cX7_about 1 = .ok (.iload_n 1, 1) := by decide +kernel
theorem dX7_about_2 : decode cX7_about 2 = .ok (.invokevirtual 140, 3) := by decide +kernel
theorem dX7_about_5 : decode cX7_about 5 = .ok (.iload_n 2, 1) := by decide +kernel
theorem dX7_about_6 : decode cX7_about 6 = .ok (.tableswitch 63 0 2 #[26, 36, 54], 26) := by decide +kernel
theorem dX7_about_32 : decode cX7_about 32 = .ok (.aload_n 0, 1) := by decide +kernel
theorem dX7_about_33 : decode cX7_about 33 = .ok (.getfield 33, 3) := by decide +kernel
theorem dX7_about_36 : decode cX7_about 36 = .ok (.getfield 119, 3) := by decide +kernel
theorem dX7_about_39 : decode cX7_about 39 = .ok (.iload_n 1, 1) := by decide +kernel
theorem dX7_about_40 : decode cX7_about 40 = .ok (.iaload, 1) := by decide +kernel
theorem dX7_about_41 : decode cX7_about 41 = .ok (.ireturn, 1) := by decide +kernel
theorem dX7_about_42 : decode cX7_about 42 = .ok (.aload_n 0, 1) := by decide +kernel
theorem dX7_about_43 : decode cX7_about 43 = .ok (.getfield 33, 3) := by decide +kernel
theorem dX7_about_46 : decode cX7_about 46 = .ok (.getfield 191, 3) := by decide +kernel
theorem dX7_about_49 : decode cX7_about 49 = .ok (.iload_n 1, 1) := by decide +kernel
theorem dX7_about_50 : decode cX7_about 50 = .ok (.baload, 1) := by decide +kernel
theorem dX7_about_51 : decode cX7_about 51 = .ok (.ifCond .eq 7, 3) := by decide +kernel
theorem dX7_about_54 : decode cX7_about 54 = .ok (.iconst 1, 1) := by decide +kernel
theorem dX7_about_55 : decode cX7_about 55 = .ok (.goto 4, 3) := by decide +kernel
theorem dX7_about_58 : decode cX7_about 58 = .ok (.iconst 0, 1) := by decide +kernel
theorem dX7_about_59 : decode cX7_about 59 = .ok (.ireturn, 1) := by decide +kernel
theorem dX7_about_60 : decode cX7_about 60 = .ok (.aload_n 0, 1) := by decide +kernel
theorem dX7_about_61 : decode cX7_about 61 = .ok (.getfield 33, 3) := by decide +kernel
theorem dX7_about_64 : decode cX7_about 64 = .ok (.iload_n 1, 1) := by decide +kernel
theorem dX7_about_65 : decode cX7_about 65 = .ok (.invokevirtual 233, 3) := by decide +kernel
theorem dX7_about_68 : decode cX7_about 68 = .ok (.ireturn, 1) := by decide +kernel
theorem dX7_about_69 : decode cX7_about 69 = .ok (.new 66, 3) := by decide +kernel
theorem dX7_about_72 : decode cX7_about 72 = .ok (.dup, 1) := by decide +kernel
theorem dX7_about_73 : decode cX7_about 73 = .ok (.ldc 236, 2) := by decide +kernel
theorem dX7_about_75 : decode cX7_about 75 = .ok (.invokespecial 70, 3) := by decide +kernel
theorem dX7_about_78 : decode cX7_about 78 = .ok (.athrow, 1) := by decide +kernel
set_option maxRecDepth 20000 in
theorem ggX7_fame_X7_checkChief : GoodIn wsX7_fame wsX7_checkChief := goodIn_ca (goodIn_r _ [7, 8, 9, 1, 10, 11, 12, 13, 14, 15, 16, 17, 18, 19, 20, 21, 22, 23] (by decide +kernel) (by decide +kernel)) (goodIn_sub (fun _ h => List.mem_cons_of_mem _ (List.mem_append_right _ h)) (by decide +kernel))
set_option maxRecDepth 20000 in
theorem gX7_fame_X7_checkChief : GoodIn wsX7_fame (wsV RX7 140 RX7 yX7_checkChief wsX7_checkChief) := goodIn_app (goodIn_of _ (by decide +kernel)) ggX7_fame_X7_checkChief
theorem dX7_fame_0 : decode cX7_fame 0 = .ok (.aload_n 0, 1) := by decide +kernel
theorem dX7_fame_1 : decode cX7_fame 1 = .ok (.iload_n 1, 1) := by decide +kernel
theorem dX7_fame_2 : decode cX7_fame 2 = .ok (.invokevirtual 140, 3) := by decide +kernel
theorem dX7_fame_5 : decode cX7_fame 5 = .ok (.aload_n 0, 1) := by decide +kernel
theorem dX7_fame_6 : decode cX7_fame 6 = .ok (.getfield 33, 3) := by decide +kernel
theorem dX7_fame_9 : decode cX7_fame 9 = .ok (.getfield 238, 3) := by decide +kernel
theorem dX7_fame_12 : decode cX7_fame 12 = .ok (.iload_n 1, 1) := by decide +kernel
theorem dX7_fame_13 : decode cX7_fame 13 = .ok (.laload, 1) := by decide +kernel
theorem dX7_fame_14 : decode cX7_fame 14 = .ok (.lreturn, 1) := by decide +kernel
set_option maxRecDepth 20000 in
theorem ggX7_gather_X7_checkChief : GoodIn wsX7_gather wsX7_checkChief := goodIn_ca (goodIn_r _ [10, 11, 12, 1, 13, 52, 53, 54, 55, 56, 57, 58, 59, 60, 61, 62, 63, 64] (by decide +kernel) (by decide +kernel)) (goodIn_sub (fun _ h => List.mem_cons_of_mem _ (List.mem_append_right _ h)) (by decide +kernel))
set_option maxRecDepth 20000 in
theorem gX7_gather_X7_checkChief : GoodIn wsX7_gather (wsV RX7 140 RX7 yX7_checkChief wsX7_checkChief) := goodIn_app (goodIn_of _ (by decide +kernel)) ggX7_gather_X7_checkChief
set_option maxRecDepth 20000 in
theorem ggX7_gather_X4_callIn : GoodIn wsX7_gather wsX4_callIn := goodIn_r _ [18, 19, 20, 21, 22, 23, 24, 25, 26, 27, 28, 29, 30, 31, 32, 65, 66, 67, 68, 69, 61, 62, 63, 64, 70, 71, 72, 73, 74] (by decide +kernel) (by decide +kernel)
set_option maxRecDepth 20000 in
theorem gX7_gather_X4_callIn : GoodIn wsX7_gather (wsV RX7 244 RX4 yX4_callIn wsX4_callIn) := goodIn_app (goodIn_of _ (by decide +kernel)) ggX7_gather_X4_callIn
set_option maxRecDepth 20000 in
theorem ggX7_gather_X4_most : GoodIn wsX7_gather wsX4_most := goodIn_r _ [36, 19, 37, 38, 39, 17, 40, 41, 42, 21, 43, 44, 45, 46, 47, 48, 49, 50, 51, 65, 66, 67, 68, 69] (by decide +kernel) (by decide +kernel)
set_option maxRecDepth 20000 in
theorem gX7_gather_X4_most : GoodIn wsX7_gather (wsV RX7 248 RX4 yX4_most wsX4_most) := goodIn_app (goodIn_of _ (by decide +kernel)) ggX7_gather_X4_most
theorem dX7_gather_0 : decode cX7_gather 0 = .ok (.aload_n 0, 1) := by decide +kernel
theorem dX7_gather_1 : decode cX7_gather 1 = .ok (.iload_n 1, 1) := by decide +kernel
theorem dX7_gather_2 : decode cX7_gather 2 = .ok (.invokevirtual 140, 3) := by decide +kernel
theorem dX7_gather_5 : decode cX7_gather 5 = .ok (.aload_n 0, 1) := by decide +kernel
theorem dX7_gather_6 : decode cX7_gather 6 = .ok (.getfield 33, 3) := by decide +kernel
theorem dX7_gather_9 : decode cX7_gather 9 = .ok (.getfield 191, 3) := by decide +kernel
theorem dX7_gather_12 : decode cX7_gather 12 = .ok (.iload_n 1, 1) := by decide +kernel
theorem dX7_gather_13 : decode cX7_gather 13 = .ok (.baload, 1) := by decide +kernel
theorem dX7_gather_14 : decode cX7_gather 14 = .ok (.ifCond .ne 7, 3) := by decide +kernel
theorem dX7_gather_17 : decode cX7_gather 17 = .ok (.ldc2_w 242, 3) := by decide +kernel
theorem dX7_gather_20 : decode cX7_gather 20 = .ok (.lreturn, 1) := by decide +kernel
theorem dX7_gather_21 : decode cX7_gather 21 = .ok (.aload_n 0, 1) := by decide +kernel
theorem dX7_gather_22 : decode cX7_gather 22 = .ok (.getfield 54, 3) := by decide +kernel
theorem dX7_gather_25 : decode cX7_gather 25 = .ok (.aload_n 0, 1) := by decide +kernel
theorem dX7_gather_26 : decode cX7_gather 26 = .ok (.getfield 33, 3) := by decide +kernel
theorem dX7_gather_29 : decode cX7_gather 29 = .ok (.aload_n 0, 1) := by decide +kernel
theorem dX7_gather_30 : decode cX7_gather 30 = .ok (.getfield 40, 3) := by decide +kernel
theorem dX7_gather_33 : decode cX7_gather 33 = .ok (.iload_n 2, 1) := by decide +kernel
theorem dX7_gather_34 : decode cX7_gather 34 = .ok (.invokevirtual 244, 3) := by decide +kernel
theorem dX7_gather_37 : decode cX7_gather 37 = .ok (.aload_n 0, 1) := by decide +kernel
theorem dX7_gather_38 : decode cX7_gather 38 = .ok (.getfield 54, 3) := by decide +kernel
theorem dX7_gather_41 : decode cX7_gather 41 = .ok (.iload_n 1, 1) := by decide +kernel
theorem dX7_gather_42 : decode cX7_gather 42 = .ok (.invokevirtual 248, 3) := by decide +kernel
theorem dX7_gather_45 : decode cX7_gather 45 = .ok (.lreturn, 1) := by decide +kernel
set_option maxRecDepth 20000 in
theorem ggX7_hold_X7_checkChief : GoodIn wsX7_hold wsX7_checkChief := goodIn_ca (goodIn_r _ [9, 10, 11, 1, 12, 55, 56, 57, 58, 59, 60, 61, 62, 63, 64, 65, 66, 67] (by decide +kernel) (by decide +kernel)) (goodIn_sub (fun _ h => List.mem_cons_of_mem _ (List.mem_append_right _ h)) (by decide +kernel))
set_option maxRecDepth 20000 in
theorem gX7_hold_X7_checkChief : GoodIn wsX7_hold (wsV RX7 140 RX7 yX7_checkChief wsX7_checkChief) := goodIn_app (goodIn_of _ (by decide +kernel)) ggX7_hold_X7_checkChief
set_option maxRecDepth 20000 in
theorem ggX7_hold_X4_callIn : GoodIn wsX7_hold wsX4_callIn := goodIn_r _ [17, 18, 19, 20, 21, 22, 23, 24, 25, 26, 27, 28, 29, 30, 31, 68, 69, 70, 71, 72, 64, 65, 66, 67, 73, 74, 75, 76, 77] (by decide +kernel) (by decide +kernel)
set_option maxRecDepth 20000 in
theorem gX7_hold_X4_callIn : GoodIn wsX7_hold (wsV RX7 244 RX4 yX4_callIn wsX4_callIn) := goodIn_app (goodIn_of _ (by decide +kernel)) ggX7_hold_X4_callIn
set_option maxRecDepth 20000 in
theorem ggX7_hold_X4_most : GoodIn wsX7_hold wsX4_most := goodIn_r _ [35, 18, 36, 37, 38, 16, 39, 40, 41, 20, 42, 43, 44, 45, 46, 47, 48, 49, 50, 68, 69, 70, 71, 72] (by decide +kernel) (by decide +kernel)
set_option maxRecDepth 20000 in
theorem gX7_hold_X4_most : GoodIn wsX7_hold (wsV RX7 248 RX4 yX4_most wsX4_most) := goodIn_app (goodIn_of _ (by decide +kernel)) ggX7_hold_X4_most
set_option maxRecDepth 20000 in
theorem ggX7_hold_X4_side : GoodIn wsX7_hold wsX4_side := goodIn_r _ [54, 40, 68, 69, 70, 71, 72] (by decide +kernel) (by decide +kernel)
set_option maxRecDepth 20000 in
theorem gX7_hold_X4_side : GoodIn wsX7_hold (wsV RX7 252 RX4 yX4_side wsX4_side) := goodIn_app (goodIn_of _ (by decide +kernel)) ggX7_hold_X4_side
theorem dX7_hold_0 : decode cX7_hold 0 = .ok (.aload_n 0, 1) := by decide +kernel
theorem dX7_hold_1 : decode cX7_hold 1 = .ok (.iload_n 1, 1) := by decide +kernel
theorem dX7_hold_2 : decode cX7_hold 2 = .ok (.invokevirtual 140, 3) := by decide +kernel
theorem dX7_hold_5 : decode cX7_hold 5 = .ok (.aload_n 0, 1) := by decide +kernel
theorem dX7_hold_6 : decode cX7_hold 6 = .ok (.getfield 33, 3) := by decide +kernel
theorem dX7_hold_9 : decode cX7_hold 9 = .ok (.getfield 191, 3) := by decide +kernel
theorem dX7_hold_12 : decode cX7_hold 12 = .ok (.iload_n 1, 1) := by decide +kernel
theorem dX7_hold_13 : decode cX7_hold 13 = .ok (.baload, 1) := by decide +kernel
theorem dX7_hold_14 : decode cX7_hold 14 = .ok (.ifCond .ne 5, 3) := by decide +kernel
theorem dX7_hold_17 : decode cX7_hold 17 = .ok (.iconst (-1), 1) := by decide +kernel
theorem dX7_hold_18 : decode cX7_hold 18 = .ok (.ireturn, 1) := by decide +kernel
theorem dX7_hold_19 : decode cX7_hold 19 = .ok (.aload_n 0, 1) := by decide +kernel
theorem dX7_hold_20 : decode cX7_hold 20 = .ok (.getfield 54, 3) := by decide +kernel
theorem dX7_hold_23 : decode cX7_hold 23 = .ok (.aload_n 0, 1) := by decide +kernel
theorem dX7_hold_24 : decode cX7_hold 24 = .ok (.getfield 33, 3) := by decide +kernel
theorem dX7_hold_27 : decode cX7_hold 27 = .ok (.aload_n 0, 1) := by decide +kernel
theorem dX7_hold_28 : decode cX7_hold 28 = .ok (.getfield 40, 3) := by decide +kernel
theorem dX7_hold_31 : decode cX7_hold 31 = .ok (.iload_n 2, 1) := by decide +kernel
theorem dX7_hold_32 : decode cX7_hold 32 = .ok (.invokevirtual 244, 3) := by decide +kernel
theorem dX7_hold_35 : decode cX7_hold 35 = .ok (.aload_n 0, 1) := by decide +kernel
theorem dX7_hold_36 : decode cX7_hold 36 = .ok (.getfield 54, 3) := by decide +kernel
theorem dX7_hold_39 : decode cX7_hold 39 = .ok (.iload_n 1, 1) := by decide +kernel
theorem dX7_hold_40 : decode cX7_hold 40 = .ok (.invokevirtual 248, 3) := by decide +kernel
theorem dX7_hold_43 : decode cX7_hold 43 = .ok (.pop2, 1) := by decide +kernel
theorem dX7_hold_44 : decode cX7_hold 44 = .ok (.aload_n 0, 1) := by decide +kernel
theorem dX7_hold_45 : decode cX7_hold 45 = .ok (.getfield 54, 3) := by decide +kernel
theorem dX7_hold_48 : decode cX7_hold 48 = .ok (.invokevirtual 252, 3) := by decide +kernel
theorem dX7_hold_51 : decode cX7_hold 51 = .ok (.ireturn, 1) := by decide +kernel
set_option maxRecDepth 20000 in
theorem ggX7_count_X3_open : GoodIn wsX7_count wsX3_open := goodIn_r _ [16, 17, 18, 40, 41, 42, 43, 44] (by decide +kernel) (by decide +kernel)
set_option maxRecDepth 20000 in
theorem gX7_count_X3_open : GoodIn wsX7_count (wsV RX7 255 RX3 yX3_open wsX3_open) := goodIn_app (goodIn_of _ (by decide +kernel)) ggX7_count_X3_open
theorem dX7_count_0 : decode cX7_count 0 = .ok (.iload_n 1, 1) := by decide +kernel
theorem dX7_count_1 : decode cX7_count 1 = .ok (.tableswitch 96 0 6 #[43, 51, 59, 67, 75, 83, 88], 43) := by decide +kernel
theorem dX7_count_44 : decode cX7_count 44 = .ok (.aload_n 0, 1) := by decide +kernel
theorem dX7_count_45 : decode cX7_count 45 = .ok (.getfield 33, 3) := by decide +kernel
theorem dX7_count_48 : decode cX7_count 48 = .ok (.getfield 73, 3) := by decide +kernel
theorem dX7_count_51 : decode cX7_count 51 = .ok (.ireturn, 1) := by decide +kernel
theorem dX7_count_52 : decode cX7_count 52 = .ok (.aload_n 0, 1) := by decide +kernel
theorem dX7_count_53 : decode cX7_count 53 = .ok (.getfield 26, 3) := by decide +kernel
theorem dX7_count_56 : decode cX7_count 56 = .ok (.getfield 94, 3) := by decide +kernel
theorem dX7_count_59 : decode cX7_count 59 = .ok (.ireturn, 1) := by decide +kernel
theorem dX7_count_60 : decode cX7_count 60 = .ok (.aload_n 0, 1) := by decide +kernel
theorem dX7_count_61 : decode cX7_count 61 = .ok (.getfield 40, 3) := by decide +kernel
theorem dX7_count_64 : decode cX7_count 64 = .ok (.getfield 206, 3) := by decide +kernel
theorem dX7_count_67 : decode cX7_count 67 = .ok (.ireturn, 1) := by decide +kernel
theorem dX7_count_68 : decode cX7_count 68 = .ok (.aload_n 0, 1) := by decide +kernel
theorem dX7_count_69 : decode cX7_count 69 = .ok (.getfield 40, 3) := by decide +kernel
theorem dX7_count_72 : decode cX7_count 72 = .ok (.invokevirtual 255, 3) := by decide +kernel
theorem dX7_count_75 : decode cX7_count 75 = .ok (.ireturn, 1) := by decide +kernel
theorem dX7_count_76 : decode cX7_count 76 = .ok (.aload_n 0, 1) := by decide +kernel
theorem dX7_count_77 : decode cX7_count 77 = .ok (.getfield 47, 3) := by decide +kernel
theorem dX7_count_80 : decode cX7_count 80 = .ok (.getfield 148, 3) := by decide +kernel
theorem dX7_count_83 : decode cX7_count 83 = .ok (.ireturn, 1) := by decide +kernel
theorem dX7_count_84 : decode cX7_count 84 = .ok (.aload_n 0, 1) := by decide +kernel
theorem dX7_count_85 : decode cX7_count 85 = .ok (.getfield 58, 3) := by decide +kernel
theorem dX7_count_88 : decode cX7_count 88 = .ok (.ireturn, 1) := by decide +kernel
theorem dX7_count_89 : decode cX7_count 89 = .ok (.aload_n 0, 1) := by decide +kernel
theorem dX7_count_90 : decode cX7_count 90 = .ok (.getfield 10, 3) := by decide +kernel
theorem dX7_count_93 : decode cX7_count 93 = .ok (.getfield 85, 3) := by decide +kernel
theorem dX7_count_96 : decode cX7_count 96 = .ok (.ireturn, 1) := by decide +kernel
theorem dX7_count_97 : decode cX7_count 97 = .ok (.iconst (-1), 1) := by decide +kernel
theorem dX7_count_98 : decode cX7_count 98 = .ok (.ireturn, 1) := by decide +kernel
theorem dX7_isIn_0 : decode cX7_isIn 0 = .ok (.iload_n 0, 1) := by decide +kernel
theorem dX7_isIn_1 : decode cX7_isIn 1 = .ok (.iload_n 1, 1) := by decide +kernel
theorem dX7_isIn_2 : decode cX7_isIn 2 = .ok (.ishr, 1) := by decide +kernel
theorem dX7_isIn_3 : decode cX7_isIn 3 = .ok (.iconst 1, 1) := by decide +kernel
theorem dX7_isIn_4 : decode cX7_isIn 4 = .ok (.iand, 1) := by decide +kernel
theorem dX7_isIn_5 : decode cX7_isIn 5 = .ok (.iconst 1, 1) := by decide +kernel
theorem dX7_isIn_6 : decode cX7_isIn 6 = .ok (.if_icmp .ne 7, 3) := by decide +kernel
theorem dX7_isIn_9 : decode cX7_isIn 9 = .ok (.iconst 1, 1) := by decide +kernel
theorem dX7_isIn_10 : decode cX7_isIn 10 = .ok (.goto 4, 3) := by decide +kernel
theorem dX7_isIn_13 : decode cX7_isIn 13 = .ok (.iconst 0, 1) := by decide +kernel
theorem dX7_isIn_14 : decode cX7_isIn 14 = .ok (.ireturn, 1) := by decide +kernel
theorem dX7_checkChief_0 : decode cX7_checkChief 0 = .ok (.iload_n 1, 1) := by decide +kernel
theorem dX7_checkChief_1 : decode cX7_checkChief 1 = .ok (.ifCond .lt 14, 3) := by decide +kernel
theorem dX7_checkChief_4 : decode cX7_checkChief 4 = .ok (.iload_n 1, 1) := by decide +kernel
theorem dX7_checkChief_5 : decode cX7_checkChief 5 = .ok (.aload_n 0, 1) := by decide +kernel
theorem dX7_checkChief_6 : decode cX7_checkChief 6 = .ok (.getfield 33, 3) := by decide +kernel
theorem dX7_checkChief_9 : decode cX7_checkChief 9 = .ok (.getfield 73, 3) := by decide +kernel
theorem dX7_checkChief_12 : decode cX7_checkChief 12 = .ok (.if_icmp .lt 14, 3) := by decide +kernel
theorem dX7_checkChief_15 : decode cX7_checkChief 15 = .ok (.new 207, 3) := by decide +kernel
theorem dX7_checkChief_18 : decode cX7_checkChief 18 = .ok (.dup, 1) := by decide +kernel
theorem dX7_checkChief_19 : decode cX7_checkChief 19 = .ok (.ldc_w 258, 3) := by decide +kernel
theorem dX7_checkChief_22 : decode cX7_checkChief 22 = .ok (.invokespecial 211, 3) := by decide +kernel
theorem dX7_checkChief_25 : decode cX7_checkChief 25 = .ok (.athrow, 1) := by decide +kernel
theorem dX7_checkChief_26 : decode cX7_checkChief 26 = .ok (.return_, 1) := by decide +kernel
theorem dX7_checkLives_0 : decode cX7_checkLives 0 = .ok (.aload_n 0, 1) := by decide +kernel
theorem dX7_checkLives_1 : decode cX7_checkLives 1 = .ok (.getfield 33, 3) := by decide +kernel
theorem dX7_checkLives_4 : decode cX7_checkLives 4 = .ok (.getfield 191, 3) := by decide +kernel
theorem dX7_checkLives_7 : decode cX7_checkLives 7 = .ok (.iload_n 1, 1) := by decide +kernel
theorem dX7_checkLives_8 : decode cX7_checkLives 8 = .ok (.baload, 1) := by decide +kernel
theorem dX7_checkLives_9 : decode cX7_checkLives 9 = .ok (.ifCond .ne 14, 3) := by decide +kernel
theorem dX7_checkLives_12 : decode cX7_checkLives 12 = .ok (.new 76, 3) := by decide +kernel
theorem dX7_checkLives_15 : decode cX7_checkLives 15 = .ok (.dup, 1) := by decide +kernel
theorem dX7_checkLives_16 : decode cX7_checkLives 16 = .ok (.ldc_w 260, 3) := by decide +kernel
theorem dX7_checkLives_19 : decode cX7_checkLives 19 = .ok (.invokespecial 80, 3) := by decide +kernel
theorem dX7_checkLives_22 : decode cX7_checkLives 22 = .ok (.athrow, 1) := by decide +kernel
theorem dX7_checkLives_23 : decode cX7_checkLives 23 = .ok (.return_, 1) := by decide +kernel
theorem dX7_checkCopper_0 : decode cX7_checkCopper 0 = .ok (.iload_n 1, 1) := by decide +kernel
theorem dX7_checkCopper_1 : decode cX7_checkCopper 1 = .ok (.ifCond .lt 14, 3) := by decide +kernel
theorem dX7_checkCopper_4 : decode cX7_checkCopper 4 = .ok (.iload_n 1, 1) := by decide +kernel
theorem dX7_checkCopper_5 : decode cX7_checkCopper 5 = .ok (.aload_n 0, 1) := by decide +kernel
theorem dX7_checkCopper_6 : decode cX7_checkCopper 6 = .ok (.getfield 47, 3) := by decide +kernel
theorem dX7_checkCopper_9 : decode cX7_checkCopper 9 = .ok (.getfield 148, 3) := by decide +kernel
theorem dX7_checkCopper_12 : decode cX7_checkCopper 12 = .ok (.if_icmp .lt 14, 3) := by decide +kernel
theorem dX7_checkCopper_15 : decode cX7_checkCopper 15 = .ok (.new 207, 3) := by decide +kernel
theorem dX7_checkCopper_18 : decode cX7_checkCopper 18 = .ok (.dup, 1) := by decide +kernel
theorem dX7_checkCopper_19 : decode cX7_checkCopper 19 = .ok (.ldc_w 262, 3) := by decide +kernel
theorem dX7_checkCopper_22 : decode cX7_checkCopper 22 = .ok (.invokespecial 211, 3) := by decide +kernel
theorem dX7_checkCopper_25 : decode cX7_checkCopper 25 = .ok (.athrow, 1) := by decide +kernel
theorem dX7_checkCopper_26 : decode cX7_checkCopper 26 = .ok (.return_, 1) := by decide +kernel
set_option maxRecDepth 20000 in
theorem ggX7_checkHandingOver_X7_checkChief : GoodIn wsX7_checkHandingOver wsX7_checkChief := goodIn_ca (goodIn_r _ [7, 8, 9, 10, 11, 19, 20, 21, 22, 23, 24, 25, 26, 27, 28, 29, 30, 31] (by decide +kernel) (by decide +kernel)) (goodIn_sub (fun _ h => List.mem_cons_of_mem _ (List.mem_append_left _ (List.mem_append_right _ h))) (by decide +kernel))
set_option maxRecDepth 20000 in
theorem gX7_checkHandingOver_X7_checkChief : GoodIn wsX7_checkHandingOver (wsV RX7 140 RX7 yX7_checkChief wsX7_checkChief) := goodIn_app (goodIn_of _ (by decide +kernel)) ggX7_checkHandingOver_X7_checkChief
set_option maxRecDepth 20000 in
theorem ggX7_checkHandingOver_X7_checkLives : GoodIn wsX7_checkHandingOver wsX7_checkLives := goodIn_ca (goodIn_r _ [15, 16, 17, 10, 18, 19, 20, 21, 22, 23, 24, 25, 26, 27, 28, 29, 30, 31] (by decide +kernel) (by decide +kernel)) (goodIn_sub (fun _ h => List.mem_cons_of_mem _ (List.mem_append_right _ h)) (by decide +kernel))
set_option maxRecDepth 20000 in
theorem gX7_checkHandingOver_X7_checkLives : GoodIn wsX7_checkHandingOver (wsV RX7 145 RX7 yX7_checkLives wsX7_checkLives) := goodIn_app (goodIn_of _ (by decide +kernel)) ggX7_checkHandingOver_X7_checkLives
theorem dX7_checkHandingOver_0 : decode cX7_checkHandingOver 0 = .ok (.aload_n 0, 1) := by decide +kernel
theorem dX7_checkHandingOver_1 : decode cX7_checkHandingOver 1 = .ok (.iload_n 1, 1) := by decide +kernel
theorem dX7_checkHandingOver_2 : decode cX7_checkHandingOver 2 = .ok (.invokevirtual 140, 3) := by decide +kernel
theorem dX7_checkHandingOver_5 : decode cX7_checkHandingOver 5 = .ok (.aload_n 0, 1) := by decide +kernel
theorem dX7_checkHandingOver_6 : decode cX7_checkHandingOver 6 = .ok (.iload_n 2, 1) := by decide +kernel
theorem dX7_checkHandingOver_7 : decode cX7_checkHandingOver 7 = .ok (.invokevirtual 140, 3) := by decide +kernel
theorem dX7_checkHandingOver_10 : decode cX7_checkHandingOver 10 = .ok (.iload_n 1, 1) := by decide +kernel
theorem dX7_checkHandingOver_11 : decode cX7_checkHandingOver 11 = .ok (.iload_n 2, 1) := by decide +kernel
theorem dX7_checkHandingOver_12 : decode cX7_checkHandingOver 12 = .ok (.if_icmp .eq 8, 3) := by decide +kernel
theorem dX7_checkHandingOver_15 : decode cX7_checkHandingOver 15 = .ok (.iload_n 3, 1) := by decide +kernel
theorem dX7_checkHandingOver_16 : decode cX7_checkHandingOver 16 = .ok (.iconst 1, 1) := by decide +kernel
theorem dX7_checkHandingOver_17 : decode cX7_checkHandingOver 17 = .ok (.if_icmp .ge 14, 3) := by decide +kernel
theorem dX7_checkHandingOver_20 : decode cX7_checkHandingOver 20 = .ok (.new 66, 3) := by decide +kernel
theorem dX7_checkHandingOver_23 : decode cX7_checkHandingOver 23 = .ok (.dup, 1) := by decide +kernel
theorem dX7_checkHandingOver_24 : decode cX7_checkHandingOver 24 = .ok (.ldc_w 264, 3) := by decide +kernel
theorem dX7_checkHandingOver_27 : decode cX7_checkHandingOver 27 = .ok (.invokespecial 70, 3) := by decide +kernel
theorem dX7_checkHandingOver_30 : decode cX7_checkHandingOver 30 = .ok (.athrow, 1) := by decide +kernel
theorem dX7_checkHandingOver_31 : decode cX7_checkHandingOver 31 = .ok (.aload_n 0, 1) := by decide +kernel
theorem dX7_checkHandingOver_32 : decode cX7_checkHandingOver 32 = .ok (.iload_n 1, 1) := by decide +kernel
theorem dX7_checkHandingOver_33 : decode cX7_checkHandingOver 33 = .ok (.invokevirtual 145, 3) := by decide +kernel
theorem dX7_checkHandingOver_36 : decode cX7_checkHandingOver 36 = .ok (.aload_n 0, 1) := by decide +kernel
theorem dX7_checkHandingOver_37 : decode cX7_checkHandingOver 37 = .ok (.iload_n 2, 1) := by decide +kernel
theorem dX7_checkHandingOver_38 : decode cX7_checkHandingOver 38 = .ok (.invokevirtual 145, 3) := by decide +kernel
theorem dX7_checkHandingOver_41 : decode cX7_checkHandingOver 41 = .ok (.return_, 1) := by decide +kernel
set_option maxRecDepth 20000 in
theorem ggX7_checkFeast_X7_checkChief : GoodIn wsX7_checkFeast wsX7_checkChief := goodIn_ca (goodIn_r _ [10, 11, 12, 3, 4, 23, 24, 25, 26, 27, 28, 29, 30, 31, 32, 33, 34, 35] (by decide +kernel) (by decide +kernel)) (goodIn_sub (fun _ h => List.mem_cons_of_mem _ (List.mem_append_left _ (List.mem_append_right _ h))) (by decide +kernel))
set_option maxRecDepth 20000 in
theorem gX7_checkFeast_X7_checkChief : GoodIn wsX7_checkFeast (wsV RX7 140 RX7 yX7_checkChief wsX7_checkChief) := goodIn_app (goodIn_of _ (by decide +kernel)) ggX7_checkFeast_X7_checkChief
set_option maxRecDepth 20000 in
theorem ggX7_checkFeast_X7_isIn : GoodIn wsX7_checkFeast wsX7_isIn := goodIn_r _ [15] (by decide +kernel) (by decide +kernel)
set_option maxRecDepth 20000 in
theorem gX7_checkFeast_X7_isIn : GoodIn wsX7_checkFeast (va_wsS RX7 185 yX7_isIn wsX7_isIn) := goodIn_app (goodIn_of _ (by decide +kernel)) ggX7_checkFeast_X7_isIn
set_option maxRecDepth 20000 in
theorem ggX7_checkFeast_X7_checkLives : GoodIn wsX7_checkFeast wsX7_checkLives := goodIn_ca (goodIn_r _ [19, 20, 21, 3, 22, 23, 24, 25, 26, 27, 28, 29, 30, 31, 32, 33, 34, 35] (by decide +kernel) (by decide +kernel)) (goodIn_sub (fun _ h => List.mem_cons_of_mem _ (List.mem_append_right _ h)) (by decide +kernel))
set_option maxRecDepth 20000 in
theorem gX7_checkFeast_X7_checkLives : GoodIn wsX7_checkFeast (wsV RX7 145 RX7 yX7_checkLives wsX7_checkLives) := goodIn_app (goodIn_of _ (by decide +kernel)) ggX7_checkFeast_X7_checkLives
theorem dX7_checkFeast_0 : decode cX7_checkFeast 0 = .ok (.aload_n 0, 1) := by decide +kernel
theorem dX7_checkFeast_1 : decode cX7_checkFeast 1 = .ok (.iload_n 1, 1) := by decide +kernel
theorem dX7_checkFeast_2 : decode cX7_checkFeast 2 = .ok (.invokevirtual 140, 3) := by decide +kernel
theorem dX7_checkFeast_5 : decode cX7_checkFeast 5 = .ok (.iload_n 2, 1) := by decide +kernel
theorem dX7_checkFeast_6 : decode cX7_checkFeast 6 = .ok (.iload 4, 2) := by decide +kernel
theorem dX7_checkFeast_8 : decode cX7_checkFeast 8 = .ok (.ior, 1) := by decide +kernel
theorem dX7_checkFeast_9 : decode cX7_checkFeast 9 = .ok (.istore 5, 2) := by decide +kernel
theorem dX7_checkFeast_11 : decode cX7_checkFeast 11 = .ok (.iload 5, 2) := by decide +kernel
theorem dX7_checkFeast_13 : decode cX7_checkFeast 13 = .ok (.aload_n 0, 1) := by decide +kernel
theorem dX7_checkFeast_14 : decode cX7_checkFeast 14 = .ok (.getfield 33, 3) := by decide +kernel
theorem dX7_checkFeast_17 : decode cX7_checkFeast 17 = .ok (.getfield 73, 3) := by decide +kernel
theorem dX7_checkFeast_20 : decode cX7_checkFeast 20 = .ok (.ishr, 1) := by decide +kernel
theorem dX7_checkFeast_21 : decode cX7_checkFeast 21 = .ok (.ifCond .ne 19, 3) := by decide +kernel
theorem dX7_checkFeast_24 : decode cX7_checkFeast 24 = .ok (.iload 5, 2) := by decide +kernel
theorem dX7_checkFeast_26 : decode cX7_checkFeast 26 = .ok (.iload_n 1, 1) := by decide +kernel
theorem dX7_checkFeast_27 : decode cX7_checkFeast 27 = .ok (.invokestatic 185, 3) := by decide +kernel
theorem dX7_checkFeast_30 : decode cX7_checkFeast 30 = .ok (.ifCond .ne 10, 3) := by decide +kernel
theorem dX7_checkFeast_33 : decode cX7_checkFeast 33 = .ok (.iload_n 2, 1) := by decide +kernel
theorem dX7_checkFeast_34 : decode cX7_checkFeast 34 = .ok (.iload 4, 2) := by decide +kernel
theorem dX7_checkFeast_36 : decode cX7_checkFeast 36 = .ok (.iand, 1) := by decide +kernel
theorem dX7_checkFeast_37 : decode cX7_checkFeast 37 = .ok (.ifCond .eq 14, 3) := by decide +kernel
theorem dX7_checkFeast_40 : decode cX7_checkFeast 40 = .ok (.new 66, 3) := by decide +kernel
theorem dX7_checkFeast_43 : decode cX7_checkFeast 43 = .ok (.dup, 1) := by decide +kernel
theorem dX7_checkFeast_44 : decode cX7_checkFeast 44 = .ok (.ldc_w 266, 3) := by decide +kernel
theorem dX7_checkFeast_47 : decode cX7_checkFeast 47 = .ok (.invokespecial 70, 3) := by decide +kernel
theorem dX7_checkFeast_50 : decode cX7_checkFeast 50 = .ok (.athrow, 1) := by decide +kernel
theorem dX7_checkFeast_51 : decode cX7_checkFeast 51 = .ok (.iload_n 3, 1) := by decide +kernel
theorem dX7_checkFeast_52 : decode cX7_checkFeast 52 = .ok (.iconst 1, 1) := by decide +kernel
theorem dX7_checkFeast_53 : decode cX7_checkFeast 53 = .ok (.if_icmp .lt 10, 3) := by decide +kernel
theorem dX7_checkFeast_56 : decode cX7_checkFeast 56 = .ok (.iload_n 3, 1) := by decide +kernel
theorem dX7_checkFeast_57 : decode cX7_checkFeast 57 = .ok (.ldc_w 268, 3) := by decide +kernel
theorem dX7_checkFeast_60 : decode cX7_checkFeast 60 = .ok (.if_icmp .le 14, 3) := by decide +kernel
theorem dX7_checkFeast_63 : decode cX7_checkFeast 63 = .ok (.new 66, 3) := by decide +kernel
theorem dX7_checkFeast_66 : decode cX7_checkFeast 66 = .ok (.dup, 1) := by decide +kernel
theorem dX7_checkFeast_67 : decode cX7_checkFeast 67 = .ok (.ldc_w 269, 3) := by decide +kernel
theorem dX7_checkFeast_70 : decode cX7_checkFeast 70 = .ok (.invokespecial 70, 3) := by decide +kernel
theorem dX7_checkFeast_73 : decode cX7_checkFeast 73 = .ok (.athrow, 1) := by decide +kernel
theorem dX7_checkFeast_74 : decode cX7_checkFeast 74 = .ok (.aload_n 0, 1) := by decide +kernel
theorem dX7_checkFeast_75 : decode cX7_checkFeast 75 = .ok (.iload_n 1, 1) := by decide +kernel
theorem dX7_checkFeast_76 : decode cX7_checkFeast 76 = .ok (.invokevirtual 145, 3) := by decide +kernel
theorem dX7_checkFeast_79 : decode cX7_checkFeast 79 = .ok (.iconst 0, 1) := by decide +kernel
theorem dX7_checkFeast_80 : decode cX7_checkFeast 80 = .ok (.istore 6, 2) := by decide +kernel
theorem dX7_checkFeast_82 : decode cX7_checkFeast 82 = .ok (.iload 6, 2) := by decide +kernel
theorem dX7_checkFeast_84 : decode cX7_checkFeast 84 = .ok (.aload_n 0, 1) := by decide +kernel
theorem dX7_checkFeast_85 : decode cX7_checkFeast 85 = .ok (.getfield 33, 3) := by decide +kernel
theorem dX7_checkFeast_88 : decode cX7_checkFeast 88 = .ok (.getfield 73, 3) := by decide +kernel
theorem dX7_checkFeast_91 : decode cX7_checkFeast 91 = .ok (.if_icmp .ge 25, 3) := by decide +kernel
theorem dX7_checkFeast_94 : decode cX7_checkFeast 94 = .ok (.iload 5, 2) := by decide +kernel
theorem dX7_checkFeast_96 : decode cX7_checkFeast 96 = .ok (.iload 6, 2) := by decide +kernel
theorem dX7_checkFeast_98 : decode cX7_checkFeast 98 = .ok (.invokestatic 185, 3) := by decide +kernel
theorem dX7_checkFeast_101 : decode cX7_checkFeast 101 = .ok (.ifCond .eq 9, 3) := by decide +kernel
theorem dX7_checkFeast_104 : decode cX7_checkFeast 104 = .ok (.aload_n 0, 1) := by decide +kernel
theorem dX7_checkFeast_105 : decode cX7_checkFeast 105 = .ok (.iload 6, 2) := by decide +kernel
theorem dX7_checkFeast_107 : decode cX7_checkFeast 107 = .ok (.invokevirtual 145, 3) := by decide +kernel
theorem dX7_checkFeast_110 : decode cX7_checkFeast 110 = .ok (.iinc 6 1, 3) := by decide +kernel
theorem dX7_checkFeast_113 : decode cX7_checkFeast 113 = .ok (.goto (-31), 3) := by decide +kernel
theorem dX7_checkFeast_116 : decode cX7_checkFeast 116 = .ok (.return_, 1) := by decide +kernel
set_option maxRecDepth 20000 in
theorem ggX7_debtsMadeBy_X3_owed : GoodIn wsX7_debtsMadeBy wsX3_owed := goodIn_r _ [12, 13, 14, 15, 16, 17, 11, 18, 19, 20, 45, 46, 47, 48, 49] (by decide +kernel) (by decide +kernel)
set_option maxRecDepth 20000 in
theorem gX7_debtsMadeBy_X3_owed : GoodIn wsX7_debtsMadeBy (wsV RX7 271 RX3 yX3_owed wsX3_owed) := goodIn_app (goodIn_of _ (by decide +kernel)) ggX7_debtsMadeBy_X3_owed
set_option maxRecDepth 20000 in
theorem ggX7_debtsMadeBy_X2_inForce : GoodIn wsX7_debtsMadeBy wsX2_inForce := goodIn_r _ [25, 26, 27, 50, 51, 52, 53, 54, 55, 56, 57] (by decide +kernel) (by decide +kernel)
set_option maxRecDepth 20000 in
theorem gX7_debtsMadeBy_X2_inForce : GoodIn wsX7_debtsMadeBy (wsV RX7 112 RX2 yX2_inForce wsX2_inForce) := goodIn_app (goodIn_of _ (by decide +kernel)) ggX7_debtsMadeBy_X2_inForce
set_option maxRecDepth 20000 in
theorem ggX7_debtsMadeBy_X2_askedFor : GoodIn wsX7_debtsMadeBy wsX2_askedFor := goodIn_r _ [31, 32, 33, 34, 35, 3, 4, 5, 50, 51, 52, 53, 54, 55, 56, 57] (by decide +kernel) (by decide +kernel)
set_option maxRecDepth 20000 in
theorem gX7_debtsMadeBy_X2_askedFor : GoodIn wsX7_debtsMadeBy (wsV RX7 281 RX2 yX2_askedFor wsX2_askedFor) := goodIn_app (goodIn_of _ (by decide +kernel)) ggX7_debtsMadeBy_X2_askedFor
theorem dX7_debtsMadeBy_0 : decode cX7_debtsMadeBy 0 = .ok (.iload_n 3, 1) := by decide +kernel
theorem dX7_debtsMadeBy_1 : decode cX7_debtsMadeBy 1 = .ok (.i2l, 1) := by decide +kernel
theorem dX7_debtsMadeBy_2 : decode cX7_debtsMadeBy 2 = .ok (.iload_n 3, 1) := by decide +kernel
theorem dX7_debtsMadeBy_3 : decode cX7_debtsMadeBy 3 = .ok (.i2l, 1) := by decide +kernel
theorem dX7_debtsMadeBy_4 : decode cX7_debtsMadeBy 4 = .ok (.aload_n 0, 1) := by decide +kernel
theorem dX7_debtsMadeBy_5 : decode cX7_debtsMadeBy 5 = .ok (.getfield 40, 3) := by decide +kernel
theorem dX7_debtsMadeBy_8 : decode cX7_debtsMadeBy 8 = .ok (.iload_n 1, 1) := by decide +kernel
theorem dX7_debtsMadeBy_9 : decode cX7_debtsMadeBy 9 = .ok (.iload_n 2, 1) := by decide +kernel
theorem dX7_debtsMadeBy_10 : decode cX7_debtsMadeBy 10 = .ok (.invokevirtual 271, 3) := by decide +kernel
theorem dX7_debtsMadeBy_13 : decode cX7_debtsMadeBy 13 = .ok (.invokestatic 275, 3) := by decide +kernel
theorem dX7_debtsMadeBy_16 : decode cX7_debtsMadeBy 16 = .ok (.lsub, 1) := by decide +kernel
theorem dX7_debtsMadeBy_17 : decode cX7_debtsMadeBy 17 = .ok (.lstore 4, 2) := by decide +kernel
theorem dX7_debtsMadeBy_19 : decode cX7_debtsMadeBy 19 = .ok (.aload_n 0, 1) := by decide +kernel
theorem dX7_debtsMadeBy_20 : decode cX7_debtsMadeBy 20 = .ok (.getfield 26, 3) := by decide +kernel
theorem dX7_debtsMadeBy_23 : decode cX7_debtsMadeBy 23 = .ok (.aload_n 0, 1) := by decide +kernel
theorem dX7_debtsMadeBy_24 : decode cX7_debtsMadeBy 24 = .ok (.getfield 26, 3) := by decide +kernel
theorem dX7_debtsMadeBy_27 : decode cX7_debtsMadeBy 27 = .ok (.aload_n 0, 1) := by decide +kernel
theorem dX7_debtsMadeBy_28 : decode cX7_debtsMadeBy 28 = .ok (.getfield 58, 3) := by decide +kernel
theorem dX7_debtsMadeBy_31 : decode cX7_debtsMadeBy 31 = .ok (.invokevirtual 112, 3) := by decide +kernel
theorem dX7_debtsMadeBy_34 : decode cX7_debtsMadeBy 34 = .ok (.lload 4, 2) := by decide +kernel
theorem dX7_debtsMadeBy_36 : decode cX7_debtsMadeBy 36 = .ok (.invokevirtual 281, 3) := by decide +kernel
theorem dX7_debtsMadeBy_39 : decode cX7_debtsMadeBy 39 = .ok (.ifCond .le 7, 3) := by decide +kernel
theorem dX7_debtsMadeBy_42 : decode cX7_debtsMadeBy 42 = .ok (.iconst 1, 1) := by decide +kernel
theorem dX7_debtsMadeBy_43 : decode cX7_debtsMadeBy 43 = .ok (.goto 4, 3) := by decide +kernel
theorem dX7_debtsMadeBy_46 : decode cX7_debtsMadeBy 46 = .ok (.iconst 0, 1) := by decide +kernel
theorem dX7_debtsMadeBy_47 : decode cX7_debtsMadeBy 47 = .ok (.ireturn, 1) := by decide +kernel
set_option maxRecDepth 20000 in
theorem ggX7_debtsMadeByFeast_X7_isIn : GoodIn wsX7_debtsMadeByFeast wsX7_isIn := goodIn_r _ [6] (by decide +kernel) (by decide +kernel)
set_option maxRecDepth 20000 in
theorem gX7_debtsMadeByFeast_X7_isIn : GoodIn wsX7_debtsMadeByFeast (va_wsS RX7 185 yX7_isIn wsX7_isIn) := goodIn_app (goodIn_of _ (by decide +kernel)) ggX7_debtsMadeByFeast_X7_isIn
set_option maxRecDepth 20000 in
theorem ggX7_debtsMadeByFeast_X7_debtsMadeBy : GoodIn wsX7_debtsMadeByFeast wsX7_debtsMadeBy := goodIn_r _ [10, 11, 12, 13, 14, 15, 16, 17, 18, 19, 20, 21, 22, 23, 24, 25, 26, 27, 28, 29, 30, 31, 32, 33, 34, 35, 36, 37, 38, 39, 40, 41, 42, 43, 44, 45, 46, 47, 48, 49, 50, 51, 52, 53, 54, 59, 60, 61, 62, 63, 64, 65, 66, 67, 68, 69, 70, 71] (by decide +kernel) (by decide +kernel)
set_option maxRecDepth 20000 in
theorem gX7_debtsMadeByFeast_X7_debtsMadeBy : GoodIn wsX7_debtsMadeByFeast (wsV RX7 123 RX7 yX7_debtsMadeBy wsX7_debtsMadeBy) := goodIn_app (goodIn_of _ (by decide +kernel)) ggX7_debtsMadeByFeast_X7_debtsMadeBy
theorem dX7_debtsMadeByFeast_0 : decode cX7_debtsMadeByFeast 0 = .ok (.iconst 0, 1) := by decide +kernel
theorem dX7_debtsMadeByFeast_1 : decode cX7_debtsMadeByFeast 1 = .ok (.istore 4, 2) := by decide +kernel
theorem dX7_debtsMadeByFeast_3 : decode cX7_debtsMadeByFeast 3 = .ok (.iconst 0, 1) := by decide +kernel
theorem dX7_debtsMadeByFeast_4 : decode cX7_debtsMadeByFeast 4 = .ok (.istore 5, 2) := by decide +kernel
theorem dX7_debtsMadeByFeast_6 : decode cX7_debtsMadeByFeast 6 = .ok (.iload 5, 2) := by decide +kernel
theorem dX7_debtsMadeByFeast_8 : decode cX7_debtsMadeByFeast 8 = .ok (.aload_n 0, 1) := by decide +kernel
theorem dX7_debtsMadeByFeast_9 : decode cX7_debtsMadeByFeast 9 = .ok (.getfield 33, 3) := by decide +kernel
theorem dX7_debtsMadeByFeast_12 : decode cX7_debtsMadeByFeast 12 = .ok (.getfield 73, 3) := by decide +kernel
theorem dX7_debtsMadeByFeast_15 : decode cX7_debtsMadeByFeast 15 = .ok (.if_icmp .ge 31, 3) := by decide +kernel
theorem dX7_debtsMadeByFeast_18 : decode cX7_debtsMadeByFeast 18 = .ok (.iload_n 2, 1) := by decide +kernel
theorem dX7_debtsMadeByFeast_19 : decode cX7_debtsMadeByFeast 19 = .ok (.iload 5, 2) := by decide +kernel
theorem dX7_debtsMadeByFeast_21 : decode cX7_debtsMadeByFeast 21 = .ok (.invokestatic 185, 3) := by decide +kernel
theorem dX7_debtsMadeByFeast_24 : decode cX7_debtsMadeByFeast 24 = .ok (.ifCond .eq 16, 3) := by decide +kernel
theorem dX7_debtsMadeByFeast_27 : decode cX7_debtsMadeByFeast 27 = .ok (.iload 4, 2) := by decide +kernel
theorem dX7_debtsMadeByFeast_29 : decode cX7_debtsMadeByFeast 29 = .ok (.aload_n 0, 1) := by decide +kernel
theorem dX7_debtsMadeByFeast_30 : decode cX7_debtsMadeByFeast 30 = .ok (.iload_n 1, 1) := by decide +kernel
theorem dX7_debtsMadeByFeast_31 : decode cX7_debtsMadeByFeast 31 = .ok (.iload 5, 2) := by decide +kernel
theorem dX7_debtsMadeByFeast_33 : decode cX7_debtsMadeByFeast 33 = .ok (.iload_n 3, 1) := by decide +kernel
theorem dX7_debtsMadeByFeast_34 : decode cX7_debtsMadeByFeast 34 = .ok (.invokevirtual 123, 3) := by decide +kernel
theorem dX7_debtsMadeByFeast_37 : decode cX7_debtsMadeByFeast 37 = .ok (.iadd, 1) := by decide +kernel
theorem dX7_debtsMadeByFeast_38 : decode cX7_debtsMadeByFeast 38 = .ok (.istore 4, 2) := by decide +kernel
theorem dX7_debtsMadeByFeast_40 : decode cX7_debtsMadeByFeast 40 = .ok (.iinc 5 1, 3) := by decide +kernel
theorem dX7_debtsMadeByFeast_43 : decode cX7_debtsMadeByFeast 43 = .ok (.goto (-37), 3) := by decide +kernel
theorem dX7_debtsMadeByFeast_46 : decode cX7_debtsMadeByFeast 46 = .ok (.iload 4, 2) := by decide +kernel
theorem dX7_debtsMadeByFeast_48 : decode cX7_debtsMadeByFeast 48 = .ok (.ireturn, 1) := by decide +kernel
set_option maxRecDepth 20000 in
theorem ggX7_recordGiven_X3_answer : GoodIn wsX7_recordGiven wsX3_answer := goodIn_r _ [10, 11, 12, 13, 14, 15, 16, 17, 18, 19, 9, 20, 21, 22, 23, 24, 25, 26, 27, 28, 29, 30, 31, 32, 33, 34, 35, 36, 76, 77, 78, 79, 80] (by decide +kernel) (by decide +kernel)
set_option maxRecDepth 20000 in
theorem gX7_recordGiven_X3_answer : GoodIn wsX7_recordGiven (wsV RX7 285 RX3 yX3_answer wsX3_answer) := goodIn_app (goodIn_of _ (by decide +kernel)) ggX7_recordGiven_X3_answer
set_option maxRecDepth 20000 in
theorem ggX7_recordGiven_X2_inForce : GoodIn wsX7_recordGiven wsX2_inForce := goodIn_r _ [41, 42, 43, 81, 82, 83, 84, 85, 86, 87, 88] (by decide +kernel) (by decide +kernel)
set_option maxRecDepth 20000 in
theorem gX7_recordGiven_X2_inForce : GoodIn wsX7_recordGiven (wsV RX7 112 RX2 yX2_inForce wsX2_inForce) := goodIn_app (goodIn_of _ (by decide +kernel)) ggX7_recordGiven_X2_inForce
set_option maxRecDepth 20000 in
theorem ggX7_recordGiven_X2_askedFor : GoodIn wsX7_recordGiven wsX2_askedFor := goodIn_r _ [47, 48, 49, 50, 51, 52, 15, 53, 81, 82, 83, 84, 85, 86, 87, 88] (by decide +kernel) (by decide +kernel)
set_option maxRecDepth 20000 in
theorem gX7_recordGiven_X2_askedFor : GoodIn wsX7_recordGiven (wsV RX7 281 RX2 yX2_askedFor wsX2_askedFor) := goodIn_app (goodIn_of _ (by decide +kernel)) ggX7_recordGiven_X2_askedFor
set_option maxRecDepth 20000 in
theorem ggX7_recordGiven_X2_yearsToAnswer : GoodIn wsX7_recordGiven wsX2_yearsToAnswer := goodIn_r _ [57, 58, 81, 82, 83, 84, 85, 86, 87, 88] (by decide +kernel) (by decide +kernel)
set_option maxRecDepth 20000 in
theorem gX7_recordGiven_X2_yearsToAnswer : GoodIn wsX7_recordGiven (wsV RX7 288 RX2 yX2_yearsToAnswer wsX2_yearsToAnswer) := goodIn_app (goodIn_of _ (by decide +kernel)) ggX7_recordGiven_X2_yearsToAnswer
set_option maxRecDepth 20000 in
theorem ggX7_recordGiven_X3_add : GoodIn wsX7_recordGiven wsX3_add := goodIn_r _ [62, 25, 11, 26, 12, 32, 76, 77, 78, 79, 80] (by decide +kernel) (by decide +kernel)
set_option maxRecDepth 20000 in
theorem gX7_recordGiven_X3_add : GoodIn wsX7_recordGiven (wsV RX7 137 RX3 yX3_add wsX3_add) := goodIn_app (goodIn_of _ (by decide +kernel)) ggX7_recordGiven_X3_add
theorem dX7_recordGiven_0 : decode cX7_recordGiven 0 = .ok (.aload_n 0, 1) := by decide +kernel
theorem dX7_recordGiven_1 : decode cX7_recordGiven 1 = .ok (.getfield 40, 3) := by decide +kernel
theorem dX7_recordGiven_4 : decode cX7_recordGiven 4 = .ok (.iload_n 1, 1) := by decide +kernel
theorem dX7_recordGiven_5 : decode cX7_recordGiven 5 = .ok (.iload_n 2, 1) := by decide +kernel
theorem dX7_recordGiven_6 : decode cX7_recordGiven 6 = .ok (.iload_n 3, 1) := by decide +kernel
theorem dX7_recordGiven_7 : decode cX7_recordGiven 7 = .ok (.invokevirtual 285, 3) := by decide +kernel
theorem dX7_recordGiven_10 : decode cX7_recordGiven 10 = .ok (.istore 4, 2) := by decide +kernel
theorem dX7_recordGiven_12 : decode cX7_recordGiven 12 = .ok (.aload_n 0, 1) := by decide +kernel
theorem dX7_recordGiven_13 : decode cX7_recordGiven 13 = .ok (.getfield 33, 3) := by decide +kernel
theorem dX7_recordGiven_16 : decode cX7_recordGiven 16 = .ok (.getfield 238, 3) := by decide +kernel
theorem dX7_recordGiven_19 : decode cX7_recordGiven 19 = .ok (.iload_n 1, 1) := by decide +kernel
theorem dX7_recordGiven_20 : decode cX7_recordGiven 20 = .ok (.dup2, 1) := by decide +kernel
theorem dX7_recordGiven_21 : decode cX7_recordGiven 21 = .ok (.laload, 1) := by decide +kernel
theorem dX7_recordGiven_22 : decode cX7_recordGiven 22 = .ok (.iload_n 3, 1) := by decide +kernel
theorem dX7_recordGiven_23 : decode cX7_recordGiven 23 = .ok (.i2l, 1) := by decide +kernel
theorem dX7_recordGiven_24 : decode cX7_recordGiven 24 = .ok (.ladd, 1) := by decide +kernel
theorem dX7_recordGiven_25 : decode cX7_recordGiven 25 = .ok (.lastore, 1) := by decide +kernel
theorem dX7_recordGiven_26 : decode cX7_recordGiven 26 = .ok (.aload_n 0, 1) := by decide +kernel
theorem dX7_recordGiven_27 : decode cX7_recordGiven 27 = .ok (.getfield 26, 3) := by decide +kernel
theorem dX7_recordGiven_30 : decode cX7_recordGiven 30 = .ok (.aload_n 0, 1) := by decide +kernel
theorem dX7_recordGiven_31 : decode cX7_recordGiven 31 = .ok (.getfield 58, 3) := by decide +kernel
theorem dX7_recordGiven_34 : decode cX7_recordGiven 34 = .ok (.invokevirtual 112, 3) := by decide +kernel
theorem dX7_recordGiven_37 : decode cX7_recordGiven 37 = .ok (.istore 5, 2) := by decide +kernel
theorem dX7_recordGiven_39 : decode cX7_recordGiven 39 = .ok (.aload_n 0, 1) := by decide +kernel
theorem dX7_recordGiven_40 : decode cX7_recordGiven 40 = .ok (.getfield 26, 3) := by decide +kernel
theorem dX7_recordGiven_43 : decode cX7_recordGiven 43 = .ok (.iload 5, 2) := by decide +kernel
theorem dX7_recordGiven_45 : decode cX7_recordGiven 45 = .ok (.iload_n 3, 1) := by decide +kernel
theorem dX7_recordGiven_46 : decode cX7_recordGiven 46 = .ok (.iload 4, 2) := by decide +kernel
theorem dX7_recordGiven_48 : decode cX7_recordGiven 48 = .ok (.isub, 1) := by decide +kernel
theorem dX7_recordGiven_49 : decode cX7_recordGiven 49 = .ok (.i2l, 1) := by decide +kernel
theorem dX7_recordGiven_50 : decode cX7_recordGiven 50 = .ok (.invokevirtual 281, 3) := by decide +kernel
theorem dX7_recordGiven_53 : decode cX7_recordGiven 53 = .ok (.istore 6, 2) := by decide +kernel
theorem dX7_recordGiven_55 : decode cX7_recordGiven 55 = .ok (.iload 6, 2) := by decide +kernel
theorem dX7_recordGiven_57 : decode cX7_recordGiven 57 = .ok (.ifCond .le 29, 3) := by decide +kernel
theorem dX7_recordGiven_60 : decode cX7_recordGiven 60 = .ok (.aload_n 0, 1) := by decide +kernel
theorem dX7_recordGiven_61 : decode cX7_recordGiven 61 = .ok (.getfield 40, 3) := by decide +kernel
theorem dX7_recordGiven_64 : decode cX7_recordGiven 64 = .ok (.iload_n 2, 1) := by decide +kernel
theorem dX7_recordGiven_65 : decode cX7_recordGiven 65 = .ok (.iload_n 1, 1) := by decide +kernel
theorem dX7_recordGiven_66 : decode cX7_recordGiven 66 = .ok (.iload 6, 2) := by decide +kernel
theorem dX7_recordGiven_68 : decode cX7_recordGiven 68 = .ok (.aload_n 0, 1) := by decide +kernel
theorem dX7_recordGiven_69 : decode cX7_recordGiven 69 = .ok (.getfield 58, 3) := by decide +kernel
theorem dX7_recordGiven_72 : decode cX7_recordGiven 72 = .ok (.aload_n 0, 1) := by decide +kernel
theorem dX7_recordGiven_73 : decode cX7_recordGiven 73 = .ok (.getfield 26, 3) := by decide +kernel
theorem dX7_recordGiven_76 : decode cX7_recordGiven 76 = .ok (.iload 5, 2) := by decide +kernel
theorem dX7_recordGiven_78 : decode cX7_recordGiven 78 = .ok (.invokevirtual 288, 3) := by decide +kernel
theorem dX7_recordGiven_81 : decode cX7_recordGiven 81 = .ok (.iadd, 1) := by decide +kernel
theorem dX7_recordGiven_82 : decode cX7_recordGiven 82 = .ok (.invokevirtual 137, 3) := by decide +kernel
theorem dX7_recordGiven_85 : decode cX7_recordGiven 85 = .ok (.pop, 1) := by decide +kernel
theorem dX7_recordGiven_86 : decode cX7_recordGiven 86 = .ok (.iload 4, 2) := by decide +kernel
theorem dX7_recordGiven_88 : decode cX7_recordGiven 88 = .ok (.ireturn, 1) := by decide +kernel
set_option maxRecDepth 20000 in
theorem ggX7_growLoans_X2_inForce : GoodIn wsX7_growLoans wsX2_inForce := goodIn_r _ [10, 11, 12, 44, 45, 46, 47, 48, 49, 50, 51] (by decide +kernel) (by decide +kernel)
set_option maxRecDepth 20000 in
theorem gX7_growLoans_X2_inForce : GoodIn wsX7_growLoans (wsV RX7 112 RX2 yX2_inForce wsX2_inForce) := goodIn_app (goodIn_of _ (by decide +kernel)) ggX7_growLoans_X2_inForce
set_option maxRecDepth 20000 in
theorem ggX7_growLoans_X3_isLoan : GoodIn wsX7_growLoans wsX3_isLoan := goodIn_r _ [17, 18, 39, 40, 41, 42, 43] (by decide +kernel) (by decide +kernel)
set_option maxRecDepth 20000 in
theorem gX7_growLoans_X3_isLoan : GoodIn wsX7_growLoans (wsV RX7 221 RX3 yX3_isLoan wsX3_isLoan) := goodIn_app (goodIn_of _ (by decide +kernel)) ggX7_growLoans_X3_isLoan
set_option maxRecDepth 20000 in
theorem ggX7_growLoans_X2_grown : GoodIn wsX7_growLoans wsX2_grown := goodIn_r _ [22, 23, 24, 25, 26, 27, 28, 29, 44, 45, 46, 47, 48, 49, 50, 51] (by decide +kernel) (by decide +kernel)
set_option maxRecDepth 20000 in
theorem gX7_growLoans_X2_grown : GoodIn wsX7_growLoans (wsV RX7 291 RX2 yX2_grown wsX2_grown) := goodIn_app (goodIn_of _ (by decide +kernel)) ggX7_growLoans_X2_grown
theorem dX7_growLoans_0 : decode cX7_growLoans 0 = .ok (.aload_n 0, 1) := by decide +kernel
theorem dX7_growLoans_1 : decode cX7_growLoans 1 = .ok (.getfield 26, 3) := by decide +kernel
theorem dX7_growLoans_4 : decode cX7_growLoans 4 = .ok (.aload_n 0, 1) := by decide +kernel
theorem dX7_growLoans_5 : decode cX7_growLoans 5 = .ok (.getfield 58, 3) := by decide +kernel
theorem dX7_growLoans_8 : decode cX7_growLoans 8 = .ok (.invokevirtual 112, 3) := by decide +kernel
theorem dX7_growLoans_11 : decode cX7_growLoans 11 = .ok (.istore_n 1, 1) := by decide +kernel
theorem dX7_growLoans_12 : decode cX7_growLoans 12 = .ok (.iconst 0, 1) := by decide +kernel
theorem dX7_growLoans_13 : decode cX7_growLoans 13 = .ok (.istore_n 2, 1) := by decide +kernel
theorem dX7_growLoans_14 : decode cX7_growLoans 14 = .ok (.iload_n 2, 1) := by decide +kernel
theorem dX7_growLoans_15 : decode cX7_growLoans 15 = .ok (.aload_n 0, 1) := by decide +kernel
theorem dX7_growLoans_16 : decode cX7_growLoans 16 = .ok (.getfield 40, 3) := by decide +kernel
theorem dX7_growLoans_19 : decode cX7_growLoans 19 = .ok (.getfield 206, 3) := by decide +kernel
theorem dX7_growLoans_22 : decode cX7_growLoans 22 = .ok (.if_icmp .ge 46, 3) := by decide +kernel
theorem dX7_growLoans_25 : decode cX7_growLoans 25 = .ok (.aload_n 0, 1) := by decide +kernel
theorem dX7_growLoans_26 : decode cX7_growLoans 26 = .ok (.getfield 40, 3) := by decide +kernel
theorem dX7_growLoans_29 : decode cX7_growLoans 29 = .ok (.iload_n 2, 1) := by decide +kernel
theorem dX7_growLoans_30 : decode cX7_growLoans 30 = .ok (.invokevirtual 221, 3) := by decide +kernel
theorem dX7_growLoans_33 : decode cX7_growLoans 33 = .ok (.ifCond .eq 29, 3) := by decide +kernel
theorem dX7_growLoans_36 : decode cX7_growLoans 36 = .ok (.aload_n 0, 1) := by decide +kernel
theorem dX7_growLoans_37 : decode cX7_growLoans 37 = .ok (.getfield 40, 3) := by decide +kernel
theorem dX7_growLoans_40 : decode cX7_growLoans 40 = .ok (.getfield 218, 3) := by decide +kernel
theorem dX7_growLoans_43 : decode cX7_growLoans 43 = .ok (.iload_n 2, 1) := by decide +kernel
theorem dX7_growLoans_44 : decode cX7_growLoans 44 = .ok (.aload_n 0, 1) := by decide +kernel
theorem dX7_growLoans_45 : decode cX7_growLoans 45 = .ok (.getfield 26, 3) := by decide +kernel
theorem dX7_growLoans_48 : decode cX7_growLoans 48 = .ok (.iload_n 1, 1) := by decide +kernel
theorem dX7_growLoans_49 : decode cX7_growLoans 49 = .ok (.aload_n 0, 1) := by decide +kernel
theorem dX7_growLoans_50 : decode cX7_growLoans 50 = .ok (.getfield 40, 3) := by decide +kernel
theorem dX7_growLoans_53 : decode cX7_growLoans 53 = .ok (.getfield 218, 3) := by decide +kernel
theorem dX7_growLoans_56 : decode cX7_growLoans 56 = .ok (.iload_n 2, 1) := by decide +kernel
theorem dX7_growLoans_57 : decode cX7_growLoans 57 = .ok (.iaload, 1) := by decide +kernel
theorem dX7_growLoans_58 : decode cX7_growLoans 58 = .ok (.invokevirtual 291, 3) := by decide +kernel
theorem dX7_growLoans_61 : decode cX7_growLoans 61 = .ok (.iastore, 1) := by decide +kernel
theorem dX7_growLoans_62 : decode cX7_growLoans 62 = .ok (.iinc 2 1, 3) := by decide +kernel
theorem dX7_growLoans_65 : decode cX7_growLoans 65 = .ok (.goto (-51), 3) := by decide +kernel
theorem dX7_growLoans_68 : decode cX7_growLoans 68 = .ok (.return_, 1) := by decide +kernel
theorem dX8_init_0 : decode cX8_init 0 = .ok (.aload_n 0, 1) := by decide +kernel
theorem dX8_init_1 : decode cX8_init 1 = .ok (.invokespecial 1, 3) := by decide +kernel
theorem dX8_init_4 : decode cX8_init 4 = .ok (.aload_n 0, 1) := by decide +kernel
theorem dX8_init_5 : decode cX8_init 5 = .ok (.bipush 12, 2) := by decide +kernel
theorem dX8_init_7 : decode cX8_init 7 = .ok (.newarray .int, 2) := by decide +kernel
theorem dX8_init_9 : decode cX8_init 9 = .ok (.putfield 9, 3) := by decide +kernel
theorem dX8_init_12 : decode cX8_init 12 = .ok (.aload_n 0, 1) := by decide +kernel
theorem dX8_init_13 : decode cX8_init 13 = .ok (.bipush 12, 2) := by decide +kernel
theorem dX8_init_15 : decode cX8_init 15 = .ok (.newarray .long, 2) := by decide +kernel
theorem dX8_init_17 : decode cX8_init 17 = .ok (.putfield 13, 3) := by decide +kernel
theorem dX8_init_20 : decode cX8_init 20 = .ok (.aload_n 0, 1) := by decide +kernel
theorem dX8_init_21 : decode cX8_init 21 = .ok (.bipush 12, 2) := by decide +kernel
theorem dX8_init_23 : decode cX8_init 23 = .ok (.newarray .boolean, 2) := by decide +kernel
theorem dX8_init_25 : decode cX8_init 25 = .ok (.putfield 17, 3) := by decide +kernel
theorem dX8_init_28 : decode cX8_init 28 = .ok (.aload_n 0, 1) := by decide +kernel
theorem dX8_init_29 : decode cX8_init 29 = .ok (.sipush 200, 3) := by decide +kernel
theorem dX8_init_32 : decode cX8_init 32 = .ok (.newarray .byte, 2) := by decide +kernel
theorem dX8_init_34 : decode cX8_init 34 = .ok (.putfield 21, 3) := by decide +kernel
theorem dX8_init_37 : decode cX8_init 37 = .ok (.aload_n 0, 1) := by decide +kernel
theorem dX8_init_38 : decode cX8_init 38 = .ok (.iconst (-1), 1) := by decide +kernel
theorem dX8_init_39 : decode cX8_init 39 = .ok (.putfield 25, 3) := by decide +kernel
theorem dX8_init_42 : decode cX8_init 42 = .ok (.aload_n 0, 1) := by decide +kernel
theorem dX8_init_43 : decode cX8_init 43 = .ok (.bipush 20, 2) := by decide +kernel
theorem dX8_init_45 : decode cX8_init 45 = .ok (.newarray .int, 2) := by decide +kernel
theorem dX8_init_47 : decode cX8_init 47 = .ok (.putfield 29, 3) := by decide +kernel
theorem dX8_init_50 : decode cX8_init 50 = .ok (.aload_n 0, 1) := by decide +kernel
theorem dX8_init_51 : decode cX8_init 51 = .ok (.bipush 126, 2) := by decide +kernel
theorem dX8_init_53 : decode cX8_init 53 = .ok (.newarray .int, 2) := by decide +kernel
theorem dX8_init_55 : decode cX8_init 55 = .ok (.putfield 32, 3) := by decide +kernel
theorem dX8_init_58 : decode cX8_init 58 = .ok (.aload_n 0, 1) := by decide +kernel
theorem dX8_init_59 : decode cX8_init 59 = .ok (.sipush 400, 3) := by decide +kernel
theorem dX8_init_62 : decode cX8_init 62 = .ok (.newarray .int, 2) := by decide +kernel
theorem dX8_init_64 : decode cX8_init 64 = .ok (.putfield 35, 3) := by decide +kernel
theorem dX8_init_67 : decode cX8_init 67 = .ok (.aload_n 0, 1) := by decide +kernel
theorem dX8_init_68 : decode cX8_init 68 = .ok (.sipush 400, 3) := by decide +kernel
theorem dX8_init_71 : decode cX8_init 71 = .ok (.newarray .int, 2) := by decide +kernel
theorem dX8_init_73 : decode cX8_init 73 = .ok (.putfield 38, 3) := by decide +kernel
theorem dX8_init_76 : decode cX8_init 76 = .ok (.aload_n 0, 1) := by decide +kernel
theorem dX8_init_77 : decode cX8_init 77 = .ok (.sipush 400, 3) := by decide +kernel
theorem dX8_init_80 : decode cX8_init 80 = .ok (.newarray .long, 2) := by decide +kernel
theorem dX8_init_82 : decode cX8_init 82 = .ok (.putfield 41, 3) := by decide +kernel
theorem dX8_init_85 : decode cX8_init 85 = .ok (.aload_n 0, 1) := by decide +kernel
theorem dX8_init_86 : decode cX8_init 86 = .ok (.sipush 400, 3) := by decide +kernel
theorem dX8_init_89 : decode cX8_init 89 = .ok (.newarray .boolean, 2) := by decide +kernel
theorem dX8_init_91 : decode cX8_init 91 = .ok (.putfield 44, 3) := by decide +kernel
