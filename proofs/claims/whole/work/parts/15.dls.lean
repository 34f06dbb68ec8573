set_option maxRecDepth 20000 in
theorem ggL_chief_X7_chief : GoodIn wsL_chief wsX7_chief := goodIn_ca (goodIn_ca (goodIn_r _ [7, 8, 9, 10, 11, 12, 13, 14, 15, 16, 17, 18, 19, 20, 21, 22, 23, 24, 25, 26, 27, 28, 29, 30, 31, 32, 33, 34, 35] (by decide +kernel) (by decide +kernel)) (goodIn_sub (fun _ h => List.mem_cons_of_mem _ (List.mem_append_left _ (List.mem_append_right _ h))) (by decide +kernel))) (goodIn_sub (fun _ h => List.mem_cons_of_mem _ (List.mem_append_right _ h)) (by decide +kernel))
set_option maxRecDepth 20000 in
theorem gL_chief_X7_chief : GoodIn wsL_chief (wsV RL 7 RX7 yX7_chief wsX7_chief) := goodIn_app (goodIn_of _ (by decide +kernel)) ggL_chief_X7_chief
theorem dL_chief_0 : decode cL_chief 0 = .ok (.aload_n 2, 1) := by decide +kernel
theorem dL_chief_1 : decode cL_chief 1 = .ok (.iconst 0, 1) := by decide +kernel
theorem dL_chief_2 : decode cL_chief 2 = .ok (.aload_n 0, 1) := by decide +kernel
theorem dL_chief_3 : decode cL_chief 3 = .ok (.iload_n 1, 1) := by decide +kernel
theorem dL_chief_4 : decode cL_chief 4 = .ok (.invokevirtual 7, 3) := by decide +kernel
theorem dL_chief_7 : decode cL_chief 7 = .ok (.i2l, 1) := by decide +kernel
theorem dL_chief_8 : decode cL_chief 8 = .ok (.lastore, 1) := by decide +kernel
theorem dL_chief_9 : decode cL_chief 9 = .ok (.goto 9, 3) := by decide +kernel
theorem dL_chief_12 : decode cL_chief 12 = .ok (.astore_n 3, 1) := by decide +kernel
theorem dL_chief_13 : decode cL_chief 13 = .ok (.iconst 1, 1) := by decide +kernel
theorem dL_chief_14 : decode cL_chief 14 = .ok (.ireturn, 1) := by decide +kernel
theorem dL_chief_15 : decode cL_chief 15 = .ok (.astore_n 3, 1) := by decide +kernel
theorem dL_chief_16 : decode cL_chief 16 = .ok (.iconst 2, 1) := by decide +kernel
theorem dL_chief_17 : decode cL_chief 17 = .ok (.ireturn, 1) := by decide +kernel
theorem dL_chief_18 : decode cL_chief 18 = .ok (.iconst 0, 1) := by decide +kernel
theorem dL_chief_19 : decode cL_chief 19 = .ok (.ireturn, 1) := by decide +kernel
set_option maxRecDepth 20000 in
theorem ggL_custom_X7_custom : GoodIn wsL_custom wsX7_custom := goodIn_ca (goodIn_ca (goodIn_r _ [7, 8, 9, 10, 11, 12, 13, 14, 15, 16, 17, 18, 19, 20, 21, 22, 23, 24, 25, 26, 27, 28, 29, 30, 31, 32, 33, 34, 35, 36, 37, 38, 39, 40, 41, 42, 43, 44, 45, 46, 47, 48, 49, 50, 51, 52, 53, 54, 55, 56, 57, 58, 59, 60, 61, 62, 63, 64, 65, 66, 67, 68, 69, 70, 71, 72, 73, 74, 75, 76, 77, 78, 79, 80, 81, 82, 83, 84, 85, 86, 87, 88, 89, 90, 91, 92, 93, 94, 95, 96, 97, 98, 99, 100, 101, 102, 103, 104, 105, 106, 107, 108, 109, 110, 111, 112, 113, 114, 115, 116, 117, 118, 119, 120, 121, 122, 123, 124, 125, 126, 127, 128, 129, 130, 131, 132, 133, 134, 135, 136, 137, 138, 139, 140, 141, 142, 143, 144, 145, 146, 147, 148, 149, 150, 151, 152, 153, 154, 155, 156, 157, 158, 159, 160, 161, 162, 163, 164, 165, 166, 167, 168, 169, 170, 171, 172, 173, 174, 175, 176, 177, 178, 179, 180, 181, 182] (by decide +kernel) (by decide +kernel)) (goodIn_sub (fun _ h => List.mem_cons_of_mem _ (List.mem_append_left _ (List.mem_append_right _ h))) (by decide +kernel))) (goodIn_sub (fun _ h => List.mem_cons_of_mem _ (List.mem_append_right _ h)) (by decide +kernel))
set_option maxRecDepth 20000 in
theorem gL_custom_X7_custom : GoodIn wsL_custom (wsV RL 17 RX7 yX7_custom wsX7_custom) := goodIn_app (goodIn_of _ (by decide +kernel)) ggL_custom_X7_custom
theorem dL_custom_0 : decode cL_custom 0 = .ok (.aload_n 3, 1) := by decide +kernel
theorem dL_custom_1 : decode cL_custom 1 = .ok (.iconst 0, 1) := by decide +kernel
theorem dL_custom_2 : decode cL_custom 2 = .ok (.aload_n 0, 1) := by decide +kernel
theorem dL_custom_3 : decode cL_custom 3 = .ok (.iload_n 1, 1) := by decide +kernel
theorem dL_custom_4 : decode cL_custom 4 = .ok (.iload_n 2, 1) := by decide +kernel
theorem dL_custom_5 : decode cL_custom 5 = .ok (.invokevirtual 17, 3) := by decide +kernel
theorem dL_custom_8 : decode cL_custom 8 = .ok (.i2l, 1) := by decide +kernel
theorem dL_custom_9 : decode cL_custom 9 = .ok (.lastore, 1) := by decide +kernel
theorem dL_custom_10 : decode cL_custom 10 = .ok (.goto 11, 3) := by decide +kernel
theorem dL_custom_13 : decode cL_custom 13 = .ok (.astore 4, 2) := by decide +kernel
theorem dL_custom_15 : decode cL_custom 15 = .ok (.iconst 1, 1) := by decide +kernel
theorem dL_custom_16 : decode cL_custom 16 = .ok (.ireturn, 1) := by decide +kernel
theorem dL_custom_17 : decode cL_custom 17 = .ok (.astore 4, 2) := by decide +kernel
theorem dL_custom_19 : decode cL_custom 19 = .ok (.iconst 2, 1) := by decide +kernel
theorem dL_custom_20 : decode cL_custom 20 = .ok (.ireturn, 1) := by decide +kernel
theorem dL_custom_21 : decode cL_custom 21 = .ok (.iconst 0, 1) := by decide +kernel
theorem dL_custom_22 : decode cL_custom 22 = .ok (.ireturn, 1) := by decide +kernel
set_option maxRecDepth 20000 in
theorem ggL_give_X7_give : GoodIn wsL_give wsX7_give := goodIn_ca (goodIn_ca (goodIn_ca (goodIn_r _ [8, 9, 10, 11, 12, 13, 14, 7, 15, 16, 17, 18, 19, 20, 21, 22, 23, 24, 25, 26, 27, 28, 29, 30, 31, 32, 33, 34, 35, 36, 37, 38, 39, 40, 41, 42, 43, 44, 45, 46, 47, 48, 49, 50, 51, 52, 53, 54, 55, 56, 57, 58, 59, 60, 61, 62, 63, 64, 65, 66, 67, 68, 69, 70, 71, 72, 73, 74, 75, 76, 77, 78, 79, 80, 81, 82, 83, 84, 85, 86, 87, 88, 89, 90, 91, 92, 93, 94, 95, 96, 97, 98, 99, 100, 101, 102, 103, 104, 105, 106, 107, 108, 109, 110, 111, 112, 113, 114, 115, 116, 117, 118, 119, 120, 121, 122, 123, 124, 125, 126, 127, 128, 129, 130, 131, 132, 133, 134, 135, 136, 137, 138, 139, 140] (by decide +kernel) (by decide +kernel)) (goodIn_sub (fun _ h => List.mem_cons_of_mem _ (List.mem_append_left _ (List.mem_append_left _ (List.mem_append_right _ h)))) (by decide +kernel))) (goodIn_sub (fun _ h => List.mem_cons_of_mem _ (List.mem_append_left _ (List.mem_append_right _ h))) (by decide +kernel))) (goodIn_sub (fun _ h => List.mem_cons_of_mem _ (List.mem_append_right _ h)) (by decide +kernel))
set_option maxRecDepth 20000 in
theorem gL_give_X7_give : GoodIn wsL_give (wsV RL 21 RX7 yX7_give wsX7_give) := goodIn_app (goodIn_of _ (by decide +kernel)) ggL_give_X7_give
theorem dL_give_0 : decode cL_give 0 = .ok (.aload 4, 2) := by decide +kernel
theorem dL_give_2 : decode cL_give 2 = .ok (.iconst 0, 1) := by decide +kernel
theorem dL_give_3 : decode cL_give 3 = .ok (.aload_n 0, 1) := by decide +kernel
theorem dL_give_4 : decode cL_give 4 = .ok (.iload_n 1, 1) := by decide +kernel
theorem dL_give_5 : decode cL_give 5 = .ok (.iload_n 2, 1) := by decide +kernel
theorem dL_give_6 : decode cL_give 6 = .ok (.iload_n 3, 1) := by decide +kernel
theorem dL_give_7 : decode cL_give 7 = .ok (.invokevirtual 21, 3) := by decide +kernel
theorem dL_give_10 : decode cL_give 10 = .ok (.i2l, 1) := by decide +kernel
theorem dL_give_11 : decode cL_give 11 = .ok (.lastore, 1) := by decide +kernel
theorem dL_give_12 : decode cL_give 12 = .ok (.goto 15, 3) := by decide +kernel
theorem dL_give_15 : decode cL_give 15 = .ok (.astore 5, 2) := by decide +kernel
theorem dL_give_17 : decode cL_give 17 = .ok (.iconst 1, 1) := by decide +kernel
theorem dL_give_18 : decode cL_give 18 = .ok (.ireturn, 1) := by decide +kernel
theorem dL_give_19 : decode cL_give 19 = .ok (.astore 5, 2) := by decide +kernel
theorem dL_give_21 : decode cL_give 21 = .ok (.iconst 2, 1) := by decide +kernel
theorem dL_give_22 : decode cL_give 22 = .ok (.ireturn, 1) := by decide +kernel
theorem dL_give_23 : decode cL_give 23 = .ok (.astore 5, 2) := by decide +kernel
theorem dL_give_25 : decode cL_give 25 = .ok (.iconst 3, 1) := by decide +kernel
theorem dL_give_26 : decode cL_give 26 = .ok (.ireturn, 1) := by decide +kernel
theorem dL_give_27 : decode cL_give 27 = .ok (.iconst 0, 1) := by decide +kernel
theorem dL_give_28 : decode cL_give 28 = .ok (.ireturn, 1) := by decide +kernel
set_option maxRecDepth 20000 in
theorem ggL_lend_X7_lend : GoodIn wsL_lend wsX7_lend := goodIn_ca (goodIn_ca (goodIn_ca (goodIn_r _ [8, 9, 10, 11, 12, 13, 14, 7, 15, 16, 17, 18, 19, 20, 21, 22, 23, 24, 25, 26, 27, 28, 29, 30, 31, 32, 33, 34, 35, 36, 37, 38, 39, 40, 41, 42, 43, 44, 45, 46, 47, 48, 49, 50, 51, 52, 53, 54, 55, 56, 57, 58, 59, 60, 61, 62, 63, 64, 65, 66, 67, 68, 69] (by decide +kernel) (by decide +kernel)) (goodIn_sub (fun _ h => List.mem_cons_of_mem _ (List.mem_append_left _ (List.mem_append_left _ (List.mem_append_right _ h)))) (by decide +kernel))) (goodIn_sub (fun _ h => List.mem_cons_of_mem _ (List.mem_append_left _ (List.mem_append_right _ h))) (by decide +kernel))) (goodIn_sub (fun _ h => List.mem_cons_of_mem _ (List.mem_append_right _ h)) (by decide +kernel))
set_option maxRecDepth 20000 in
theorem gL_lend_X7_lend : GoodIn wsL_lend (wsV RL 27 RX7 yX7_lend wsX7_lend) := goodIn_app (goodIn_of _ (by decide +kernel)) ggL_lend_X7_lend
theorem dL_lend_0 : decode cL_lend 0 = .ok (.aload 4, 2) := by decide +kernel
theorem dL_lend_2 : decode cL_lend 2 = .ok (.iconst 0, 1) := by decide +kernel
theorem dL_lend_3 : decode cL_lend 3 = .ok (.aload_n 0, 1) := by decide +kernel
theorem dL_lend_4 : decode cL_lend 4 = .ok (.iload_n 1, 1) := by decide +kernel
theorem dL_lend_5 : decode cL_lend 5 = .ok (.iload_n 2, 1) := by decide +kernel
theorem dL_lend_6 : decode cL_lend 6 = .ok (.iload_n 3, 1) := by decide +kernel
theorem dL_lend_7 : decode cL_lend 7 = .ok (.invokevirtual 27, 3) := by decide +kernel
theorem dL_lend_10 : decode cL_lend 10 = .ok (.i2l, 1) := by decide +kernel
theorem dL_lend_11 : decode cL_lend 11 = .ok (.lastore, 1) := by decide +kernel
theorem dL_lend_12 : decode cL_lend 12 = .ok (.goto 15, 3) := by decide +kernel
theorem dL_lend_15 : decode cL_lend 15 = .ok (.astore 5, 2) := by decide +kernel
theorem dL_lend_17 : decode cL_lend 17 = .ok (.iconst 1, 1) := by decide +kernel
theorem dL_lend_18 : decode cL_lend 18 = .ok (.ireturn, 1) := by decide +kernel
theorem dL_lend_19 : decode cL_lend 19 = .ok (.astore 5, 2) := by decide +kernel
theorem dL_lend_21 : decode cL_lend 21 = .ok (.iconst 2, 1) := by decide +kernel
theorem dL_lend_22 : decode cL_lend 22 = .ok (.ireturn, 1) := by decide +kernel
theorem dL_lend_23 : decode cL_lend 23 = .ok (.astore 5, 2) := by decide +kernel
theorem dL_lend_25 : decode cL_lend 25 = .ok (.iconst 3, 1) := by decide +kernel
theorem dL_lend_26 : decode cL_lend 26 = .ok (.ireturn, 1) := by decide +kernel
theorem dL_lend_27 : decode cL_lend 27 = .ok (.iconst 0, 1) := by decide +kernel
theorem dL_lend_28 : decode cL_lend 28 = .ok (.ireturn, 1) := by decide +kernel
set_option maxRecDepth 20000 in
theorem ggL_copper_X7_copper : GoodIn wsL_copper wsX7_copper := goodIn_ca (goodIn_ca (goodIn_ca (goodIn_r _ [8, 9, 10, 11, 12, 13, 14, 15, 16, 17, 18, 7, 19, 20, 21, 22, 23, 24, 25, 26, 27, 28, 29, 30, 31, 32, 33, 34, 35, 36, 37, 38, 39, 40, 41, 42, 43, 44, 45, 46, 47, 48, 49, 50, 51, 52, 53, 54] (by decide +kernel) (by decide +kernel)) (goodIn_sub (fun _ h => List.mem_cons_of_mem _ (List.mem_append_left _ (List.mem_append_left _ (List.mem_append_right _ h)))) (by decide +kernel))) (goodIn_sub (fun _ h => List.mem_cons_of_mem _ (List.mem_append_left _ (List.mem_append_right _ h))) (by decide +kernel))) (goodIn_sub (fun _ h => List.mem_cons_of_mem _ (List.mem_append_right _ h)) (by decide +kernel))
set_option maxRecDepth 20000 in
theorem gL_copper_X7_copper : GoodIn wsL_copper (wsV RL 30 RX7 yX7_copper wsX7_copper) := goodIn_app (goodIn_of _ (by decide +kernel)) ggL_copper_X7_copper
theorem dL_copper_0 : decode cL_copper 0 = .ok (.aload_n 3, 1) := by decide +kernel
theorem dL_copper_1 : decode cL_copper 1 = .ok (.iconst 0, 1) := by decide +kernel
theorem dL_copper_2 : decode cL_copper 2 = .ok (.aload_n 0, 1) := by decide +kernel
theorem dL_copper_3 : decode cL_copper 3 = .ok (.iload_n 1, 1) := by decide +kernel
theorem dL_copper_4 : decode cL_copper 4 = .ok (.iload_n 2, 1) := by decide +kernel
theorem dL_copper_5 : decode cL_copper 5 = .ok (.invokevirtual 30, 3) := by decide +kernel
theorem dL_copper_8 : decode cL_copper 8 = .ok (.i2l, 1) := by decide +kernel
theorem dL_copper_9 : decode cL_copper 9 = .ok (.lastore, 1) := by decide +kernel
theorem dL_copper_10 : decode cL_copper 10 = .ok (.goto 15, 3) := by decide +kernel
theorem dL_copper_13 : decode cL_copper 13 = .ok (.astore 4, 2) := by decide +kernel
theorem dL_copper_15 : decode cL_copper 15 = .ok (.iconst 1, 1) := by decide +kernel
theorem dL_copper_16 : decode cL_copper 16 = .ok (.ireturn, 1) := by decide +kernel
theorem dL_copper_17 : decode cL_copper 17 = .ok (.astore 4, 2) := by decide +kernel
theorem dL_copper_19 : decode cL_copper 19 = .ok (.iconst 2, 1) := by decide +kernel
theorem dL_copper_20 : decode cL_copper 20 = .ok (.ireturn, 1) := by decide +kernel
theorem dL_copper_21 : decode cL_copper 21 = .ok (.astore 4, 2) := by decide +kernel
theorem dL_copper_23 : decode cL_copper 23 = .ok (.iconst 3, 1) := by decide +kernel
theorem dL_copper_24 : decode cL_copper 24 = .ok (.ireturn, 1) := by decide +kernel
theorem dL_copper_25 : decode cL_copper 25 = .ok (.iconst 0, 1) := by decide +kernel
theorem dL_copper_26 : decode cL_copper 26 = .ok (.ireturn, 1) := by decide +kernel
set_option maxRecDepth 20000 in
theorem ggL_pass_X7_pass : GoodIn wsL_pass wsX7_pass := goodIn_ca (goodIn_ca (goodIn_ca (goodIn_r _ [8, 9, 10, 11, 12, 13, 14, 15, 16, 17, 7, 18, 19, 20, 21, 22, 23, 24, 25, 26, 27, 28, 29, 30, 31, 32, 33, 34, 35, 36, 37, 38, 39, 40, 41, 42, 43, 44, 45, 46, 47, 48, 49, 50, 51, 52, 53, 54, 55, 56, 57, 58, 59, 60, 61, 62, 63, 64, 65, 66, 67, 68, 69, 70, 71, 72, 73, 74, 75, 76, 77, 78, 79, 80, 81, 82, 83, 84, 85, 86, 87, 88, 89, 90, 91, 92, 93, 94, 95, 96, 97, 98, 99, 100, 101, 102, 103, 104, 105, 106, 107, 108, 109, 110, 111, 112, 113, 114, 115, 116, 117, 118, 119, 120, 121, 122, 123, 124, 125, 126, 127, 128, 129, 130, 131, 132, 133, 134, 135, 136, 137, 138, 139, 140, 141] (by decide +kernel) (by decide +kernel)) (goodIn_sub (fun _ h => List.mem_cons_of_mem _ (List.mem_append_left _ (List.mem_append_left _ (List.mem_append_right _ h)))) (by decide +kernel))) (goodIn_sub (fun _ h => List.mem_cons_of_mem _ (List.mem_append_left _ (List.mem_append_right _ h))) (by decide +kernel))) (goodIn_sub (fun _ h => List.mem_cons_of_mem _ (List.mem_append_right _ h)) (by decide +kernel))
set_option maxRecDepth 20000 in
theorem gL_pass_X7_pass : GoodIn wsL_pass (wsV RL 33 RX7 yX7_pass wsX7_pass) := goodIn_app (goodIn_of _ (by decide +kernel)) ggL_pass_X7_pass
theorem dL_pass_0 : decode cL_pass 0 = .ok (.aload_n 3, 1) := by decide +kernel
theorem dL_pass_1 : decode cL_pass 1 = .ok (.iconst 0, 1) := by decide +kernel
theorem dL_pass_2 : decode cL_pass 2 = .ok (.aload_n 0, 1) := by decide +kernel
theorem dL_pass_3 : decode cL_pass 3 = .ok (.iload_n 1, 1) := by decide +kernel
theorem dL_pass_4 : decode cL_pass 4 = .ok (.iload_n 2, 1) := by decide +kernel
theorem dL_pass_5 : decode cL_pass 5 = .ok (.invokevirtual 33, 3) := by decide +kernel
theorem dL_pass_8 : decode cL_pass 8 = .ok (.i2l, 1) := by decide +kernel
theorem dL_pass_9 : decode cL_pass 9 = .ok (.lastore, 1) := by decide +kernel
theorem dL_pass_10 : decode cL_pass 10 = .ok (.goto 15, 3) := by decide +kernel
theorem dL_pass_13 : decode cL_pass 13 = .ok (.astore 4, 2) := by decide +kernel
theorem dL_pass_15 : decode cL_pass 15 = .ok (.iconst 1, 1) := by decide +kernel
theorem dL_pass_16 : decode cL_pass 16 = .ok (.ireturn, 1) := by decide +kernel
theorem dL_pass_17 : decode cL_pass 17 = .ok (.astore 4, 2) := by decide +kernel
theorem dL_pass_19 : decode cL_pass 19 = .ok (.iconst 2, 1) := by decide +kernel
theorem dL_pass_20 : decode cL_pass 20 = .ok (.ireturn, 1) := by decide +kernel
theorem dL_pass_21 : decode cL_pass 21 = .ok (.astore 4, 2) := by decide +kernel
theorem dL_pass_23 : decode cL_pass 23 = .ok (.iconst 3, 1) := by decide +kernel
theorem dL_pass_24 : decode cL_pass 24 = .ok (.ireturn, 1) := by decide +kernel
theorem dL_pass_25 : decode cL_pass 25 = .ok (.iconst 0, 1) := by decide +kernel
theorem dL_pass_26 : decode cL_pass 26 = .ok (.ireturn, 1) := by decide +kernel
set_option maxRecDepth 20000 in
theorem ggL_breaks_X7_breaks : GoodIn wsL_breaks wsX7_breaks := goodIn_ca (goodIn_r _ [6, 7, 8, 9, 10, 11, 5, 12, 13, 14, 15, 16, 17, 18, 19, 20, 21, 22, 23, 24, 25, 26, 27, 28, 29, 30, 31, 32, 33, 34, 35, 36, 37, 38, 39] (by decide +kernel) (by decide +kernel)) (goodIn_sub (fun _ h => List.mem_cons_of_mem _ (List.mem_append_right _ h)) (by decide +kernel))
set_option maxRecDepth 20000 in
theorem gL_breaks_X7_breaks : GoodIn wsL_breaks (wsV RL 36 RX7 yX7_breaks wsX7_breaks) := goodIn_app (goodIn_of _ (by decide +kernel)) ggL_breaks_X7_breaks
theorem dL_breaks_0 : decode cL_breaks 0 = .ok (.aload_n 2, 1) := by decide +kernel
theorem dL_breaks_1 : decode cL_breaks 1 = .ok (.iconst 0, 1) := by decide +kernel
theorem dL_breaks_2 : decode cL_breaks 2 = .ok (.aload_n 0, 1) := by decide +kernel
theorem dL_breaks_3 : decode cL_breaks 3 = .ok (.iload_n 1, 1) := by decide +kernel
theorem dL_breaks_4 : decode cL_breaks 4 = .ok (.invokevirtual 36, 3) := by decide +kernel
theorem dL_breaks_7 : decode cL_breaks 7 = .ok (.i2l, 1) := by decide +kernel
theorem dL_breaks_8 : decode cL_breaks 8 = .ok (.lastore, 1) := by decide +kernel
theorem dL_breaks_9 : decode cL_breaks 9 = .ok (.goto 6, 3) := by decide +kernel
theorem dL_breaks_12 : decode cL_breaks 12 = .ok (.astore_n 3, 1) := by decide +kernel
theorem dL_breaks_13 : decode cL_breaks 13 = .ok (.iconst 1, 1) := by decide +kernel
theorem dL_breaks_14 : decode cL_breaks 14 = .ok (.ireturn, 1) := by decide +kernel
theorem dL_breaks_15 : decode cL_breaks 15 = .ok (.iconst 0, 1) := by decide +kernel
theorem dL_breaks_16 : decode cL_breaks 16 = .ok (.ireturn, 1) := by decide +kernel
set_option maxRecDepth 20000 in
theorem ggL_copperTold_X7_copperTold : GoodIn wsL_copperTold wsX7_copperTold := goodIn_ca (goodIn_ca (goodIn_r _ [7, 8, 9, 10, 11, 12, 13, 14, 15, 6, 16, 17, 18, 19, 20, 21, 22, 23, 24, 25, 26, 27, 28, 29, 30, 31, 32] (by decide +kernel) (by decide +kernel)) (goodIn_sub (fun _ h => List.mem_cons_of_mem _ (List.mem_append_left _ (List.mem_append_right _ h))) (by decide +kernel))) (goodIn_sub (fun _ h => List.mem_cons_of_mem _ (List.mem_append_right _ h)) (by decide +kernel))
set_option maxRecDepth 20000 in
theorem gL_copperTold_X7_copperTold : GoodIn wsL_copperTold (wsV RL 39 RX7 yX7_copperTold wsX7_copperTold) := goodIn_app (goodIn_of _ (by decide +kernel)) ggL_copperTold_X7_copperTold
theorem dL_copperTold_0 : decode cL_copperTold 0 = .ok (.aload_n 3, 1) := by decide +kernel
theorem dL_copperTold_1 : decode cL_copperTold 1 = .ok (.iconst 0, 1) := by decide +kernel
theorem dL_copperTold_2 : decode cL_copperTold 2 = .ok (.aload_n 0, 1) := by decide +kernel
theorem dL_copperTold_3 : decode cL_copperTold 3 = .ok (.iload_n 1, 1) := by decide +kernel
theorem dL_copperTold_4 : decode cL_copperTold 4 = .ok (.iload_n 2, 1) := by decide +kernel
theorem dL_copperTold_5 : decode cL_copperTold 5 = .ok (.invokevirtual 39, 3) := by decide +kernel
theorem dL_copperTold_8 : decode cL_copperTold 8 = .ok (.i2l, 1) := by decide +kernel
theorem dL_copperTold_9 : decode cL_copperTold 9 = .ok (.lastore, 1) := by decide +kernel
theorem dL_copperTold_10 : decode cL_copperTold 10 = .ok (.goto 11, 3) := by decide +kernel
theorem dL_copperTold_13 : decode cL_copperTold 13 = .ok (.astore 4, 2) := by decide +kernel
theorem dL_copperTold_15 : decode cL_copperTold 15 = .ok (.iconst 1, 1) := by decide +kernel
theorem dL_copperTold_16 : decode cL_copperTold 16 = .ok (.ireturn, 1) := by decide +kernel
theorem dL_copperTold_17 : decode cL_copperTold 17 = .ok (.astore 4, 2) := by decide +kernel
theorem dL_copperTold_19 : decode cL_copperTold 19 = .ok (.iconst 2, 1) := by decide +kernel
theorem dL_copperTold_20 : decode cL_copperTold 20 = .ok (.ireturn, 1) := by decide +kernel
theorem dL_copperTold_21 : decode cL_copperTold 21 = .ok (.iconst 0, 1) := by decide +kernel
theorem dL_copperTold_22 : decode cL_copperTold 22 = .ok (.ireturn, 1) := by decide +kernel
set_option maxRecDepth 20000 in
theorem ggL_feast_X7_feast : GoodIn wsL_feast wsX7_feast := goodIn_ca (goodIn_ca (goodIn_ca (goodIn_r _ [8, 9, 10, 11, 12, 13, 14, 15, 16, 17, 7, 18, 19, 20, 21, 22, 23, 24, 25, 26, 27, 28, 29, 30, 31, 32, 33, 34, 35, 36, 37, 38, 39, 40, 41, 42, 43, 44, 45, 46, 47, 48, 49, 50, 51, 52, 53, 54, 55, 56, 57, 58, 59, 60, 61, 62, 63, 64, 65, 66, 67, 68, 69, 70, 71, 72, 73, 74, 75, 76, 77, 78, 79, 80, 81, 82, 83, 84, 85, 86, 87, 88, 89, 90, 91, 92, 93, 94, 95, 96, 97, 98, 99, 100, 101, 102, 103, 104, 105, 106, 107, 108, 109, 110, 111, 112, 113, 114, 115, 116, 117, 118, 119, 120, 121, 122, 123, 124, 125, 126, 127, 128, 129, 130, 131, 132, 133, 134, 135, 136, 137, 138, 139, 140, 141, 142, 143, 144, 145, 146, 147, 148, 149, 150, 151, 152, 153, 154, 155, 156, 157, 158, 159, 160] (by decide +kernel) (by decide +kernel)) (goodIn_sub (fun _ h => List.mem_cons_of_mem _ (List.mem_append_left _ (List.mem_append_left _ (List.mem_append_right _ h)))) (by decide +kernel))) (goodIn_sub (fun _ h => List.mem_cons_of_mem _ (List.mem_append_left _ (List.mem_append_right _ h))) (by decide +kernel))) (goodIn_sub (fun _ h => List.mem_cons_of_mem _ (List.mem_append_right _ h)) (by decide +kernel))
set_option maxRecDepth 20000 in
theorem gL_feast_X7_feast : GoodIn wsL_feast (wsV RL 42 RX7 yX7_feast wsX7_feast) := goodIn_app (goodIn_of _ (by decide +kernel)) ggL_feast_X7_feast
theorem dL_feast_0 : decode cL_feast 0 = .ok (.aload 5, 2) := by decide +kernel
theorem dL_feast_2 : decode cL_feast 2 = .ok (.iconst 0, 1) := by decide +kernel
theorem dL_feast_3 : decode cL_feast 3 = .ok (.aload_n 0, 1) := by decide +kernel
theorem dL_feast_4 : decode cL_feast 4 = .ok (.iload_n 1, 1) := by decide +kernel
theorem dL_feast_5 : decode cL_feast 5 = .ok (.iload_n 2, 1) := by decide +kernel
theorem dL_feast_6 : decode cL_feast 6 = .ok (.iload_n 3, 1) := by decide +kernel
theorem dL_feast_7 : decode cL_feast 7 = .ok (.iload 4, 2) := by decide +kernel
theorem dL_feast_9 : decode cL_feast 9 = .ok (.invokevirtual 42, 3) := by decide +kernel
theorem dL_feast_12 : decode cL_feast 12 = .ok (.i2l, 1) := by decide +kernel
theorem dL_feast_13 : decode cL_feast 13 = .ok (.lastore, 1) := by decide +kernel
theorem dL_feast_14 : decode cL_feast 14 = .ok (.goto 15, 3) := by decide +kernel
theorem dL_feast_17 : decode cL_feast 17 = .ok (.astore 6, 2) := by decide +kernel
theorem dL_feast_19 : decode cL_feast 19 = .ok (.iconst 1, 1) := by decide +kernel
theorem dL_feast_20 : decode cL_feast 20 = .ok (.ireturn, 1) := by decide +kernel
theorem dL_feast_21 : decode cL_feast 21 = .ok (.astore 6, 2) := by decide +kernel
theorem dL_feast_23 : decode cL_feast 23 = .ok (.iconst 2, 1) := by decide +kernel
theorem dL_feast_24 : decode cL_feast 24 = .ok (.ireturn, 1) := by decide +kernel
theorem dL_feast_25 : decode cL_feast 25 = .ok (.astore 6, 2) := by decide +kernel
theorem dL_feast_27 : decode cL_feast 27 = .ok (.iconst 3, 1) := by decide +kernel
theorem dL_feast_28 : decode cL_feast 28 = .ok (.ireturn, 1) := by decide +kernel
theorem dL_feast_29 : decode cL_feast 29 = .ok (.iconst 0, 1) := by decide +kernel
theorem dL_feast_30 : decode cL_feast 30 = .ok (.ireturn, 1) := by decide +kernel
set_option maxRecDepth 20000 in
theorem ggL_died_X7_died : GoodIn wsL_died wsX7_died := goodIn_ca (goodIn_ca (goodIn_ca (goodIn_r _ [8, 9, 10, 11, 12, 13, 14, 15, 16, 17, 18, 7, 19, 20, 21, 22, 23, 24, 25, 26, 27, 28, 29, 30, 31, 32, 33, 34, 35, 36, 37, 38, 39, 40, 41, 42, 43, 44, 45, 46, 47, 48, 49, 50, 51, 52, 53, 54, 55, 56, 57, 58, 59, 60, 61, 62, 63, 64, 65, 66, 67, 68, 69, 70, 71, 72, 73, 74, 75, 76] (by decide +kernel) (by decide +kernel)) (goodIn_sub (fun _ h => List.mem_cons_of_mem _ (List.mem_append_left _ (List.mem_append_left _ (List.mem_append_right _ h)))) (by decide +kernel))) (goodIn_sub (fun _ h => List.mem_cons_of_mem _ (List.mem_append_left _ (List.mem_append_right _ h))) (by decide +kernel))) (goodIn_sub (fun _ h => List.mem_cons_of_mem _ (List.mem_append_right _ h)) (by decide +kernel))
set_option maxRecDepth 20000 in
theorem gL_died_X7_died : GoodIn wsL_died (wsV RL 46 RX7 yX7_died wsX7_died) := goodIn_app (goodIn_of _ (by decide +kernel)) ggL_died_X7_died
theorem dL_died_0 : decode cL_died 0 = .ok (.aload_n 3, 1) := by decide +kernel
theorem dL_died_1 : decode cL_died 1 = .ok (.iconst 0, 1) := by decide +kernel
theorem dL_died_2 : decode cL_died 2 = .ok (.aload_n 0, 1) := by decide +kernel
theorem dL_died_3 : decode cL_died 3 = .ok (.iload_n 1, 1) := by decide +kernel
theorem dL_died_4 : decode cL_died 4 = .ok (.iload_n 2, 1) := by decide +kernel
theorem dL_died_5 : decode cL_died 5 = .ok (.invokevirtual 46, 3) := by decide +kernel
theorem dL_died_8 : decode cL_died 8 = .ok (.i2l, 1) := by decide +kernel
theorem dL_died_9 : decode cL_died 9 = .ok (.lastore, 1) := by decide +kernel
theorem dL_died_10 : decode cL_died 10 = .ok (.goto 15, 3) := by decide +kernel
theorem dL_died_13 : decode cL_died 13 = .ok (.astore 4, 2) := by decide +kernel
theorem dL_died_15 : decode cL_died 15 = .ok (.iconst 1, 1) := by decide +kernel
theorem dL_died_16 : decode cL_died 16 = .ok (.ireturn, 1) := by decide +kernel
theorem dL_died_17 : decode cL_died 17 = .ok (.astore 4, 2) := by decide +kernel
theorem dL_died_19 : decode cL_died 19 = .ok (.iconst 2, 1) := by decide +kernel
theorem dL_died_20 : decode cL_died 20 = .ok (.ireturn, 1) := by decide +kernel
theorem dL_died_21 : decode cL_died 21 = .ok (.astore 4, 2) := by decide +kernel
theorem dL_died_23 : decode cL_died 23 = .ok (.iconst 3, 1) := by decide +kernel
theorem dL_died_24 : decode cL_died 24 = .ok (.ireturn, 1) := by decide +kernel
theorem dL_died_25 : decode cL_died 25 = .ok (.iconst 0, 1) := by decide +kernel
theorem dL_died_26 : decode cL_died 26 = .ok (.ireturn, 1) := by decide +kernel
set_option maxRecDepth 20000 in
theorem ggL_wait_X7_wait : GoodIn wsL_wait wsX7_wait := goodIn_ca (goodIn_r _ [6, 7, 8, 9, 10, 11, 12, 5, 13, 14, 15, 16, 17, 18, 19, 20, 21, 22, 23, 24, 25, 26, 27, 28, 29, 30, 31, 32, 33, 34, 35, 36, 37, 38, 39, 40, 41, 42, 43, 44, 45, 46, 47, 48, 49, 50, 51, 52, 53, 54, 55, 56, 57, 58, 59, 60, 61, 62, 63] (by decide +kernel) (by decide +kernel)) (goodIn_sub (fun _ h => List.mem_cons_of_mem _ (List.mem_append_right _ h)) (by decide +kernel))
set_option maxRecDepth 20000 in
theorem gL_wait_X7_wait : GoodIn wsL_wait (wsV RL 49 RX7 yX7_wait wsX7_wait) := goodIn_app (goodIn_of _ (by decide +kernel)) ggL_wait_X7_wait
theorem dL_wait_0 : decode cL_wait 0 = .ok (.aload_n 2, 1) := by decide +kernel
theorem dL_wait_1 : decode cL_wait 1 = .ok (.iconst 0, 1) := by decide +kernel
theorem dL_wait_2 : decode cL_wait 2 = .ok (.aload_n 0, 1) := by decide +kernel
theorem dL_wait_3 : decode cL_wait 3 = .ok (.iload_n 1, 1) := by decide +kernel
theorem dL_wait_4 : decode cL_wait 4 = .ok (.invokevirtual 49, 3) := by decide +kernel
theorem dL_wait_7 : decode cL_wait 7 = .ok (.i2l, 1) := by decide +kernel
theorem dL_wait_8 : decode cL_wait 8 = .ok (.lastore, 1) := by decide +kernel
theorem dL_wait_9 : decode cL_wait 9 = .ok (.goto 6, 3) := by decide +kernel
theorem dL_wait_12 : decode cL_wait 12 = .ok (.astore_n 3, 1) := by decide +kernel
theorem dL_wait_13 : decode cL_wait 13 = .ok (.iconst 1, 1) := by decide +kernel
theorem dL_wait_14 : decode cL_wait 14 = .ok (.ireturn, 1) := by decide +kernel
theorem dL_wait_15 : decode cL_wait 15 = .ok (.iconst 0, 1) := by decide +kernel
theorem dL_wait_16 : decode cL_wait 16 = .ok (.ireturn, 1) := by decide +kernel
set_option maxRecDepth 20000 in
theorem ggL_debt_X7_debt : GoodIn wsL_debt wsX7_debt := goodIn_ca (goodIn_ca (goodIn_r _ [7, 8, 9, 10, 11, 12, 13, 14, 15, 16, 17, 18, 19, 20, 21, 22, 23, 24, 25, 26, 27, 28, 29, 30, 31, 32, 33, 34, 35, 36, 37] (by decide +kernel) (by decide +kernel)) (goodIn_sub (fun _ h => List.mem_cons_of_mem _ (List.mem_append_left _ (List.mem_append_right _ h))) (by decide +kernel))) (goodIn_sub (fun _ h => List.mem_cons_of_mem _ (List.mem_append_right _ h)) (by decide +kernel))
set_option maxRecDepth 20000 in
theorem gL_debt_X7_debt : GoodIn wsL_debt (wsV RL 52 RX7 yX7_debt wsX7_debt) := goodIn_app (goodIn_of _ (by decide +kernel)) ggL_debt_X7_debt
theorem dL_debt_0 : decode cL_debt 0 = .ok (.aload_n 3, 1) := by decide +kernel
theorem dL_debt_1 : decode cL_debt 1 = .ok (.iconst 0, 1) := by decide +kernel
theorem dL_debt_2 : decode cL_debt 2 = .ok (.aload_n 0, 1) := by decide +kernel
theorem dL_debt_3 : decode cL_debt 3 = .ok (.iload_n 1, 1) := by decide +kernel
theorem dL_debt_4 : decode cL_debt 4 = .ok (.iload_n 2, 1) := by decide +kernel
theorem dL_debt_5 : decode cL_debt 5 = .ok (.invokevirtual 52, 3) := by decide +kernel
theorem dL_debt_8 : decode cL_debt 8 = .ok (.i2l, 1) := by decide +kernel
theorem dL_debt_9 : decode cL_debt 9 = .ok (.lastore, 1) := by decide +kernel
theorem dL_debt_10 : decode cL_debt 10 = .ok (.goto 11, 3) := by decide +kernel
theorem dL_debt_13 : decode cL_debt 13 = .ok (.astore 4, 2) := by decide +kernel
theorem dL_debt_15 : decode cL_debt 15 = .ok (.iconst 1, 1) := by decide +kernel
theorem dL_debt_16 : decode cL_debt 16 = .ok (.ireturn, 1) := by decide +kernel
theorem dL_debt_17 : decode cL_debt 17 = .ok (.astore 4, 2) := by decide +kernel
theorem dL_debt_19 : decode cL_debt 19 = .ok (.iconst 2, 1) := by decide +kernel
theorem dL_debt_20 : decode cL_debt 20 = .ok (.ireturn, 1) := by decide +kernel
theorem dL_debt_21 : decode cL_debt 21 = .ok (.iconst 0, 1) := by decide +kernel
theorem dL_debt_22 : decode cL_debt 22 = .ok (.ireturn, 1) := by decide +kernel
set_option maxRecDepth 20000 in
theorem ggL_about_X7_about : GoodIn wsL_about wsX7_about := goodIn_ca (goodIn_ca (goodIn_r _ [7, 8, 9, 10, 11, 12, 13, 14, 15, 6, 16, 17, 18, 19, 20, 21, 22, 23, 24, 25, 26, 27, 28, 29, 30, 31, 32, 33, 34, 35, 36, 37, 38, 39, 40] (by decide +kernel) (by decide +kernel)) (goodIn_sub (fun _ h => List.mem_cons_of_mem _ (List.mem_append_left _ (List.mem_append_right _ h))) (by decide +kernel))) (goodIn_sub (fun _ h => List.mem_cons_of_mem _ (List.mem_append_right _ h)) (by decide +kernel))
set_option maxRecDepth 20000 in
theorem gL_about_X7_about : GoodIn wsL_about (wsV RL 55 RX7 yX7_about wsX7_about) := goodIn_app (goodIn_of _ (by decide +kernel)) ggL_about_X7_about
theorem dL_about_0 : decode cL_about 0 = .ok (.aload_n 3, 1) := by decide +kernel
theorem dL_about_1 : decode cL_about 1 = .ok (.iconst 0, 1) := by decide +kernel
theorem dL_about_2 : decode cL_about 2 = .ok (.aload_n 0, 1) := by decide +kernel
theorem dL_about_3 : decode cL_about 3 = .ok (.iload_n 1, 1) := by decide +kernel
theorem dL_about_4 : decode cL_about 4 = .ok (.iload_n 2, 1) := by decide +kernel
theorem dL_about_5 : decode cL_about 5 = .ok (.invokevirtual 55, 3) := by decide +kernel
theorem dL_about_8 : decode cL_about 8 = .ok (.i2l, 1) := by decide +kernel
theorem dL_about_9 : decode cL_about 9 = .ok (.lastore, 1) := by decide +kernel
theorem dL_about_10 : decode cL_about 10 = .ok (.goto 11, 3) := by decide +kernel
theorem dL_about_13 : decode cL_about 13 = .ok (.astore 4, 2) := by decide +kernel
theorem dL_about_15 : decode cL_about 15 = .ok (.iconst 1, 1) := by decide +kernel
theorem dL_about_16 : decode cL_about 16 = .ok (.ireturn, 1) := by decide +kernel
theorem dL_about_17 : decode cL_about 17 = .ok (.astore 4, 2) := by decide +kernel
theorem dL_about_19 : decode cL_about 19 = .ok (.iconst 2, 1) := by decide +kernel
theorem dL_about_20 : decode cL_about 20 = .ok (.ireturn, 1) := by decide +kernel
theorem dL_about_21 : decode cL_about 21 = .ok (.iconst 0, 1) := by decide +kernel
theorem dL_about_22 : decode cL_about 22 = .ok (.ireturn, 1) := by decide +kernel
set_option maxRecDepth 20000 in
theorem ggL_fame_X7_fame : GoodIn wsL_fame wsX7_fame := goodIn_ca (goodIn_r _ [6, 7, 8, 9, 10, 11, 5, 12, 13, 14, 15, 16, 17, 18, 19, 20, 21, 22, 23, 24, 25, 26, 27, 28] (by decide +kernel) (by decide +kernel)) (goodIn_sub (fun _ h => List.mem_cons_of_mem _ (List.mem_append_right _ h)) (by decide +kernel))
set_option maxRecDepth 20000 in
theorem gL_fame_X7_fame : GoodIn wsL_fame (wsV RL 58 RX7 yX7_fame wsX7_fame) := goodIn_app (goodIn_of _ (by decide +kernel)) ggL_fame_X7_fame
theorem dL_fame_0 : decode cL_fame 0 = .ok (.aload_n 2, 1) := by decide +kernel
theorem dL_fame_1 : decode cL_fame 1 = .ok (.iconst 0, 1) := by decide +kernel
theorem dL_fame_2 : decode cL_fame 2 = .ok (.aload_n 0, 1) := by decide +kernel
theorem dL_fame_3 : decode cL_fame 3 = .ok (.iload_n 1, 1) := by decide +kernel
theorem dL_fame_4 : decode cL_fame 4 = .ok (.invokevirtual 58, 3) := by decide +kernel
theorem dL_fame_7 : decode cL_fame 7 = .ok (.lastore, 1) := by decide +kernel
theorem dL_fame_8 : decode cL_fame 8 = .ok (.goto 6, 3) := by decide +kernel
theorem dL_fame_11 : decode cL_fame 11 = .ok (.astore_n 3, 1) := by decide +kernel
theorem dL_fame_12 : decode cL_fame 12 = .ok (.iconst 1, 1) := by decide +kernel
theorem dL_fame_13 : decode cL_fame 13 = .ok (.ireturn, 1) := by decide +kernel
theorem dL_fame_14 : decode cL_fame 14 = .ok (.iconst 0, 1) := by decide +kernel
theorem dL_fame_15 : decode cL_fame 15 = .ok (.ireturn, 1) := by decide +kernel
set_option maxRecDepth 20000 in
theorem ggL_gather_X7_gather : GoodIn wsL_gather wsX7_gather := goodIn_ca (goodIn_r _ [6, 7, 8, 9, 10, 11, 12, 13, 14, 5, 15, 16, 17, 18, 19, 20, 21, 22, 23, 24, 25, 26, 27, 28, 29, 30, 31, 32, 33, 34, 35, 36, 37, 38, 39, 40, 41, 42, 43, 44, 45, 46, 47, 48, 49, 50, 51, 52, 53, 54, 55, 56, 57, 58, 59, 60, 61, 62, 63, 64, 65, 66, 67, 68, 69, 70, 71, 72, 73, 74, 75, 76, 77, 78, 79] (by decide +kernel) (by decide +kernel)) (goodIn_sub (fun _ h => List.mem_cons_of_mem _ (List.mem_append_right _ h)) (by decide +kernel))
set_option maxRecDepth 20000 in
theorem gL_gather_X7_gather : GoodIn wsL_gather (wsV RL 62 RX7 yX7_gather wsX7_gather) := goodIn_app (goodIn_of _ (by decide +kernel)) ggL_gather_X7_gather
theorem dL_gather_0 : decode cL_gather 0 = .ok (.aload_n 3, 1) := by decide +kernel
theorem dL_gather_1 : decode cL_gather 1 = .ok (.iconst 0, 1) := by decide +kernel
theorem dL_gather_2 : decode cL_gather 2 = .ok (.aload_n 0, 1) := by decide +kernel
theorem dL_gather_3 : decode cL_gather 3 = .ok (.iload_n 1, 1) := by decide +kernel
theorem dL_gather_4 : decode cL_gather 4 = .ok (.iload_n 2, 1) := by decide +kernel
theorem dL_gather_5 : decode cL_gather 5 = .ok (.invokevirtual 62, 3) := by decide +kernel
theorem dL_gather_8 : decode cL_gather 8 = .ok (.lastore, 1) := by decide +kernel
theorem dL_gather_9 : decode cL_gather 9 = .ok (.goto 7, 3) := by decide +kernel
theorem dL_gather_12 : decode cL_gather 12 = .ok (.astore 4, 2) := by decide +kernel
theorem dL_gather_14 : decode cL_gather 14 = .ok (.iconst 1, 1) := by decide +kernel
theorem dL_gather_15 : decode cL_gather 15 = .ok (.ireturn, 1) := by decide +kernel
theorem dL_gather_16 : decode cL_gather 16 = .ok (.iconst 0, 1) := by decide +kernel
theorem dL_gather_17 : decode cL_gather 17 = .ok (.ireturn, 1) := by decide +kernel
set_option maxRecDepth 20000 in
theorem ggL_hold_X7_hold : GoodIn wsL_hold wsX7_hold := goodIn_ca (goodIn_r _ [6, 7, 8, 9, 10, 11, 12, 13, 5, 14, 15, 16, 17, 18, 19, 20, 21, 22, 23, 24, 25, 26, 27, 28, 29, 30, 31, 32, 33, 34, 35, 36, 37, 38, 39, 40, 41, 42, 43, 44, 45, 46, 47, 48, 49, 50, 51, 52, 53, 54, 55, 56, 57, 58, 59, 60, 61, 62, 63, 64, 65, 66, 67, 68, 69, 70, 71, 72, 73, 74, 75, 76, 77, 78, 79, 80, 81, 82] (by decide +kernel) (by decide +kernel)) (goodIn_sub (fun _ h => List.mem_cons_of_mem _ (List.mem_append_right _ h)) (by decide +kernel))
set_option maxRecDepth 20000 in
theorem gL_hold_X7_hold : GoodIn wsL_hold (wsV RL 66 RX7 yX7_hold wsX7_hold) := goodIn_app (goodIn_of _ (by decide +kernel)) ggL_hold_X7_hold
theorem dL_hold_0 : decode cL_hold 0 = .ok (.aload_n 3, 1) := by decide +kernel
theorem dL_hold_1 : decode cL_hold 1 = .ok (.iconst 0, 1) := by decide +kernel
theorem dL_hold_2 : decode cL_hold 2 = .ok (.aload_n 0, 1) := by decide +kernel
theorem dL_hold_3 : decode cL_hold 3 = .ok (.iload_n 1, 1) := by decide +kernel
theorem dL_hold_4 : decode cL_hold 4 = .ok (.iload_n 2, 1) := by decide +kernel
theorem dL_hold_5 : decode cL_hold 5 = .ok (.invokevirtual 66, 3) := by decide +kernel
theorem dL_hold_8 : decode cL_hold 8 = .ok (.i2l, 1) := by decide +kernel
theorem dL_hold_9 : decode cL_hold 9 = .ok (.lastore, 1) := by decide +kernel
theorem dL_hold_10 : decode cL_hold 10 = .ok (.goto 7, 3) := by decide +kernel
theorem dL_hold_13 : decode cL_hold 13 = .ok (.astore 4, 2) := by decide +kernel
theorem dL_hold_15 : decode cL_hold 15 = .ok (.iconst 1, 1) := by decide +kernel
theorem dL_hold_16 : decode cL_hold 16 = .ok (.ireturn, 1) := by decide +kernel
theorem dL_hold_17 : decode cL_hold 17 = .ok (.iconst 0, 1) := by decide +kernel
theorem dL_hold_18 : decode cL_hold 18 = .ok (.ireturn, 1) := by decide +kernel
