theorem dJ6_bitCount_0f7a4_47 : decode cJ6_bitCount_0f7a4 47 = .ok (.istore_n 0, 1) := by decide +kernel
theorem dJ6_bitCount_0f7a4_48 : decode cJ6_bitCount_0f7a4 48 = .ok (.iload_n 0, 1) := by decide +kernel
theorem dJ6_bitCount_0f7a4_49 : decode cJ6_bitCount_0f7a4 49 = .ok (.bipush 63, 2) := by decide +kernel
theorem dJ6_bitCount_0f7a4_51 : decode cJ6_bitCount_0f7a4 51 = .ok (.iand, 1) := by decide +kernel
theorem dJ6_bitCount_0f7a4_52 : decode cJ6_bitCount_0f7a4 52 = .ok (.ireturn, 1) := by decide +kernel
theorem dJ9_max_7cf53_0 : decode cJ9_max_7cf53 0 = .ok (.iload_n 0, 1) := by decide +kernel
theorem dJ9_max_7cf53_1 : decode cJ9_max_7cf53 1 = .ok (.iload_n 1, 1) := by decide +kernel
theorem dJ9_max_7cf53_2 : decode cJ9_max_7cf53 2 = .ok (.if_icmp .lt 7, 3) := by decide +kernel
theorem dJ9_max_7cf53_5 : decode cJ9_max_7cf53 5 = .ok (.iload_n 0, 1) := by decide +kernel
theorem dJ9_max_7cf53_6 : decode cJ9_max_7cf53 6 = .ok (.goto 4, 3) := by decide +kernel
theorem dJ9_max_7cf53_9 : decode cJ9_max_7cf53 9 = .ok (.iload_n 1, 1) := by decide +kernel
theorem dJ9_max_7cf53_10 : decode cJ9_max_7cf53 10 = .ok (.ireturn, 1) := by decide +kernel
theorem dJ9_min_7cf53_0 : decode cJ9_min_7cf53 0 = .ok (.iload_n 0, 1) := by decide +kernel
theorem dJ9_min_7cf53_1 : decode cJ9_min_7cf53 1 = .ok (.iload_n 1, 1) := by decide +kernel
theorem dJ9_min_7cf53_2 : decode cJ9_min_7cf53 2 = .ok (.if_icmp .gt 7, 3) := by decide +kernel
theorem dJ9_min_7cf53_5 : decode cJ9_min_7cf53 5 = .ok (.iload_n 0, 1) := by decide +kernel
theorem dJ9_min_7cf53_6 : decode cJ9_min_7cf53 6 = .ok (.goto 4, 3) := by decide +kernel
theorem dJ9_min_7cf53_9 : decode cJ9_min_7cf53 9 = .ok (.iload_n 1, 1) := by decide +kernel
theorem dJ9_min_7cf53_10 : decode cJ9_min_7cf53 10 = .ok (.ireturn, 1) := by decide +kernel
theorem dJ9_min_f86c9_0 : decode cJ9_min_f86c9 0 = .ok (.lload_n 0, 1) := by decide +kernel
theorem dJ9_min_f86c9_1 : decode cJ9_min_f86c9 1 = .ok (.lload_n 2, 1) := by decide +kernel
theorem dJ9_min_f86c9_2 : decode cJ9_min_f86c9 2 = .ok (.lcmp, 1) := by decide +kernel
theorem dJ9_min_f86c9_3 : decode cJ9_min_f86c9 3 = .ok (.ifCond .gt 7, 3) := by decide +kernel
theorem dJ9_min_f86c9_6 : decode cJ9_min_f86c9 6 = .ok (.lload_n 0, 1) := by decide +kernel
theorem dJ9_min_f86c9_7 : decode cJ9_min_f86c9 7 = .ok (.goto 4, 3) := by decide +kernel
theorem dJ9_min_f86c9_10 : decode cJ9_min_f86c9 10 = .ok (.lload_n 2, 1) := by decide +kernel
theorem dJ9_min_f86c9_11 : decode cJ9_min_f86c9 11 = .ok (.lreturn, 1) := by decide +kernel
set_option maxRecDepth 20000 in
theorem ggJ0_length_8abf5_J0_coder_7d493 : GoodIn wsJ0_length_8abf5 wsJ0_coder_7d493 := goodIn_r _ [6, 7, 8] (by decide +kernel) (by decide +kernel)
set_option maxRecDepth 20000 in
theorem gJ0_length_8abf5_J0_coder_7d493 : GoodIn wsJ0_length_8abf5 (wsV RJ0 335 RJ0 yJ0_coder_7d493 wsJ0_coder_7d493) := goodIn_app (goodIn_of _ (by decide +kernel)) ggJ0_length_8abf5_J0_coder_7d493
theorem dJ0_length_8abf5_0 : decode cJ0_length_8abf5 0 = .ok (.aload_n 0, 1) := by decide +kernel
theorem dJ0_length_8abf5_1 : decode cJ0_length_8abf5 1 = .ok (.getfield 9, 3) := by decide +kernel
theorem dJ0_length_8abf5_4 : decode cJ0_length_8abf5 4 = .ok (.arraylength, 1) := by decide +kernel
theorem dJ0_length_8abf5_5 : decode cJ0_length_8abf5 5 = .ok (.aload_n 0, 1) := by decide +kernel
theorem dJ0_length_8abf5_6 : decode cJ0_length_8abf5 6 = .ok (.invokevirtual 335, 3) := by decide +kernel
theorem dJ0_length_8abf5_9 : decode cJ0_length_8abf5 9 = .ok (.ishr, 1) := by decide +kernel
theorem dJ0_length_8abf5_10 : decode cJ0_length_8abf5 10 = .ok (.ireturn, 1) := by decide +kernel
set_option maxRecDepth 20000 in
theorem ggJ0_charAt_5068e_J0_isLatin1_aae02 : GoodIn wsJ0_charAt_5068e wsJ0_isLatin1_aae02 := goodIn_r _ [6, 7, 8] (by decide +kernel) (by decide +kernel)
set_option maxRecDepth 20000 in
theorem gJ0_charAt_5068e_J0_isLatin1_aae02 : GoodIn wsJ0_charAt_5068e (wsV RJ0 492 RJ0 yJ0_isLatin1_aae02 wsJ0_isLatin1_aae02) := goodIn_app (goodIn_of _ (by decide +kernel)) ggJ0_charAt_5068e_J0_isLatin1_aae02
set_option maxRecDepth 20000 in
theorem ggJ0_charAt_5068e_J1_charAt_3b067 : GoodIn wsJ0_charAt_5068e wsJ1_charAt_3b067 := goodIn_r _ [12, 13, 14, 5, 15, 16, 17, 18, 19, 20] (by decide +kernel) (by decide +kernel)
set_option maxRecDepth 20000 in
theorem gJ0_charAt_5068e_J1_charAt_3b067 : GoodIn wsJ0_charAt_5068e (va_wsS RJ0 495 yJ1_charAt_3b067 wsJ1_charAt_3b067) := goodIn_app (goodIn_of _ (by decide +kernel)) ggJ0_charAt_5068e_J1_charAt_3b067
set_option maxRecDepth 20000 in
theorem ggJ0_charAt_5068e_J2_charAt_3b067 : GoodIn wsJ0_charAt_5068e wsJ2_charAt_3b067 := goodIn_r _ [24, 25, 26, 23, 27, 28, 29, 30, 31, 14, 5, 15, 16, 17, 18, 19, 20, 32, 33, 34, 35, 36, 37] (by decide +kernel) (by decide +kernel)
set_option maxRecDepth 20000 in
theorem gJ0_charAt_5068e_J2_charAt_3b067 : GoodIn wsJ0_charAt_5068e (va_wsS RJ0 498 yJ2_charAt_3b067 wsJ2_charAt_3b067) := goodIn_app (goodIn_of _ (by decide +kernel)) ggJ0_charAt_5068e_J2_charAt_3b067
theorem dJ0_charAt_5068e_0 : decode cJ0_charAt_5068e 0 = .ok (.aload_n 0, 1) := by decide +kernel
theorem dJ0_charAt_5068e_1 : decode cJ0_charAt_5068e 1 = .ok (.invokevirtual 492, 3) := by decide +kernel
theorem dJ0_charAt_5068e_4 : decode cJ0_charAt_5068e 4 = .ok (.ifCond .eq 12, 3) := by decide +kernel
theorem dJ0_charAt_5068e_7 : decode cJ0_charAt_5068e 7 = .ok (.aload_n 0, 1) := by decide +kernel
theorem dJ0_charAt_5068e_8 : decode cJ0_charAt_5068e 8 = .ok (.getfield 9, 3) := by decide +kernel
theorem dJ0_charAt_5068e_11 : decode cJ0_charAt_5068e 11 = .ok (.iload_n 1, 1) := by decide +kernel
theorem dJ0_charAt_5068e_12 : decode cJ0_charAt_5068e 12 = .ok (.invokestatic 495, 3) := by decide +kernel
theorem dJ0_charAt_5068e_15 : decode cJ0_charAt_5068e 15 = .ok (.ireturn, 1) := by decide +kernel
theorem dJ0_charAt_5068e_16 : decode cJ0_charAt_5068e 16 = .ok (.aload_n 0, 1) := by decide +kernel
theorem dJ0_charAt_5068e_17 : decode cJ0_charAt_5068e 17 = .ok (.getfield 9, 3) := by decide +kernel
theorem dJ0_charAt_5068e_20 : decode cJ0_charAt_5068e 20 = .ok (.iload_n 1, 1) := by decide +kernel
theorem dJ0_charAt_5068e_21 : decode cJ0_charAt_5068e 21 = .ok (.invokestatic 498, 3) := by decide +kernel
theorem dJ0_charAt_5068e_24 : decode cJ0_charAt_5068e 24 = .ok (.ireturn, 1) := by decide +kernel
theorem dJ0_coder_7d493_0 : decode cJ0_coder_7d493 0 = .ok (.getstatic 38, 3) := by decide +kernel
theorem dJ0_coder_7d493_3 : decode cJ0_coder_7d493 3 = .ok (.ifCond .eq 10, 3) := by decide +kernel
theorem dJ0_coder_7d493_6 : decode cJ0_coder_7d493 6 = .ok (.aload_n 0, 1) := by decide +kernel
theorem dJ0_coder_7d493_7 : decode cJ0_coder_7d493 7 = .ok (.getfield 15, 3) := by decide +kernel
theorem dJ0_coder_7d493_10 : decode cJ0_coder_7d493 10 = .ok (.goto 4, 3) := by decide +kernel
theorem dJ0_coder_7d493_13 : decode cJ0_coder_7d493 13 = .ok (.iconst 1, 1) := by decide +kernel
theorem dJ0_coder_7d493_14 : decode cJ0_coder_7d493 14 = .ok (.ireturn, 1) := by decide +kernel
theorem dJ0_isLatin1_aae02_0 : decode cJ0_isLatin1_aae02 0 = .ok (.getstatic 38, 3) := by decide +kernel
theorem dJ0_isLatin1_aae02_3 : decode cJ0_isLatin1_aae02 3 = .ok (.ifCond .eq 14, 3) := by decide +kernel
theorem dJ0_isLatin1_aae02_6 : decode cJ0_isLatin1_aae02 6 = .ok (.aload_n 0, 1) := by decide +kernel
theorem dJ0_isLatin1_aae02_7 : decode cJ0_isLatin1_aae02 7 = .ok (.getfield 15, 3) := by decide +kernel
theorem dJ0_isLatin1_aae02_10 : decode cJ0_isLatin1_aae02 10 = .ok (.ifCond .ne 7, 3) := by decide +kernel
theorem dJ0_isLatin1_aae02_13 : decode cJ0_isLatin1_aae02 13 = .ok (.iconst 1, 1) := by decide +kernel
theorem dJ0_isLatin1_aae02_14 : decode cJ0_isLatin1_aae02 14 = .ok (.goto 4, 3) := by decide +kernel
theorem dJ0_isLatin1_aae02_17 : decode cJ0_isLatin1_aae02 17 = .ok (.iconst 0, 1) := by decide +kernel
theorem dJ0_isLatin1_aae02_18 : decode cJ0_isLatin1_aae02 18 = .ok (.ireturn, 1) := by decide +kernel
set_option maxRecDepth 20000 in
theorem ggJ0_checkIndex_df160_J3_checkIndex_8e157 : GoodIn wsJ0_checkIndex_df160 wsJ3_checkIndex_8e157 := goodIn_r _ [5] (by decide +kernel) (by decide +kernel)
set_option maxRecDepth 20000 in
theorem gJ0_checkIndex_df160_J3_checkIndex_8e157 : GoodIn wsJ0_checkIndex_df160 (va_wsS RJ0 1059 yJ3_checkIndex_8e157 wsJ3_checkIndex_8e157) := goodIn_app (goodIn_of _ (by decide +kernel)) ggJ0_checkIndex_df160_J3_checkIndex_8e157
theorem dJ0_checkIndex_df160_0 : decode cJ0_checkIndex_df160 0 = .ok (.iload_n 0, 1) := by decide +kernel
theorem dJ0_checkIndex_df160_1 : decode cJ0_checkIndex_df160 1 = .ok (.iload_n 1, 1) := by decide +kernel
theorem dJ0_checkIndex_df160_2 : decode cJ0_checkIndex_df160 2 = .ok (.getstatic 1053, 3) := by decide +kernel
theorem dJ0_checkIndex_df160_5 : decode cJ0_checkIndex_df160 5 = .ok (.invokestatic 1059, 3) := by decide +kernel
theorem dJ0_checkIndex_df160_8 : decode cJ0_checkIndex_df160 8 = .ok (.pop, 1) := by decide +kernel
theorem dJ0_checkIndex_df160_9 : decode cJ0_checkIndex_df160 9 = .ok (.return_, 1) := by decide +kernel
set_option maxRecDepth 20000 in
theorem ggJ1_charAt_3b067_J0_checkIndex_df160 : GoodIn wsJ1_charAt_3b067 wsJ0_checkIndex_df160 := goodIn_r _ [4, 5, 6, 7, 8, 9] (by decide +kernel) (by decide +kernel)
set_option maxRecDepth 20000 in
theorem gJ1_charAt_3b067_J0_checkIndex_df160 : GoodIn wsJ1_charAt_3b067 (va_wsS RJ1 9 yJ0_checkIndex_df160 wsJ0_checkIndex_df160) := goodIn_app (goodIn_of _ (by decide +kernel)) ggJ1_charAt_3b067_J0_checkIndex_df160
theorem dJ1_charAt_3b067_0 : decode cJ1_charAt_3b067 0 = .ok (.iload_n 1, 1) := by decide +kernel
theorem dJ1_charAt_3b067_1 : decode cJ1_charAt_3b067 1 = .ok (.aload_n 0, 1) := by decide +kernel
theorem dJ1_charAt_3b067_2 : decode cJ1_charAt_3b067 2 = .ok (.arraylength, 1) := by decide +kernel
theorem dJ1_charAt_3b067_3 : decode cJ1_charAt_3b067 3 = .ok (.invokestatic 9, 3) := by decide +kernel
theorem dJ1_charAt_3b067_6 : decode cJ1_charAt_3b067 6 = .ok (.aload_n 0, 1) := by decide +kernel
theorem dJ1_charAt_3b067_7 : decode cJ1_charAt_3b067 7 = .ok (.iload_n 1, 1) := by decide +kernel
theorem dJ1_charAt_3b067_8 : decode cJ1_charAt_3b067 8 = .ok (.baload, 1) := by decide +kernel
theorem dJ1_charAt_3b067_9 : decode cJ1_charAt_3b067 9 = .ok (.sipush 255, 3) := by decide +kernel
theorem dJ1_charAt_3b067_12 : decode cJ1_charAt_3b067 12 = .ok (.iand, 1) := by decide +kernel
theorem dJ1_charAt_3b067_13 : decode cJ1_charAt_3b067 13 = .ok (.i2c, 1) := by decide +kernel
theorem dJ1_charAt_3b067_14 : decode cJ1_charAt_3b067 14 = .ok (.ireturn, 1) := by decide +kernel
set_option maxRecDepth 20000 in
theorem ggJ2_getChar_3b067_J2_length_9d52b : GoodIn wsJ2_getChar_3b067 wsJ2_length_9d52b := goodIn_r _ [7] (by decide +kernel) (by decide +kernel)
set_option maxRecDepth 20000 in
theorem gJ2_getChar_3b067_J2_length_9d52b : GoodIn wsJ2_getChar_3b067 (va_wsS RJ2 48 yJ2_length_9d52b wsJ2_length_9d52b) := goodIn_app (goodIn_of _ (by decide +kernel)) ggJ2_getChar_3b067_J2_length_9d52b
theorem dJ2_getChar_3b067_0 : decode cJ2_getChar_3b067 0 = .ok (.getstatic 44, 3) := by decide +kernel
theorem dJ2_getChar_3b067_3 : decode cJ2_getChar_3b067 3 = .ok (.ifCond .ne 25, 3) := by decide +kernel
theorem dJ2_getChar_3b067_6 : decode cJ2_getChar_3b067 6 = .ok (.iload_n 1, 1) := by decide +kernel
theorem dJ2_getChar_3b067_7 : decode cJ2_getChar_3b067 7 = .ok (.ifCond .lt 11, 3) := by decide +kernel
theorem dJ2_getChar_3b067_10 : decode cJ2_getChar_3b067 10 = .ok (.iload_n 1, 1) := by decide +kernel
theorem dJ2_getChar_3b067_11 : decode cJ2_getChar_3b067 11 = .ok (.aload_n 0, 1) := by decide +kernel
theorem dJ2_getChar_3b067_12 : decode cJ2_getChar_3b067 12 = .ok (.invokestatic 48, 3) := by decide +kernel
theorem dJ2_getChar_3b067_15 : decode cJ2_getChar_3b067 15 = .ok (.if_icmp .lt 13, 3) := by decide +kernel
theorem dJ2_getChar_3b067_18 : decode cJ2_getChar_3b067 18 = .ok (.new 52, 3) := by decide +kernel
theorem dJ2_getChar_3b067_21 : decode cJ2_getChar_3b067 21 = .ok (.dup, 1) := by decide +kernel
theorem dJ2_getChar_3b067_22 : decode cJ2_getChar_3b067 22 = .ok (.ldc 54, 2) := by decide +kernel
theorem dJ2_getChar_3b067_24 : decode cJ2_getChar_3b067 24 = .ok (.invokespecial 56, 3) := by decide +kernel
theorem dJ2_getChar_3b067_27 : decode cJ2_getChar_3b067 27 = .ok (.athrow, 1) := by decide +kernel
theorem dJ2_getChar_3b067_28 : decode cJ2_getChar_3b067 28 = .ok (.iload_n 1, 1) := by decide +kernel
theorem dJ2_getChar_3b067_29 : decode cJ2_getChar_3b067 29 = .ok (.iconst 1, 1) := by decide +kernel
theorem dJ2_getChar_3b067_30 : decode cJ2_getChar_3b067 30 = .ok (.ishl, 1) := by decide +kernel
theorem dJ2_getChar_3b067_31 : decode cJ2_getChar_3b067 31 = .ok (.istore_n 1, 1) := by decide +kernel
theorem dJ2_getChar_3b067_32 : decode cJ2_getChar_3b067 32 = .ok (.aload_n 0, 1) := by decide +kernel
theorem dJ2_getChar_3b067_33 : decode cJ2_getChar_3b067 33 = .ok (.iload_n 1, 1) := by decide +kernel
theorem dJ2_getChar_3b067_34 : decode cJ2_getChar_3b067 34 = .ok (.iinc 1 1, 3) := by decide +kernel
theorem dJ2_getChar_3b067_37 : decode cJ2_getChar_3b067 37 = .ok (.baload, 1) := by decide +kernel
theorem dJ2_getChar_3b067_38 : decode cJ2_getChar_3b067 38 = .ok (.sipush 255, 3) := by decide +kernel
theorem dJ2_getChar_3b067_41 : decode cJ2_getChar_3b067 41 = .ok (.iand, 1) := by decide +kernel
theorem dJ2_getChar_3b067_42 : decode cJ2_getChar_3b067 42 = .ok (.getstatic 59, 3) := by decide +kernel
theorem dJ2_getChar_3b067_45 : decode cJ2_getChar_3b067 45 = .ok (.ishl, 1) := by decide +kernel
theorem dJ2_getChar_3b067_46 : decode cJ2_getChar_3b067 46 = .ok (.aload_n 0, 1) := by decide +kernel
theorem dJ2_getChar_3b067_47 : decode cJ2_getChar_3b067 47 = .ok (.iload_n 1, 1) := by decide +kernel
theorem dJ2_getChar_3b067_48 : decode cJ2_getChar_3b067 48 = .ok (.baload, 1) := by decide +kernel
theorem dJ2_getChar_3b067_49 : decode cJ2_getChar_3b067 49 = .ok (.sipush 255, 3) := by decide +kernel
theorem dJ2_getChar_3b067_52 : decode cJ2_getChar_3b067 52 = .ok (.iand, 1) := by decide +kernel
theorem dJ2_getChar_3b067_53 : decode cJ2_getChar_3b067 53 = .ok (.getstatic 63, 3) := by decide +kernel
theorem dJ2_getChar_3b067_56 : decode cJ2_getChar_3b067 56 = .ok (.ishl, 1) := by decide +kernel
theorem dJ2_getChar_3b067_57 : decode cJ2_getChar_3b067 57 = .ok (.ior, 1) := by decide +kernel
theorem dJ2_getChar_3b067_58 : decode cJ2_getChar_3b067 58 = .ok (.i2c, 1) := by decide +kernel
theorem dJ2_getChar_3b067_59 : decode cJ2_getChar_3b067 59 = .ok (.ireturn, 1) := by decide +kernel
theorem dJ2_length_9d52b_0 : decode cJ2_length_9d52b 0 = .ok (.aload_n 0, 1) := by decide +kernel
theorem dJ2_length_9d52b_1 : decode cJ2_length_9d52b 1 = .ok (.arraylength, 1) := by decide +kernel
theorem dJ2_length_9d52b_2 : decode cJ2_length_9d52b 2 = .ok (.iconst 1, 1) := by decide +kernel
theorem dJ2_length_9d52b_3 : decode cJ2_length_9d52b 3 = .ok (.ishr, 1) := by decide +kernel
theorem dJ2_length_9d52b_4 : decode cJ2_length_9d52b 4 = .ok (.ireturn, 1) := by decide +kernel
set_option maxRecDepth 20000 in
theorem ggJ2_charAt_3b067_J2_checkIndex_2214a : GoodIn wsJ2_charAt_3b067 wsJ2_checkIndex_2214a := goodIn_r _ [4, 5, 6, 3, 7, 8, 9, 10, 11, 12, 13, 14, 15, 16] (by decide +kernel) (by decide +kernel)
set_option maxRecDepth 20000 in
theorem gJ2_charAt_3b067_J2_checkIndex_2214a : GoodIn wsJ2_charAt_3b067 (va_wsS RJ2 67 yJ2_checkIndex_2214a wsJ2_checkIndex_2214a) := goodIn_app (goodIn_of _ (by decide +kernel)) ggJ2_charAt_3b067_J2_checkIndex_2214a
set_option maxRecDepth 20000 in
theorem ggJ2_charAt_3b067_J2_getChar_3b067 : GoodIn wsJ2_charAt_3b067 wsJ2_getChar_3b067 := goodIn_r _ [19, 20, 21, 22, 5, 6, 3, 7] (by decide +kernel) (by decide +kernel)
set_option maxRecDepth 20000 in
theorem gJ2_charAt_3b067_J2_getChar_3b067 : GoodIn wsJ2_charAt_3b067 (va_wsS RJ2 71 yJ2_getChar_3b067 wsJ2_getChar_3b067) := goodIn_app (goodIn_of _ (by decide +kernel)) ggJ2_charAt_3b067_J2_getChar_3b067
theorem dJ2_charAt_3b067_0 : decode cJ2_charAt_3b067 0 = .ok (.iload_n 1, 1) := by decide +kernel
theorem dJ2_charAt_3b067_1 : decode cJ2_charAt_3b067 1 = .ok (.aload_n 0, 1) := by decide +kernel
theorem dJ2_charAt_3b067_2 : decode cJ2_charAt_3b067 2 = .ok (.invokestatic 67, 3) := by decide +kernel
theorem dJ2_charAt_3b067_5 : decode cJ2_charAt_3b067 5 = .ok (.aload_n 0, 1) := by decide +kernel
theorem dJ2_charAt_3b067_6 : decode cJ2_charAt_3b067 6 = .ok (.iload_n 1, 1) := by decide +kernel
theorem dJ2_charAt_3b067_7 : decode cJ2_charAt_3b067 7 = .ok (.invokestatic 71, 3) := by decide +kernel
theorem dJ2_charAt_3b067_10 : decode cJ2_charAt_3b067 10 = .ok (.ireturn, 1) := by decide +kernel
set_option maxRecDepth 20000 in
theorem ggJ2_checkIndex_2214a_J2_length_9d52b : GoodIn wsJ2_checkIndex_2214a wsJ2_length_9d52b := goodIn_r _ [4] (by decide +kernel) (by decide +kernel)
set_option maxRecDepth 20000 in
theorem gJ2_checkIndex_2214a_J2_length_9d52b : GoodIn wsJ2_checkIndex_2214a (va_wsS RJ2 48 yJ2_length_9d52b wsJ2_length_9d52b) := goodIn_app (goodIn_of _ (by decide +kernel)) ggJ2_checkIndex_2214a_J2_length_9d52b
set_option maxRecDepth 20000 in
theorem ggJ2_checkIndex_2214a_J0_checkIndex_df160 : GoodIn wsJ2_checkIndex_2214a wsJ0_checkIndex_df160 := goodIn_r _ [8, 9, 10, 11, 12, 13] (by decide +kernel) (by decide +kernel)
set_option maxRecDepth 20000 in
theorem gJ2_checkIndex_2214a_J0_checkIndex_df160 : GoodIn wsJ2_checkIndex_2214a (va_wsS RJ2 414 yJ0_checkIndex_df160 wsJ0_checkIndex_df160) := goodIn_app (goodIn_of _ (by decide +kernel)) ggJ2_checkIndex_2214a_J0_checkIndex_df160
theorem dJ2_checkIndex_2214a_0 : decode cJ2_checkIndex_2214a 0 = .ok (.iload_n 0, 1) := by decide +kernel
theorem dJ2_checkIndex_2214a_1 : decode cJ2_checkIndex_2214a 1 = .ok (.aload_n 1, 1) := by decide +kernel
theorem dJ2_checkIndex_2214a_2 : decode cJ2_checkIndex_2214a 2 = .ok (.invokestatic 48, 3) := by decide +kernel
theorem dJ2_checkIndex_2214a_5 : decode cJ2_checkIndex_2214a 5 = .ok (.invokestatic 414, 3) := by decide +kernel
theorem dJ2_checkIndex_2214a_8 : decode cJ2_checkIndex_2214a 8 = .ok (.return_, 1) := by decide +kernel
theorem dJ3_checkIndex_8e157_0 : decode cJ3_checkIndex_8e157 0 = .ok (.iload_n 0, 1) := by decide +kernel
theorem dJ3_checkIndex_8e157_1 : decode cJ3_checkIndex_8e157 1 = .ok (.ifCond .lt 8, 3) := by decide +kernel
theorem dJ3_checkIndex_8e157_4 : decode cJ3_checkIndex_8e157 4 = .ok (.iload_n 0, 1) := by decide +kernel
theorem dJ3_checkIndex_8e157_5 : decode cJ3_checkIndex_8e157 5 = .ok (.iload_n 1, 1) := by decide +kernel
theorem dJ3_checkIndex_8e157_6 : decode cJ3_checkIndex_8e157 6 = .ok (.if_icmp .lt 10, 3) := by decide +kernel
theorem dJ3_checkIndex_8e157_9 : decode cJ3_checkIndex_8e157 9 = .ok (.aload_n 2, 1) := by decide +kernel
theorem dJ3_checkIndex_8e157_10 : decode cJ3_checkIndex_8e157 10 = .ok (.iload_n 0, 1) := by decide +kernel
theorem dJ3_checkIndex_8e157_11 : decode cJ3_checkIndex_8e157 11 = .ok (.iload_n 1, 1) := by decide +kernel
theorem dJ3_checkIndex_8e157_12 : decode cJ3_checkIndex_8e157 12 = .ok (.invokestatic 95, 3) := by decide +kernel
theorem dJ3_checkIndex_8e157_15 : decode cJ3_checkIndex_8e157 15 = .ok (.athrow, 1) := by decide +kernel
theorem dJ3_checkIndex_8e157_16 : decode cJ3_checkIndex_8e157 16 = .ok (.iload_n 0, 1) := by decide +kernel
theorem dJ3_checkIndex_8e157_17 : decode cJ3_checkIndex_8e157 17 = .ok (.ireturn, 1) := by decide +kernel
set_option maxRecDepth 20000 in
theorem ggL_chief_X7_chief : GoodIn wsL_chief wsX7_chief := goodIn_ca (goodIn_ca (goodIn_r _ [7, 8, 9, 10, 11, 12, 13, 14, 15, 16, 17, 18, 19, 20, 21, 22, 23, 24, 25, 26, 27, 28, 29, 30, 31, 32, 33, 34, 35] (by decide +kernel) (by decide +kernel)) (goodIn_sub (fun _ h => List.mem_cons_of_mem _ (List.mem_append_left _ (List.mem_append_right _ h))) (by decide +kernel))) (goodIn_sub (fun _ h => List.mem_cons_of_mem _ (List.mem_append_right _ h)) (by decide +kernel))
set_option maxRecDepth 20000 in
theorem gL_chief_X7_chief : GoodIn wsL_chief (wsV RL 7 RX7 yX7_chief wsX7_chief) := goodIn_app (goodIn_of _ (by decide +kernel)) ggL_chief_X7_chief
theorem dL_chief_0 : decode cL_chief 0 = .ok (.aload_n 2, 1) := by decide +kernel
theorem dL_chief_1 : decode cL_chief 1 = .ok (.iconst 0, 1) := by decide +kernel
theorem dL_chief_2 : decode cL_chief 2 = .ok (.aload_n 0, 1) := by decide +kernel
theorem dL_chief_3 : decode cL_chief 3 = .ok (.iload_n 1, 1) := by decide +kernel
theorem dL_chief_4 : decode cL_chief 4 = .ok (.invokevirtual 7, 3) := by decide +kernel
theorem dL_chief_7 : decode cL_chief 7 = .ok (.i2l, 1) := by decide +kernel
theorem dL_chief_8 : decode cL_chief 8 = .ok (.lastore, 1) := by decide +kernel
theorem dL_chief_9 : decode cL_chief 9 = .ok (.goto 9, 3) := by decide +kernel
theorem dL_chief_12 : decode cL_chief 12 = .ok (.astore_n 3, 1) := by decide +kernel
theorem dL_chief_13 : decode cL_chief 13 = .ok (.iconst 1, 1) := by decide +kernel
theorem dL_chief_14 : decode cL_chief 14 = .ok (.ireturn, 1) := by decide +kernel
theorem dL_chief_15 : decode cL_chief 15 = .ok (.astore_n 3, 1) := by decide +kernel
theorem dL_chief_16 : decode cL_chief 16 = .ok (.iconst 2, 1) := by decide +kernel
theorem dL_chief_17 : decode cL_chief 17 = .ok (.ireturn, 1) := by decide +kernel
theorem dL_chief_18 : decode cL_chief 18 = .ok (.iconst 0, 1) := by decide +kernel
theorem dL_chief_19 : decode cL_chief 19 = .ok (.ireturn, 1) := by decide +kernel
set_option maxRecDepth 20000 in
theorem ggL_custom_X7_custom : GoodIn wsL_custom wsX7_custom := goodIn_ca (goodIn_ca (goodIn_r _ [7, 8, 9, 10, 11, 12, 13, 14, 15, 16, 17, 18, 19, 20, 21, 22, 23, 24, 25, 26, 27, 28, 29, 30, 31, 32, 33, 34, 35, 36, 37, 38, 39, 40, 41, 42, 43, 44, 45, 46, 47, 48, 49, 50, 51, 52, 53, 54, 55, 56, 57, 58, 59, 60, 61, 62, 63, 64, 65, 66, 67, 68, 69, 70, 71, 72, 73, 74, 75, 76, 77, 78, 79, 80, 81, 82, 83, 84, 85, 86, 87, 88, 89, 90, 91, 92, 93, 94, 95, 96, 97, 98, 99, 100, 101, 102, 103, 104, 105, 106, 107, 108, 109, 110, 111, 112, 113, 114, 115, 116, 117, 118, 119, 120, 121, 122, 123, 124, 125, 126, 127, 128, 129, 130, 131, 132, 133, 134, 135, 136, 137, 138, 139, 140, 141, 142, 143, 144, 145, 146, 147, 148, 149, 150, 151, 152, 153, 154, 155, 156, 157, 158, 159, 160, 161, 162, 163, 164, 165, 166, 167, 168, 169, 170, 171, 172, 173, 174, 175, 176, 177, 178, 179, 180, 181, 182] (by decide +kernel) (by decide +kernel)) (goodIn_sub (fun _ h => List.mem_cons_of_mem _ (List.mem_append_left _ (List.mem_append_right _ h))) (by decide +kernel))) (goodIn_sub (fun _ h => List.mem_cons_of_mem _ (List.mem_append_right _ h)) (by decide +kernel))
set_option maxRecDepth 20000 in
theorem gL_custom_X7_custom : GoodIn wsL_custom (wsV RL 17 RX7 yX7_custom wsX7_custom) := goodIn_app (goodIn_of _ (by decide +kernel)) ggL_custom_X7_custom
theorem dL_custom_0 : decode cL_custom 0 = .ok (.aload_n 3, 1) := by decide +kernel
theorem dL_custom_1 : decode cL_custom 1 = .ok (.iconst 0, 1) := by decide +kernel
theorem dL_custom_2 : decode cL_custom 2 = .ok (.aload_n 0, 1) := by decide +kernel
theorem dL_custom_3 : decode cL_custom 3 = .ok (.iload_n 1, 1) := by decide +kernel
theorem dL_custom_4 : decode cL_custom 4 = .ok (.iload_n 2, 1) := by decide +kernel
theorem dL_custom_5 : decode cL_custom 5 = .ok (.invokevirtual 17, 3) := by decide +kernel
theorem dL_custom_8 : decode cL_custom 8 = .ok (.i2l, 1) := by decide +kernel
theorem dL_custom_9 : decode cL_custom 9 = .ok (.lastore, 1) := by decide +kernel
theorem dL_custom_10 : decode cL_custom 10 = .ok (.goto 11, 3) := by decide +kernel
theorem dL_custom_13 : decode cL_custom 13 = .ok (.astore 4, 2) := by decide +kernel
theorem dL_custom_15 : decode cL_custom 15 = .ok (.iconst 1, 1) := by decide +kernel
theorem dL_custom_16 : decode cL_custom 16 = .ok (.ireturn, 1) := by decide +kernel
theorem dL_custom_17 : decode cL_custom 17 = .ok (.astore 4, 2) := by decide +kernel
theorem dL_custom_19 : decode cL_custom 19 = .ok (.iconst 2, 1) := by decide +kernel
theorem dL_custom_20 : decode cL_custom 20 = .ok (.ireturn, 1) := by decide +kernel
theorem dL_custom_21 : decode cL_custom 21 = .ok (.iconst 0, 1) := by decide +kernel
theorem dL_custom_22 : decode cL_custom 22 = .ok (.ireturn, 1) := by decide +kernel
set_option maxRecDepth 20000 in
theorem ggL_give_X7_give : GoodIn wsL_give wsX7_give := goodIn_ca (goodIn_ca (goodIn_ca (goodIn_r _ [8, 9, 10, 11, 12, 13, 14, 7, 15, 16, 17, 18, 19, 20, 21, 22, 23, 24, 25, 26, 27, 28, 29, 30, 31, 32, 33, 34, 35, 36, 37, 38, 39, 40, 41, 42, 43, 44, 45, 46, 47, 48, 49, 50, 51, 52, 53, 54, 55, 56, 57, 58, 59, 60, 61, 62, 63, 64, 65, 66, 67, 68, 69, 70, 71, 72, 73, 74, 75, 76, 77, 78, 79, 80, 81, 82, 83, 84, 85, 86, 87, 88, 89, 90, 91, 92, 93, 94, 95, 96, 97, 98, 99, 100, 101, 102, 103, 104, 105, 106, 107, 108, 109, 110, 111, 112, 113, 114, 115, 116, 117, 118, 119, 120, 121, 122, 123, 124, 125, 126, 127, 128, 129, 130, 131, 132, 133, 134, 135, 136, 137, 138, 139, 140] (by decide +kernel) (by decide +kernel)) (goodIn_sub (fun _ h => List.mem_cons_of_mem _ (List.mem_append_left _ (List.mem_append_left _ (List.mem_append_right _ h)))) (by decide +kernel))) (goodIn_sub (fun _ h => List.mem_cons_of_mem _ (List.mem_append_left _ (List.mem_append_right _ h))) (by decide +kernel))) (goodIn_sub (fun _ h => List.mem_cons_of_mem _ (List.mem_append_right _ h)) (by decide +kernel))
set_option maxRecDepth 20000 in
theorem gL_give_X7_give : GoodIn wsL_give (wsV RL 21 RX7 yX7_give wsX7_give) := goodIn_app (goodIn_of _ (by decide +kernel)) ggL_give_X7_give
theorem dL_give_0 : decode cL_give 0 = .ok (.aload 4, 2) := by decide +kernel
theorem dL_give_2 : decode cL_give 2 = .ok (.iconst 0, 1) := by decide +kernel
theorem dL_give_3 : decode cL_give 3 = .ok (.aload_n 0, 1) := by decide +kernel
theorem dL_give_4 : decode cL_give 4 = .ok (.iload_n 1, 1) := by decide +kernel
theorem dL_give_5 : decode cL_give 5 = .ok (.iload_n 2, 1) := by decide +kernel
theorem dL_give_6 : decode cL_give 6 = .ok (.iload_n 3, 1) := by decide +kernel
theorem dL_give_7 : decode cL_give 7 = .ok (.invokevirtual 21, 3) := by decide +kernel
theorem dL_give_10 : decode cL_give 10 = .ok (.i2l, 1) := by decide +kernel
theorem dL_give_11 : decode cL_give 11 = .ok (.lastore, 1) := by decide +kernel
theorem dL_give_12 : decode cL_give 12 = .ok (.goto 15, 3) := by decide +kernel
theorem dL_give_15 : decode cL_give 15 = .ok (.astore 5, 2) := by decide +kernel
theorem dL_give_17 : decode cL_give 17 = .ok (.iconst 1, 1) := by decide +kernel
theorem dL_give_18 : decode cL_give 18 = .ok (.ireturn, 1) := by decide +kernel
theorem dL_give_19 : decode cL_give 19 = .ok (.astore 5, 2) := by decide +kernel
theorem dL_give_21 : decode cL_give 21 = .ok (.iconst 2, 1) := by decide +kernel
theorem dL_give_22 : decode cL_give 22 = .ok (.ireturn, 1) := by decide +kernel
theorem dL_give_23 : decode cL_give 23 = .ok (.astore 5, 2) := by decide +kernel
theorem dL_give_25 : decode cL_give 25 = .ok (.iconst 3, 1) := by decide +kernel
theorem dL_give_26 : decode cL_give 26 = .ok (.ireturn, 1) := by decide +kernel
theorem dL_give_27 : decode cL_give 27 = .ok (.iconst 0, 1) := by decide +kernel
theorem dL_give_28 : decode cL_give 28 = .ok (.ireturn, 1) := by decide +kernel
set_option maxRecDepth 20000 in
theorem ggL_lend_X7_lend : GoodIn wsL_lend wsX7_lend := goodIn_ca (goodIn_ca (goodIn_ca (goodIn_r _ [8, 9, 10, 11, 12, 13, 14, 7, 15, 16, 17, 18, 19, 20, 21, 22, 23, 24, 25, 26, 27, 28, 29, 30, 31, 32, 33, 34, 35, 36, 37, 38, 39, 40, 41, 42, 43, 44, 45, 46, 47, 48, 49, 50, 51, 52, 53, 54, 55, 56, 57, 58, 59, 60, 61, 62, 63, 64, 65, 66, 67, 68, 69] (by decide +kernel) (by decide +kernel)) (goodIn_sub (fun _ h => List.mem_cons_of_mem _ (List.mem_append_left _ (List.mem_append_left _ (List.mem_append_right _ h)))) (by decide +kernel))) (goodIn_sub (fun _ h => List.mem_cons_of_mem _ (List.mem_append_left _ (List.mem_append_right _ h))) (by decide +kernel))) (goodIn_sub (fun _ h => List.mem_cons_of_mem _ (List.mem_append_right _ h)) (by decide +kernel))
set_option maxRecDepth 20000 in
theorem gL_lend_X7_lend : GoodIn wsL_lend (wsV RL 27 RX7 yX7_lend wsX7_lend) := goodIn_app (goodIn_of _ (by decide +kernel)) ggL_lend_X7_lend
theorem dL_lend_0 : decode cL_lend 0 = .ok (.aload 4, 2) := by decide +kernel
theorem dL_lend_2 : decode cL_lend 2 = .ok (.iconst 0, 1) := by decide +kernel
theorem dL_lend_3 : decode cL_lend 3 = .ok (.aload_n 0, 1) := by decide +kernel
theorem dL_lend_4 : decode cL_lend 4 = .ok (.iload_n 1, 1) := by decide +kernel
theorem dL_lend_5 : decode cL_lend 5 = .ok (.iload_n 2, 1) := by decide +kernel
theorem dL_lend_6 : decode cL_lend 6 = .ok (.iload_n 3, 1) := by decide +kernel
theorem dL_lend_7 : decode cL_lend 7 = .ok (.invokevirtual 27, 3) := by decide +kernel
theorem dL_lend_10 : decode cL_lend 10 = .ok (.i2l, 1) := by decide +kernel
theorem dL_lend_11 : decode cL_lend 11 = .ok (.lastore, 1) := by decide +kernel
theorem dL_lend_12 : decode cL_lend 12 = .ok (.goto 15, 3) := by decide +kernel
theorem dL_lend_15 : decode cL_lend 15 = .ok (.astore 5, 2) := by decide +kernel
theorem dL_lend_17 : decode cL_lend 17 = .ok (.iconst 1, 1) := by decide +kernel
theorem dL_lend_18 : decode cL_lend 18 = .ok (.ireturn, 1) := by decide +kernel
theorem dL_lend_19 : decode cL_lend 19 = .ok (.astore 5, 2) := by decide +kernel
theorem dL_lend_21 : decode cL_lend 21 = .ok (.iconst 2, 1) := by decide +kernel
theorem dL_lend_22 : decode cL_lend 22 = .ok (.ireturn, 1) := by decide +kernel
theorem dL_lend_23 : decode cL_lend 23 = .ok (.astore 5, 2) := by decide +kernel
theorem dL_lend_25 : decode cL_lend 25 = .ok (.iconst 3, 1) := by decide +kernel
theorem dL_lend_26 : decode cL_lend 26 = .ok (.ireturn, 1) := by decide +kernel
theorem dL_lend_27 : decode cL_lend 27 = .ok (.iconst 0, 1) := by decide +kernel
theorem dL_lend_28 : decode cL_lend 28 = .ok (.ireturn, 1) := by decide +kernel
set_option maxRecDepth 20000 in
theorem ggL_copper_X7_copper : GoodIn wsL_copper wsX7_copper := goodIn_ca (goodIn_ca (goodIn_ca (goodIn_r _ [8, 9, 10, 11, 12, 13, 14, 15, 16, 17, 18, 7, 19, 20, 21, 22, 23, 24, 25, 26, 27, 28, 29, 30, 31, 32, 33, 34, 35, 36, 37, 38, 39, 40, 41, 42, 43, 44, 45, 46, 47, 48, 49, 50, 51, 52, 53, 54] (by decide +kernel) (by decide +kernel)) (goodIn_sub (fun _ h => List.mem_cons_of_mem _ (List.mem_append_left _ (List.mem_append_left _ (List.mem_append_right _ h)))) (by decide +kernel))) (goodIn_sub (fun _ h => List.mem_cons_of_mem _ (List.mem_append_left _ (List.mem_append_right _ h))) (by decide +kernel))) (goodIn_sub (fun _ h => List.mem_cons_of_mem _ (List.mem_append_right _ h)) (by decide +kernel))
set_option maxRecDepth 20000 in
theorem gL_copper_X7_copper : GoodIn wsL_copper (wsV RL 30 RX7 yX7_copper wsX7_copper) := goodIn_app (goodIn_of _ (by decide +kernel)) ggL_copper_X7_copper
theorem dL_copper_0 : decode cL_copper 0 = .ok (.aload_n 3, 1) := by decide +kernel
theorem dL_copper_1 : decode cL_copper 1 = .ok (.iconst 0, 1) := by decide +kernel
theorem dL_copper_2 : decode cL_copper 2 = .ok (.aload_n 0, 1) := by decide +kernel
theorem dL_copper_3 : decode cL_copper 3 = .ok (.iload_n 1, 1) := by decide +kernel
theorem dL_copper_4 : decode cL_copper 4 = .ok (.iload_n 2, 1) := by decide +kernel
theorem dL_copper_5 : decode cL_copper 5 = .ok (.invokevirtual 30, 3) := by decide +kernel
theorem dL_copper_8 : decode cL_copper 8 = .ok (.i2l, 1) := by decide +kernel
theorem dL_copper_9 : decode cL_copper 9 = .ok (.lastore, 1) := by decide +kernel
theorem dL_copper_10 : decode cL_copper 10 = .ok (.goto 15, 3) := by decide +kernel
theorem dL_copper_13 : decode cL_copper 13 = .ok (.astore 4, 2) := by decide +kernel
theorem dL_copper_15 : decode cL_copper 15 = .ok (.iconst 1, 1) := by decide +kernel
theorem dL_copper_16 : decode cL_copper 16 = .ok (.ireturn, 1) := by decide +kernel
theorem dL_copper_17 : decode cL_copper 17 = .ok (.astore 4, 2) := by decide +kernel
theorem dL_copper_19 : decode cL_copper 19 = .ok (.iconst 2, 1) := by decide +kernel
theorem dL_copper_20 : decode cL_copper 20 = .ok (.ireturn, 1) := by decide +kernel
theorem dL_copper_21 : decode cL_copper 21 = .ok (.astore 4, 2) := by decide +kernel
theorem dL_copper_23 : decode cL_copper 23 = .ok (.iconst 3, 1) := by decide +kernel
theorem dL_copper_24 : decode cL_copper 24 = .ok (.ireturn, 1) := by decide +kernel
theorem dL_copper_25 : decode cL_copper 25 = .ok (.iconst 0, 1) := by decide +kernel
theorem dL_copper_26 : decode cL_copper 26 = .ok (.ireturn, 1) := by decide +kernel
set_option maxRecDepth 20000 in
theorem ggL_pass_X7_pass : GoodIn wsL_pass wsX7_pass := goodIn_ca (goodIn_ca (goodIn_ca (goodIn_r _ [8, 9, 10, 11, 12, 13, 14, 15, 16, 17, 7, 18, 19, 20, 21, 22, 23, 24, 25, 26, 27, 28, 29, 30, 31, 32, 33, 34, 35, 36, 37, 38, 39, 40, 41, 42, 43, 44, 45, 46, 47, 48, 49, 50, 51, 52, 53, 54, 55, 56, 57, 58, 59, 60, 61, 62, 63, 64, 65, 66, 67, 68, 69, 70, 71, 72, 73, 74, 75, 76, 77, 78, 79, 80, 81, 82, 83, 84, 85, 86, 87, 88, 89, 90, 91, 92, 93, 94, 95, 96, 97, 98, 99, 100, 101, 102, 103, 104, 105, 106, 107, 108, 109, 110, 111, 112, 113, 114, 115, 116, 117, 118, 119, 120, 121, 122, 123, 124, 125, 126, 127, 128, 129, 130, 131, 132, 133, 134, 135, 136, 137, 138, 139, 140, 141] (by decide +kernel) (by decide +kernel)) (goodIn_sub (fun _ h => List.mem_cons_of_mem _ (List.mem_append_left _ (List.mem_append_left _ (List.mem_append_right _ h)))) (by decide +kernel))) (goodIn_sub (fun _ h => List.mem_cons_of_mem _ (List.mem_append_left _ (List.mem_append_right _ h))) (by decide +kernel))) (goodIn_sub (fun _ h => List.mem_cons_of_mem _ (List.mem_append_right _ h)) (by decide +kernel))
set_option maxRecDepth 20000 in
theorem gL_pass_X7_pass : GoodIn wsL_pass (wsV RL 33 RX7 yX7_pass wsX7_pass) := goodIn_app (goodIn_of _ (by decide +kernel)) ggL_pass_X7_pass
theorem dL_pass_0 : decode cL_pass 0 = .ok (.aload_n 3, 1) := by decide +kernel
theorem dL_pass_1 : decode cL_pass 1 = .ok (.iconst 0, 1) := by decide +kernel
theorem dL_pass_2 : decode cL_pass 2 = .ok (.aload_n 0, 1) := by decide +kernel
theorem dL_pass_3 : decode cL_pass 3 = .ok (.iload_n 1, 1) := by decide +kernel
theorem dL_pass_4 : decode cL_pass 4 = .ok (.iload_n 2, 1) := by decide +kernel
theorem dL_pass_5 : decode cL_pass 5 = .ok (.invokevirtual 33, 3) := by decide +kernel
theorem dL_pass_8 : decode cL_pass 8 = .ok (.i2l, 1) := by decide +kernel
theorem dL_pass_9 : decode cL_pass 9 = .ok (.lastore, 1) := by decide +kernel
theorem dL_pass_10 : decode cL_pass 10 = .ok (.goto 15, 3) := by decide +kernel
theorem dL_pass_13 : decode cL_pass 13 = .ok (.astore 4, 2) := by decide +kernel
theorem dL_pass_15 : decode cL_pass 15 = .ok (.iconst 1, 1) := by decide +kernel
theorem dL_pass_16 : decode cL_pass 16 = .ok (.ireturn, 1) := by decide +kernel
theorem dL_pass_17 : decode cL_pass 17 = .ok (.astore 4, 2) := by decide +kernel
theorem dL_pass_19 : decode cL_pass 19 = .ok (.iconst 2, 1) := by decide +kernel
theorem dL_pass_20 : decode cL_pass 20 = .ok (.ireturn, 1) := by decide +kernel
theorem dL_pass_21 : decode cL_pass 21 = .ok (.astore 4, 2) := by decide +kernel
theorem dL_pass_23 : decode cL_pass 23 = .ok (.iconst 3, 1) := by decide +kernel
theorem dL_pass_24 : decode cL_pass 24 = .ok (.ireturn, 1) := by decide +kernel
theorem dL_pass_25 : decode cL_pass 25 = .ok (.iconst 0, 1) := by decide +kernel
theorem dL_pass_26 : decode cL_pass 26 = .ok (.ireturn, 1) := by decide +kernel
set_option maxRecDepth 20000 in
theorem ggL_breaks_X7_breaks : GoodIn wsL_breaks wsX7_breaks := goodIn_ca (goodIn_r _ [6, 7, 8, 9, 10, 11, 5, 12, 13, 14, 15, 16, 17, 18, 19, 20, 21, 22, 23, 24, 25, 26, 27, 28, 29, 30, 31, 32, 33, 34, 35, 36, 37, 38, 39] (by decide +kernel) (by decide +kernel)) (goodIn_sub (fun _ h => List.mem_cons_of_mem _ (List.mem_append_right _ h)) (by decide +kernel))
set_option maxRecDepth 20000 in
theorem gL_breaks_X7_breaks : GoodIn wsL_breaks (wsV RL 36 RX7 yX7_breaks wsX7_breaks) := goodIn_app (goodIn_of _ (by decide +kernel)) ggL_breaks_X7_breaks
theorem dL_breaks_0 : decode cL_breaks 0 = .ok (.aload_n 2, 1) := by decide +kernel
theorem dL_breaks_1 : decode cL_breaks 1 = .ok (.iconst 0, 1) := by decide +kernel
theorem dL_breaks_2 : decode cL_breaks 2 = .ok (.aload_n 0, 1) := by decide +kernel
theorem dL_breaks_3 : decode cL_breaks 3 = .ok (.iload_n 1, 1) := by decide +kernel
theorem dL_breaks_4 : decode cL_breaks 4 = .ok (.invokevirtual 36, 3) := by decide +kernel
theorem dL_breaks_7 : decode cL_breaks 7 = .ok (.i2l, 1) := by decide +kernel
theorem dL_breaks_8 : decode cL_breaks 8 = .ok (.lastore, 1) := by decide +kernel
theorem dL_breaks_9 : decode cL_breaks 9 = .ok (.goto 6, 3) := by decide +kernel
theorem dL_breaks_12 : decode cL_breaks 12 = .ok (.astore_n 3, 1) := by decide +kernel
theorem dL_breaks_13 : decode cL_breaks 13 = .ok (.iconst 1, 1) := by decide +kernel
theorem dL_breaks_14 : decode cL_breaks 14 = .ok (.ireturn, 1) := by decide +kernel
theorem dL_breaks_15 : decode cL_breaks 15 = .ok (.iconst 0, 1) := by decide +kernel
theorem dL_breaks_16 : decode cL_breaks 16 = .ok (.ireturn, 1) := by decide +kernel
set_option maxRecDepth 20000 in
theorem ggL_copperTold_X7_copperTold : GoodIn wsL_copperTold wsX7_copperTold := goodIn_ca (goodIn_ca (goodIn_r _ [7, 8, 9, 10, 11, 12, 13, 14, 15, 6, 16, 17, 18, 19, 20, 21, 22, 23, 24, 25, 26, 27, 28, 29, 30, 31, 32] (by decide +kernel) (by decide +kernel)) (goodIn_sub (fun _ h => List.mem_cons_of_mem _ (List.mem_append_left _ (List.mem_append_right _ h))) (by decide +kernel))) (goodIn_sub (fun _ h => List.mem_cons_of_mem _ (List.mem_append_right _ h)) (by decide +kernel))
set_option maxRecDepth 20000 in
theorem gL_copperTold_X7_copperTold : GoodIn wsL_copperTold (wsV RL 39 RX7 yX7_copperTold wsX7_copperTold) := goodIn_app (goodIn_of _ (by decide +kernel)) ggL_copperTold_X7_copperTold
theorem dL_copperTold_0 : decode cL_copperTold 0 = .ok (.aload_n 3, 1) := by decide +kernel
theorem dL_copperTold_1 : decode cL_copperTold 1 = .ok (.iconst 0, 1) := by decide +kernel
theorem dL_copperTold_2 : decode cL_copperTold 2 = .ok (.aload_n 0, 1) := by decide +kernel
theorem dL_copperTold_3 : decode cL_copperTold 3 = .ok (.iload_n 1, 1) := by decide +kernel
theorem dL_copperTold_4 : decode cL_copperTold 4 = .ok (.iload_n 2, 1) := by decide +kernel
theorem dL_copperTold_5 : decode cL_copperTold 5 = .ok (.invokevirtual 39, 3) := by decide +kernel
theorem dL_copperTold_8 : decode cL_copperTold 8 = .ok (.i2l, 1) := by decide +kernel
theorem dL_copperTold_9 : decode cL_copperTold 9 = .ok (.lastore, 1) := by decide +kernel
theorem dL_copperTold_10 : decode cL_copperTold 10 = .ok (.goto 11, 3) := by decide +kernel
theorem dL_copperTold_13 : decode cL_copperTold 13 = .ok (.astore 4, 2) := by decide +kernel
theorem dL_copperTold_15 : decode cL_copperTold 15 = .ok (.iconst 1, 1) := by decide +kernel
theorem dL_copperTold_16 : decode cL_copperTold 16 = .ok (.ireturn, 1) := by decide +kernel
theorem dL_copperTold_17 : decode cL_copperTold 17 = .ok (.astore 4, 2) := by decide +kernel
theorem dL_copperTold_19 : decode cL_copperTold 19 = .ok (.iconst 2, 1) := by decide +kernel
theorem dL_copperTold_20 : decode cL_copperTold 20 = .ok (.ireturn, 1) := by decide +kernel
theorem dL_copperTold_21 : decode cL_copperTold 21 = .ok (.iconst 0, 1) := by decide +kernel
theorem dL_copperTold_22 : decode cL_copperTold 22 = .ok (.ireturn, 1) := by decide +kernel
set_option maxRecDepth 20000 in
theorem ggL_feast_X7_feast : GoodIn wsL_feast wsX7_feast := goodIn_ca (goodIn_ca (goodIn_ca (goodIn_r _ [8, 9, 10, 11, 12, 13, 14, 15, 16, 17, 7, 18, 19, 20, 21, 22, 23, 24, 25, 26, 27, 28, 29, 30, 31, 32, 33, 34, 35, 36, 37, 38, 39, 40, 41, 42, 43, 44, 45, 46, 47, 48, 49, 50, 51, 52, 53, 54, 55, 56, 57, 58, 59, 60, 61, 62, 63, 64, 65, 66, 67, 68, 69, 70, 71, 72, 73, 74, 75, 76, 77, 78, 79, 80, 81, 82, 83, 84, 85, 86, 87, 88, 89, 90, 91, 92, 93, 94, 95, 96, 97, 98, 99, 100, 101, 102, 103, 104, 105, 106, 107, 108, 109, 110, 111, 112, 113, 114, 115, 116, 117, 118, 119, 120, 121, 122, 123, 124, 125, 126, 127, 128, 129, 130, 131, 132, 133, 134, 135, 136, 137, 138, 139, 140, 141, 142, 143, 144, 145, 146, 147, 148, 149, 150, 151, 152, 153, 154, 155, 156, 157, 158, 159, 160] (by decide +kernel) (by decide +kernel)) (goodIn_sub (fun _ h => List.mem_cons_of_mem _ (List.mem_append_left _ (List.mem_append_left _ (List.mem_append_right _ h)))) (by decide +kernel))) (goodIn_sub (fun _ h => List.mem_cons_of_mem _ (List.mem_append_left _ (List.mem_append_right _ h))) (by decide +kernel))) (goodIn_sub (fun _ h => List.mem_cons_of_mem _ (List.mem_append_right _ h)) (by decide +kernel))
set_option maxRecDepth 20000 in
theorem gL_feast_X7_feast : GoodIn wsL_feast (wsV RL 42 RX7 yX7_feast wsX7_feast) := goodIn_app (goodIn_of _ (by decide +kernel)) ggL_feast_X7_feast
theorem dL_feast_0 : decode cL_feast 0 = .ok (.aload 5, 2) := by decide +kernel
theorem dL_feast_2 : decode cL_feast 2 = .ok (.iconst 0, 1) := by decide +kernel
theorem dL_feast_3 : decode cL_feast 3 = .ok (.aload_n 0, 1) := by decide +kernel
theorem dL_feast_4 : decode cL_feast 4 = .ok (.iload_n 1, 1) := by decide +kernel
theorem dL_feast_5 : decode cL_feast 5 = .ok (.iload_n 2, 1) := by decide +kernel
theorem dL_feast_6 : decode cL_feast 6 = .ok (.iload_n 3, 1) := by decide +kernel
theorem dL_feast_7 : decode cL_feast 7 = .ok (.iload 4, 2) := by decide +kernel
theorem dL_feast_9 : decode cL_feast 9 = .ok (.invokevirtual 42, 3) := by decide +kernel
theorem dL_feast_12 : decode cL_feast 12 = .ok (.i2l, 1) := by decide +kernel
theorem dL_feast_13 : decode cL_feast 13 = .ok (.lastore, 1) := by decide +kernel
theorem dL_feast_14 : decode cL_feast 14 = .ok (.goto 15, 3) := by decide +kernel
theorem dL_feast_17 : decode cL_feast 17 = .ok (.astore 6, 2) := by decide +kernel
theorem dL_feast_19 : decode cL_feast 19 = .ok (.iconst 1, 1) := by decide +kernel
theorem dL_feast_20 : decode cL_feast 20 = .ok (.ireturn, 1) := by decide +kernel
theorem dL_feast_21 : decode cL_feast 21 = .ok (.astore 6, 2) := by decide +kernel
theorem dL_feast_23 : decode cL_feast 23 = .ok (.iconst 2, 1) := by decide +kernel
theorem dL_feast_24 : decode cL_feast 24 = .ok (.ireturn, 1) := by decide +kernel
theorem dL_feast_25 : decode cL_feast 25 = .ok (.astore 6, 2) := by decide +kernel
theorem dL_feast_27 : decode cL_feast 27 = .ok (.iconst 3, 1) := by decide +kernel
theorem dL_feast_28 : decode cL_feast 28 = .ok (.ireturn, 1) := by decide +kernel
theorem dL_feast_29 : decode cL_feast 29 = .ok (.iconst 0, 1) := by decide +kernel
theorem dL_feast_30 : decode cL_feast 30 = .ok (.ireturn, 1) := by decide +kernel
set_option maxRecDepth 20000 in
theorem ggL_died_X7_died : GoodIn wsL_died wsX7_died := goodIn_ca (goodIn_ca (goodIn_ca (goodIn_r _ [8, 9, 10, 11, 12, 13, 14, 15, 16, 17, 18, 7, 19, 20, 21, 22, 23, 24, 25, 26, 27, 28, 29, 30, 31, 32, 33, 34, 35, 36, 37, 38, 39, 40, 41, 42, 43, 44, 45, 46, 47, 48, 49, 50, 51, 52, 53, 54, 55, 56, 57, 58, 59, 60, 61, 62, 63, 64, 65, 66, 67, 68, 69, 70, 71, 72, 73, 74, 75, 76] (by decide +kernel) (by decide +kernel)) (goodIn_sub (fun _ h => List.mem_cons_of_mem _ (List.mem_append_left _ (List.mem_append_left _ (List.mem_append_right _ h)))) (by decide +kernel))) (goodIn_sub (fun _ h => List.mem_cons_of_mem _ (List.mem_append_left _ (List.mem_append_right _ h))) (by decide +kernel))) (goodIn_sub (fun _ h => List.mem_cons_of_mem _ (List.mem_append_right _ h)) (by decide +kernel))
set_option maxRecDepth 20000 in
theorem gL_died_X7_died : GoodIn wsL_died (wsV RL 46 RX7 yX7_died wsX7_died) := goodIn_app (goodIn_of _ (by decide +kernel)) ggL_died_X7_died
theorem dL_died_0 : decode cL_died 0 = .ok (.aload_n 3, 1) := by decide +kernel
theorem dL_died_1 : decode cL_died 1 = .ok (.iconst 0, 1) := by decide +kernel
theorem dL_died_2 : decode cL_died 2 = .ok (.aload_n 0, 1) := by decide +kernel
theorem dL_died_3 : decode cL_died 3 = .ok (.iload_n 1, 1) := by decide +kernel
theorem dL_died_4 : decode cL_died 4 = .ok (.iload_n 2, 1) := by decide +kernel
theorem dL_died_5 : decode cL_died 5 = .ok (.invokevirtual 46, 3) := by decide +kernel
theorem dL_died_8 : decode cL_died 8 = .ok (.i2l, 1) := by decide +kernel
theorem dL_died_9 : decode cL_died 9 = .ok (.lastore, 1) := by decide +kernel
theorem dL_died_10 : decode cL_died 10 = .ok (.goto 15, 3) := by decide +kernel
theorem dL_died_13 : decode cL_died 13 = .ok (.astore 4, 2) := by decide +kernel
theorem dL_died_15 : decode cL_died 15 = .ok (.iconst 1, 1) := by decide +kernel
theorem dL_died_16 : decode cL_died 16 = .ok (.ireturn, 1) := by decide +kernel
theorem dL_died_17 : decode cL_died 17 = .ok (.astore 4, 2) := by decide +kernel
theorem dL_died_19 : decode cL_died 19 = .ok (.iconst 2, 1) := by decide +kernel
theorem dL_died_20 : decode cL_died 20 = .ok (.ireturn, 1) := by decide +kernel
theorem dL_died_21 : decode cL_died 21 = .ok (.astore 4, 2) := by decide +kernel
theorem dL_died_23 : decode cL_died 23 = .ok (.iconst 3, 1) := by decide +kernel
theorem dL_died_24 : decode cL_died 24 = .ok (.ireturn, 1) := by decide +kernel
theorem dL_died_25 : decode cL_died 25 = .ok (.iconst 0, 1) := by decide +kernel
theorem dL_died_26 : decode cL_died 26 = .ok (.ireturn, 1) := by decide +kernel
set_option maxRecDepth 20000 in
theorem ggL_wait_X7_wait : GoodIn wsL_wait wsX7_wait := goodIn_ca (goodIn_r _ [6, 7, 8, 9, 10, 11, 12, 5, 13, 14, 15, 16, 17, 18, 19, 20, 21, 22, 23, 24, 25, 26, 27, 28, 29, 30, 31, 32, 33, 34, 35, 36, 37, 38, 39, 40, 41, 42, 43, 44, 45, 46, 47, 48, 49, 50, 51, 52, 53, 54, 55, 56, 57, 58, 59, 60, 61, 62, 63] (by decide +kernel) (by decide +kernel)) (goodIn_sub (fun _ h => List.mem_cons_of_mem _ (List.mem_append_right _ h)) (by decide +kernel))
set_option maxRecDepth 20000 in
theorem gL_wait_X7_wait : GoodIn wsL_wait (wsV RL 49 RX7 yX7_wait wsX7_wait) := goodIn_app (goodIn_of _ (by decide +kernel)) ggL_wait_X7_wait
theorem dL_wait_0 : decode cL_wait 0 = .ok (.aload_n 2, 1) := by decide +kernel
theorem dL_wait_1 : decode cL_wait 1 = .ok (.iconst 0, 1) := by decide +kernel
theorem dL_wait_2 : decode cL_wait 2 = .ok (.aload_n 0, 1) := by decide +kernel
theorem dL_wait_3 : decode cL_wait 3 = .ok (.iload_n 1, 1) := by decide +kernel
theorem dL_wait_4 : decode cL_wait 4 = .ok (.invokevirtual 49, 3) := by decide +kernel
theorem dL_wait_7 : decode cL_wait 7 = .ok (.i2l, 1) := by decide +kernel
theorem dL_wait_8 : decode cL_wait 8 = .ok (.lastore, 1) := by decide +kernel
theorem dL_wait_9 : decode cL_wait 9 = .ok (.goto 6, 3) := by decide +kernel
theorem dL_wait_12 : decode cL_wait 12 = .ok (.astore_n 3, 1) := by decide +kernel
theorem dL_wait_13 : decode cL_wait 13 = .ok (.iconst 1, 1) := by decide +kernel
theorem dL_wait_14 : decode cL_wait 14 = .ok (.ireturn, 1) := by decide +kernel
theorem dL_wait_15 : decode cL_wait 15 = .ok (.iconst 0, 1) := by decide +kernel
theorem dL_wait_16 : decode cL_wait 16 = .ok (.ireturn, 1) := by decide +kernel
set_option maxRecDepth 20000 in
theorem ggL_debt_X7_debt : GoodIn wsL_debt wsX7_debt := goodIn_ca (goodIn_ca (goodIn_r _ [7, 8, 9, 10, 11, 12, 13, 14, 15, 16, 17, 18, 19, 20, 21, 22, 23, 24, 25, 26, 27, 28, 29, 30, 31, 32, 33, 34, 35, 36, 37] (by decide +kernel) (by decide +kernel)) (goodIn_sub (fun _ h => List.mem_cons_of_mem _ (List.mem_append_left _ (List.mem_append_right _ h))) (by decide +kernel))) (goodIn_sub (fun _ h => List.mem_cons_of_mem _ (List.mem_append_right _ h)) (by decide +kernel))
set_option maxRecDepth 20000 in
theorem gL_debt_X7_debt : GoodIn wsL_debt (wsV RL 52 RX7 yX7_debt wsX7_debt) := goodIn_app (goodIn_of _ (by decide +kernel)) ggL_debt_X7_debt
theorem dL_debt_0 : decode cL_debt 0 = .ok (.aload_n 3, 1) := by decide +kernel
theorem dL_debt_1 : decode cL_debt 1 = .ok (.iconst 0, 1) := by decide +kernel
theorem dL_debt_2 : decode cL_debt 2 = .ok (.aload_n 0, 1) := by decide +kernel
theorem dL_debt_3 : decode cL_debt 3 = .ok (.iload_n 1, 1) := by decide +kernel
theorem dL_debt_4 : decode cL_debt 4 = .ok (.iload_n 2, 1) := by decide +kernel
theorem dL_debt_5 : decode cL_debt 5 = .ok (.invokevirtual 52, 3) := by decide +kernel
theorem dL_debt_8 : decode cL_debt 8 = .ok (.i2l, 1) := by decide +kernel
theorem dL_debt_9 : decode cL_debt 9 = .ok (.lastore, 1) := by decide +kernel
theorem dL_debt_10 : decode cL_debt 10 = .ok (.goto 11, 3) := by decide +kernel
theorem dL_debt_13 : decode cL_debt 13 = .ok (.astore 4, 2) := by decide +kernel
theorem dL_debt_15 : decode cL_debt 15 = .ok (.iconst 1, 1) := by decide +kernel
theorem dL_debt_16 : decode cL_debt 16 = .ok (.ireturn, 1) := by decide +kernel
theorem dL_debt_17 : decode cL_debt 17 = .ok (.astore 4, 2) := by decide +kernel
theorem dL_debt_19 : decode cL_debt 19 = .ok (.iconst 2, 1) := by decide +kernel
theorem dL_debt_20 : decode cL_debt 20 = .ok (.ireturn, 1) := by decide +kernel
theorem dL_debt_21 : decode cL_debt 21 = .ok (.iconst 0, 1) := by decide +kernel
theorem dL_debt_22 : decode cL_debt 22 = .ok (.ireturn, 1) := by decide +kernel
set_option maxRecDepth 20000 in
theorem ggL_about_X7_about : GoodIn wsL_about wsX7_about := goodIn_ca (goodIn_ca (goodIn_r _ [7, 8, 9, 10, 11, 12, 13, 14, 15, 6, 16, 17, 18, 19, 20, 21, 22, 23, 24, 25, 26, 27, 28, 29, 30, 31, 32, 33, 34, 35, 36, 37, 38, 39, 40] (by decide +kernel) (by decide +kernel)) (goodIn_sub (fun _ h => List.mem_cons_of_mem _ (List.mem_append_left _ (List.mem_append_right _ h))) (by decide +kernel))) (goodIn_sub (fun _ h => List.mem_cons_of_mem _ (List.mem_append_right _ h)) (by decide +kernel))
set_option maxRecDepth 20000 in
theorem gL_about_X7_about : GoodIn wsL_about (wsV RL 55 RX7 yX7_about wsX7_about) := goodIn_app (goodIn_of _ (by decide +kernel)) ggL_about_X7_about
theorem dL_about_0 : decode cL_about 0 = .ok (.aload_n 3, 1) := by decide +kernel
theorem dL_about_1 : decode cL_about 1 = .ok (.iconst 0, 1) := by decide +kernel
theorem dL_about_2 : decode cL_about 2 = .ok (.aload_n 0, 1) := by decide +kernel
theorem dL_about_3 : decode cL_about 3 = .ok (.iload_n 1, 1) := by decide +kernel
theorem dL_about_4 : decode cL_about 4 = .ok (.iload_n 2, 1) := by decide +kernel
theorem dL_about_5 : decode cL_about 5 = .ok (.invokevirtual 55, 3) := by decide +kernel
theorem dL_about_8 : decode cL_about 8 = .ok (.i2l, 1) := by decide +kernel
theorem dL_about_9 : decode cL_about 9 = .ok (.lastore, 1) := by decide +kernel
theorem dL_about_10 : decode cL_about 10 = .ok (.goto 11, 3) := by decide +kernel
theorem dL_about_13 : decode cL_about 13 = .ok (.astore 4, 2) := by decide +kernel
theorem dL_about_15 : decode cL_about 15 = .ok (.iconst 1, 1) := by decide +kernel
theorem dL_about_16 : decode cL_about 16 = .ok (.ireturn, 1) := by decide +kernel
theorem dL_about_17 : decode cL_about 17 = .ok (.astore 4, 2) := by decide +kernel
theorem dL_about_19 : decode cL_about 19 = .ok (.iconst 2, 1) := by decide +kernel
theorem dL_about_20 : decode cL_about 20 = .ok (.ireturn, 1) := by decide +kernel
theorem dL_about_21 : decode cL_about 21 = .ok (.iconst 0, 1) := by decide +kernel
theorem dL_about_22 : decode cL_about 22 = .ok (.ireturn, 1) := by decide +kernel
set_option maxRecDepth 20000 in
theorem ggL_fame_X7_fame : GoodIn wsL_fame wsX7_fame := goodIn_ca (goodIn_r _ [6, 7, 8, 9, 10, 11, 5, 12, 13, 14, 15, 16, 17, 18, 19, 20, 21, 22, 23, 24, 25, 26, 27, 28] (by decide +kernel) (by decide +kernel)) (goodIn_sub (fun _ h => List.mem_cons_of_mem _ (List.mem_append_right _ h)) (by decide +kernel))
set_option maxRecDepth 20000 in
theorem gL_fame_X7_fame : GoodIn wsL_fame (wsV RL 58 RX7 yX7_fame wsX7_fame) := goodIn_app (goodIn_of _ (by decide +kernel)) ggL_fame_X7_fame
theorem dL_fame_0 : decode cL_fame 0 = .ok (.aload_n 2, 1) := by decide +kernel
theorem dL_fame_1 : decode cL_fame 1 = .ok (.iconst 0, 1) := by decide +kernel
theorem dL_fame_2 : decode cL_fame 2 = .ok (.aload_n 0, 1) := by decide +kernel
theorem dL_fame_3 : decode cL_fame 3 = .ok (.iload_n 1, 1) := by decide +kernel
theorem dL_fame_4 : decode cL_fame 4 = .ok (.invokevirtual 58, 3) := by decide +kernel
theorem dL_fame_7 : decode cL_fame 7 = .ok (.lastore, 1) := by decide +kernel
theorem dL_fame_8 : decode cL_fame 8 = .ok (.goto 6, 3) := by decide +kernel
theorem dL_fame_11 : decode cL_fame 11 = .ok (.astore_n 3, 1) := by decide +kernel
theorem dL_fame_12 : decode cL_fame 12 = .ok (.iconst 1, 1) := by decide +kernel
theorem dL_fame_13 : decode cL_fame 13 = .ok (.ireturn, 1) := by decide +kernel
theorem dL_fame_14 : decode cL_fame 14 = .ok (.iconst 0, 1) := by decide +kernel
theorem dL_fame_15 : decode cL_fame 15 = .ok (.ireturn, 1) := by decide +kernel
set_option maxRecDepth 20000 in
theorem ggL_gather_X7_gather : GoodIn wsL_gather wsX7_gather := goodIn_ca (goodIn_r _ [6, 7, 8, 9, 10, 11, 12, 13, 14, 5, 15, 16, 17, 18, 19, 20, 21, 22, 23, 24, 25, 26, 27, 28, 29, 30, 31, 32, 33, 34, 35, 36, 37, 38, 39, 40, 41, 42, 43, 44, 45, 46, 47, 48, 49, 50, 51, 52, 53, 54, 55, 56, 57, 58, 59, 60, 61, 62, 63, 64, 65, 66, 67, 68, 69, 70, 71, 72, 73, 74, 75, 76, 77, 78, 79] (by decide +kernel) (by decide +kernel)) (goodIn_sub (fun _ h => List.mem_cons_of_mem _ (List.mem_append_right _ h)) (by decide +kernel))
set_option maxRecDepth 20000 in
theorem gL_gather_X7_gather : GoodIn wsL_gather (wsV RL 62 RX7 yX7_gather wsX7_gather) := goodIn_app (goodIn_of _ (by decide +kernel)) ggL_gather_X7_gather
theorem dL_gather_0 : decode cL_gather 0 = .ok (.aload_n 3, 1) := by decide +kernel
theorem dL_gather_1 : decode cL_gather 1 = .ok (.iconst 0, 1) := by decide +kernel
theorem dL_gather_2 : decode cL_gather 2 = .ok (.aload_n 0, 1) := by decide +kernel
theorem dL_gather_3 : decode cL_gather 3 = .ok (.iload_n 1, 1) := by decide +kernel
theorem dL_gather_4 : decode cL_gather 4 = .ok (.iload_n 2, 1) := by decide +kernel
theorem dL_gather_5 : decode cL_gather 5 = .ok (.invokevirtual 62, 3) := by decide +kernel
theorem dL_gather_8 : decode cL_gather 8 = .ok (.lastore, 1) := by decide +kernel
theorem dL_gather_9 : decode cL_gather 9 = .ok (.goto 7, 3) := by decide +kernel
theorem dL_gather_12 : decode cL_gather 12 = .ok (.astore 4, 2) := by decide +kernel
theorem dL_gather_14 : decode cL_gather 14 = .ok (.iconst 1, 1) := by decide +kernel
theorem dL_gather_15 : decode cL_gather 15 = .ok (.ireturn, 1) := by decide +kernel
theorem dL_gather_16 : decode cL_gather 16 = .ok (.iconst 0, 1) := by decide +kernel
theorem dL_gather_17 : decode cL_gather 17 = .ok (.ireturn, 1) := by decide +kernel
set_option maxRecDepth 20000 in
theorem ggL_hold_X7_hold : GoodIn wsL_hold wsX7_hold := goodIn_ca (goodIn_r _ [6, 7, 8, 9, 10, 11, 12, 13, 5, 14, 15, 16, 17, 18, 19, 20, 21, 22, 23, 24, 25, 26, 27, 28, 29, 30, 31, 32, 33, 34, 35, 36, 37, 38, 39, 40, 41, 42, 43, 44, 45, 46, 47, 48, 49, 50, 51, 52, 53, 54, 55, 56, 57, 58, 59, 60, 61, 62, 63, 64, 65, 66, 67, 68, 69, 70, 71, 72, 73, 74, 75, 76, 77, 78, 79, 80, 81, 82] (by decide +kernel) (by decide +kernel)) (goodIn_sub (fun _ h => List.mem_cons_of_mem _ (List.mem_append_right _ h)) (by decide +kernel))
set_option maxRecDepth 20000 in
theorem gL_hold_X7_hold : GoodIn wsL_hold (wsV RL 66 RX7 yX7_hold wsX7_hold) := goodIn_app (goodIn_of _ (by decide +kernel)) ggL_hold_X7_hold
theorem dL_hold_0 : decode cL_hold 0 = .ok (.aload_n 3, 1) := by decide +kernel
theorem dL_hold_1 : decode cL_hold 1 = .ok (.iconst 0, 1) := by decide +kernel
theorem dL_hold_2 : decode cL_hold 2 = .ok (.aload_n 0, 1) := by decide +kernel
theorem dL_hold_3 : decode cL_hold 3 = .ok (.iload_n 1, 1) := by decide +kernel
theorem dL_hold_4 : decode cL_hold 4 = .ok (.iload_n 2, 1) := by decide +kernel
theorem dL_hold_5 : decode cL_hold 5 = .ok (.invokevirtual 66, 3) := by decide +kernel
theorem dL_hold_8 : decode cL_hold 8 = .ok (.i2l, 1) := by decide +kernel
theorem dL_hold_9 : decode cL_hold 9 = .ok (.lastore, 1) := by decide +kernel
theorem dL_hold_10 : decode cL_hold 10 = .ok (.goto 7, 3) := by decide +kernel
theorem dL_hold_13 : decode cL_hold 13 = .ok (.astore 4, 2) := by decide +kernel
theorem dL_hold_15 : decode cL_hold 15 = .ok (.iconst 1, 1) := by decide +kernel
theorem dL_hold_16 : decode cL_hold 16 = .ok (.ireturn, 1) := by decide +kernel
theorem dL_hold_17 : decode cL_hold 17 = .ok (.iconst 0, 1) := by decide +kernel
theorem dL_hold_18 : decode cL_hold 18 = .ok (.ireturn, 1) := by decide +kernel
set_option maxRecDepth 20000 in
theorem ggL_law_X7_init : GoodIn wsL_law wsX7_init := goodIn_r _ [9, 10, 11, 12, 13, 14, 15, 16, 17, 18, 19, 20, 21, 22, 23, 24, 25, 26, 27, 28, 29, 30, 31, 32, 33, 34, 35, 36, 37, 38, 39, 40, 41, 42, 43, 44, 45, 46, 47, 48, 49, 50, 51, 52, 53, 54, 55, 56, 57, 58, 59, 60, 61, 62, 63, 64, 65, 66, 67, 68, 6, 69, 70, 71, 72, 73, 74, 75, 76, 77, 78, 79, 80, 81, 82, 83, 84, 85, 86, 87, 88, 89, 90, 91, 92, 93, 94, 95, 96, 819, 820, 779, 780, 781, 782, 783, 784, 785, 786, 787, 821, 822, 823, 824, 825, 826, 827, 828, 829, 830, 831, 832, 833, 834, 835, 836, 837, 838, 839, 840, 841, 842, 843, 844, 845, 846, 847, 848, 849, 850, 851, 852, 853, 854, 855, 856, 857] (by decide +kernel) (by decide +kernel)
set_option maxRecDepth 20000 in
theorem gL_law_X7_init : GoodIn wsL_law (wsX7_init) := ggL_law_X7_init
set_option maxRecDepth 20000 in
theorem ggL_law_X8_init : GoodIn wsL_law wsX8_init := goodIn_r _ [99, 100, 11, 12, 56, 101, 6, 102, 70, 103, 46, 104, 105, 106, 107, 108, 109, 110, 111, 112, 113, 114, 115, 116, 117, 118, 119, 120, 788, 789, 790, 791, 792, 793, 794, 795, 796, 797, 798, 799, 800, 801, 802, 803, 804, 805, 806, 807, 808, 809, 810, 811, 812, 813, 814, 815, 816, 817, 818] (by decide +kernel) (by decide +kernel)
set_option maxRecDepth 20000 in
theorem gL_law_X8_init : GoodIn wsL_law (wsX8_init) := ggL_law_X8_init
set_option maxRecDepth 20000 in
theorem ggL_law_L_chief : GoodIn wsL_law wsL_chief := goodIn_ca (goodIn_ca (goodIn_r _ [124, 125, 126, 127, 128, 129, 2, 130, 131, 132, 133, 134, 135, 28, 136, 137, 138, 139, 27, 140, 68, 72, 71, 779, 780, 781, 782, 783, 784, 785, 786, 787, 840, 841, 842, 843] (by decide +kernel) (by decide +kernel)) (goodIn_sub (fun _ h => List.mem_append_left _ (List.mem_append_left _ (List.mem_append_right _ h))) (by decide +kernel))) (goodIn_sub (fun _ h => List.mem_append_left _ (List.mem_append_right _ h)) (by decide +kernel))
set_option maxRecDepth 20000 in
theorem gL_law_L_chief : GoodIn wsL_law (va_wsS RL 73 yL_chief wsL_chief) := goodIn_app (goodIn_of _ (by decide +kernel)) ggL_law_L_chief
set_option maxRecDepth 20000 in
theorem ggL_law_X8_chief : GoodIn wsL_law wsX8_chief := goodIn_r _ [144, 145, 146, 147, 101, 148, 149, 150, 5, 151, 788, 789, 790, 791, 792, 793, 794, 795, 796, 797, 798, 799, 800, 801, 802, 803, 804, 805, 806, 807, 808, 809, 810, 811, 812, 813, 814, 815, 816, 817, 818] (by decide +kernel) (by decide +kernel)
set_option maxRecDepth 20000 in
theorem gL_law_X8_chief : GoodIn wsL_law (wsV RL 78 RX8 yX8_chief wsX8_chief) := goodIn_app (goodIn_of _ (by decide +kernel)) ggL_law_X8_chief
set_option maxRecDepth 20000 in
theorem ggL_law_X8_thrown : GoodIn wsL_law wsX8_thrown := goodIn_r _ [155, 145, 788, 789, 790, 791, 792, 793, 794, 795, 796, 797, 798, 799, 800, 801, 802, 803, 804, 805, 806, 807, 808, 809, 810, 811, 812, 813, 814, 815, 816, 817, 818] (by decide +kernel) (by decide +kernel)
set_option maxRecDepth 20000 in
theorem gL_law_X8_thrown : GoodIn wsL_law (wsV RL 79 RX8 yX8_thrown wsX8_thrown) := goodIn_app (goodIn_of _ (by decide +kernel)) ggL_law_X8_thrown
set_option maxRecDepth 20000 in
theorem ggL_law_X7_feed : GoodIn wsL_law wsX7_feed := goodIn_r _ [159, 16, 160, 161, 162, 163, 15, 164, 47, 48, 779, 780, 781, 782, 783, 784, 785, 786, 787, 819, 820] (by decide +kernel) (by decide +kernel)
set_option maxRecDepth 20000 in
theorem gL_law_X7_feed : GoodIn wsL_law (wsV RL 83 RX7 yX7_feed wsX7_feed) := goodIn_app (goodIn_of _ (by decide +kernel)) ggL_law_X7_feed
set_option maxRecDepth 20000 in
theorem ggL_law_X8_feed : GoodIn wsL_law wsX8_feed := goodIn_r _ [168, 145, 169, 104, 788, 789, 790, 791, 792, 793, 794, 795, 796, 797, 798, 799, 800, 801, 802, 803, 804, 805, 806, 807, 808, 809, 810, 811, 812, 813, 814, 815, 816, 817, 818] (by decide +kernel) (by decide +kernel)
set_option maxRecDepth 20000 in
theorem gL_law_X8_feed : GoodIn wsL_law (wsV RL 87 RX8 yX8_feed wsX8_feed) := goodIn_app (goodIn_of _ (by decide +kernel)) ggL_law_X8_feed
set_option maxRecDepth 20000 in
theorem ggL_law_L_custom : GoodIn wsL_law wsL_custom := goodIn_ca (goodIn_ca (goodIn_r _ [172, 125, 126, 173, 174, 175, 2, 176, 131, 132, 133, 134, 16, 160, 24, 177, 20, 178, 179, 42, 180, 181, 182, 183, 19, 184, 52, 185, 186, 187, 188, 189, 190, 191, 192, 193, 194, 195, 196, 197, 198, 199, 200, 201, 202, 203, 204, 205, 206, 207, 208, 209, 210, 211, 212, 213, 214, 215, 216, 217, 218, 219, 220, 221, 222, 223, 224, 225, 226, 227, 228, 229, 230, 231, 232, 233, 234, 235, 236, 237, 238, 239, 240, 241, 242, 243, 244, 245, 246, 247, 248, 249, 250, 251, 252, 253, 254, 255, 256, 257, 258, 259, 260, 261, 262, 263, 264, 265, 266, 267, 268, 269, 270, 271, 272, 273, 274, 275, 276, 277, 278, 279, 280, 281, 282, 283, 284, 285, 286, 287, 288, 289, 290, 291, 292, 293, 294, 23, 295, 57, 64, 58, 296, 59, 297, 60, 298, 61, 299, 62, 300, 63, 301, 779, 780, 781, 782, 783, 784, 785, 786, 787, 819, 820, 832, 833, 834, 835, 836, 837, 838, 839, 821, 822, 823, 824, 825, 826, 827, 828, 829, 830, 831] (by decide +kernel) (by decide +kernel)) (goodIn_sub (fun _ h => List.mem_append_left _ (List.mem_append_left _ (List.mem_append_right _ h))) (by decide +kernel))) (goodIn_sub (fun _ h => List.mem_append_left _ (List.mem_append_right _ h)) (by decide +kernel))
set_option maxRecDepth 20000 in
theorem gL_law_L_custom : GoodIn wsL_law (va_wsS RL 88 yL_custom wsL_custom) := goodIn_app (goodIn_of _ (by decide +kernel)) ggL_law_L_custom
set_option maxRecDepth 20000 in
theorem ggL_law_X8_custom : GoodIn wsL_law wsX8_custom := goodIn_r _ [305, 145, 169, 306, 307, 308, 309, 105, 107, 106, 148, 149, 150, 5, 151, 310, 311, 312, 313, 314, 315, 316, 317, 104, 318, 319, 320, 321, 322, 213, 214, 215, 216, 217, 218, 219, 220, 221, 222, 223, 323, 225, 226, 227, 228, 229, 230, 231, 232, 233, 234, 235, 236, 237, 238, 239, 240, 241, 242, 243, 244, 245, 246, 247, 248, 249, 250, 251, 252, 253, 254, 255, 256, 257, 258, 259, 260, 324, 325, 326, 327, 328, 329, 330, 331, 332, 333, 334, 335, 336, 337, 338, 339, 340, 341, 342, 343, 344, 345, 346, 347, 348, 349, 788, 789, 790, 791, 792, 793, 794, 795, 796, 797, 798, 799, 800, 801, 802, 803, 804, 805, 806, 807, 808, 809, 810, 811, 812, 813, 814, 815, 816, 817, 818] (by decide +kernel) (by decide +kernel)
set_option maxRecDepth 20000 in
theorem gL_law_X8_custom : GoodIn wsL_law (wsV RL 91 RX8 yX8_custom wsX8_custom) := goodIn_app (goodIn_of _ (by decide +kernel)) ggL_law_X8_custom
set_option maxRecDepth 20000 in
theorem ggL_law_X7_fault : GoodIn wsL_law wsX7_fault := goodIn_r _ [353, 42, 779, 780, 781, 782, 783, 784, 785, 786, 787] (by decide +kernel) (by decide +kernel)
set_option maxRecDepth 20000 in
theorem gL_law_X7_fault : GoodIn wsL_law (wsV RL 92 RX7 yX7_fault wsX7_fault) := goodIn_app (goodIn_of _ (by decide +kernel)) ggL_law_X7_fault
set_option maxRecDepth 20000 in
theorem ggL_law_X8_fault : GoodIn wsL_law wsX8_fault := goodIn_r _ [357, 145, 105, 788, 789, 790, 791, 792, 793, 794, 795, 796, 797, 798, 799, 800, 801, 802, 803, 804, 805, 806, 807, 808, 809, 810, 811, 812, 813, 814, 815, 816, 817, 818] (by decide +kernel) (by decide +kernel)
set_option maxRecDepth 20000 in
theorem gL_law_X8_fault : GoodIn wsL_law (wsV RL 95 RX8 yX8_fault wsX8_fault) := goodIn_app (goodIn_of _ (by decide +kernel)) ggL_law_X8_fault
set_option maxRecDepth 20000 in
theorem ggL_law_X7_force : GoodIn wsL_law wsX7_force := goodIn_r _ [361, 24, 362, 363, 364, 23, 365, 64, 57, 779, 780, 781, 782, 783, 784, 785, 786, 787, 832, 833, 834, 835, 836, 837, 838, 839] (by decide +kernel) (by decide +kernel)
set_option maxRecDepth 20000 in
theorem gL_law_X7_force : GoodIn wsL_law (wsV RL 96 RX7 yX7_force wsX7_force) := goodIn_app (goodIn_of _ (by decide +kernel)) ggL_law_X7_force
set_option maxRecDepth 20000 in
theorem ggL_law_X8_force : GoodIn wsL_law wsX8_force := goodIn_r _ [369, 145, 370, 371, 372, 5, 373, 306, 106, 788, 789, 790, 791, 792, 793, 794, 795, 796, 797, 798, 799, 800, 801, 802, 803, 804, 805, 806, 807, 808, 809, 810, 811, 812, 813, 814, 815, 816, 817, 818] (by decide +kernel) (by decide +kernel)
set_option maxRecDepth 20000 in
theorem gL_law_X8_force : GoodIn wsL_law (wsV RL 99 RX8 yX8_force wsX8_force) := goodIn_app (goodIn_of _ (by decide +kernel)) ggL_law_X8_force
set_option maxRecDepth 20000 in
theorem ggL_law_L_give : GoodIn wsL_law wsL_give := goodIn_ca (goodIn_ca (goodIn_ca (goodIn_r _ [376, 377, 125, 126, 378, 379, 380, 2, 381, 28, 382, 32, 383, 384, 385, 386, 131, 132, 387, 388, 389, 390, 391, 392, 136, 393, 394, 395, 396, 133, 134, 397, 398, 399, 400, 401, 402, 403, 277, 404, 24, 41, 405, 406, 407, 31, 408, 80, 78, 409, 410, 411, 412, 76, 77, 362, 363, 364, 23, 365, 64, 57, 413, 414, 415, 416, 59, 58, 417, 418, 419, 420, 421, 422, 423, 424, 425, 27, 426, 68, 427, 428, 429, 430, 431, 432, 433, 434, 435, 436, 276, 278, 437, 438, 439, 440, 441, 442, 443, 444, 445, 79, 446, 447, 448, 449, 450, 451, 452, 453, 60, 454, 455, 456, 457, 779, 780, 781, 782, 783, 784, 785, 786, 787, 840, 841, 842, 843, 844, 845, 846, 847, 848, 832, 833, 834, 835, 836, 837, 838, 839] (by decide +kernel) (by decide +kernel)) (goodIn_sub (fun _ h => List.mem_append_left _ (List.mem_append_left _ (List.mem_append_right _ h))) (by decide +kernel))) (goodIn_sub (fun _ h => List.mem_append_right _ h) (by decide +kernel))) (goodIn_sub (fun _ h => List.mem_append_left _ (List.mem_append_right _ h)) (by decide +kernel))
set_option maxRecDepth 20000 in
theorem gL_law_L_give : GoodIn wsL_law (va_wsS RL 100 yL_give wsL_give) := goodIn_app (goodIn_of _ (by decide +kernel)) ggL_law_L_give
set_option maxRecDepth 20000 in
theorem ggL_law_X8_give : GoodIn wsL_law wsX8_give := goodIn_r _ [461, 145, 101, 462, 463, 464, 465, 5, 466, 103, 467, 468, 469, 470, 147, 148, 149, 150, 151, 471, 472, 473, 474, 475, 476, 477, 478, 479, 108, 109, 110, 480, 481, 482, 483, 484, 107, 370, 371, 372, 373, 306, 106, 485, 486, 487, 488, 102, 489, 490, 491, 492, 111, 112, 493, 494, 495, 496, 788, 789, 790, 791, 792, 793, 794, 795, 796, 797, 798, 799, 800, 801, 802, 803, 804, 805, 806, 807, 808, 809, 810, 811, 812, 813, 814, 815, 816, 817, 818] (by decide +kernel) (by decide +kernel)
set_option maxRecDepth 20000 in
theorem gL_law_X8_give : GoodIn wsL_law (wsV RL 103 RX8 yX8_give wsX8_give) := goodIn_app (goodIn_of _ (by decide +kernel)) ggL_law_X8_give
set_option maxRecDepth 20000 in
theorem ggL_law_L_lend : GoodIn wsL_law wsL_lend := goodIn_ca (goodIn_ca (goodIn_ca (goodIn_r _ [499, 377, 125, 126, 500, 501, 502, 2, 503, 28, 382, 32, 383, 384, 385, 386, 131, 132, 387, 388, 389, 390, 391, 392, 136, 393, 394, 395, 396, 133, 134, 397, 419, 420, 421, 31, 422, 80, 423, 424, 425, 27, 426, 68, 454, 455, 456, 457, 76, 77, 78, 79, 779, 780, 781, 782, 783, 784, 785, 786, 787, 840, 841, 842, 843, 844, 845, 846, 847, 848] (by decide +kernel) (by decide +kernel)) (goodIn_sub (fun _ h => List.mem_append_left _ (List.mem_append_left _ (List.mem_append_right _ h))) (by decide +kernel))) (goodIn_sub (fun _ h => List.mem_append_right _ h) (by decide +kernel))) (goodIn_sub (fun _ h => List.mem_append_left _ (List.mem_append_right _ h)) (by decide +kernel))
set_option maxRecDepth 20000 in
theorem gL_law_L_lend : GoodIn wsL_law (va_wsS RL 104 yL_lend wsL_lend) := goodIn_app (goodIn_of _ (by decide +kernel)) ggL_law_L_lend
set_option maxRecDepth 20000 in
theorem ggL_law_X8_lend : GoodIn wsL_law wsX8_lend := goodIn_r _ [507, 145, 101, 462, 463, 464, 465, 5, 466, 103, 467, 468, 469, 470, 147, 148, 149, 150, 151, 493, 494, 495, 496, 108, 109, 110, 111, 112, 788, 789, 790, 791, 792, 793, 794, 795, 796, 797, 798, 799, 800, 801, 802, 803, 804, 805, 806, 807, 808, 809, 810, 811, 812, 813, 814, 815, 816, 817, 818] (by decide +kernel) (by decide +kernel)
set_option maxRecDepth 20000 in
theorem gL_law_X8_lend : GoodIn wsL_law (wsV RL 106 RX8 yX8_lend wsX8_lend) := goodIn_app (goodIn_of _ (by decide +kernel)) ggL_law_X8_lend
set_option maxRecDepth 20000 in
theorem ggL_law_L_copper : GoodIn wsL_law wsL_copper := goodIn_ca (goodIn_ca (goodIn_ca (goodIn_r _ [510, 377, 125, 126, 511, 512, 513, 2, 514, 131, 132, 133, 134, 135, 36, 515, 387, 388, 389, 390, 391, 392, 28, 136, 393, 394, 395, 396, 397, 516, 517, 518, 35, 519, 84, 87, 85, 86, 779, 780, 781, 782, 783, 784, 785, 786, 787, 849, 850, 851, 852, 840, 841, 842, 843] (by decide +kernel) (by decide +kernel)) (goodIn_sub (fun _ h => List.mem_append_left _ (List.mem_append_left _ (List.mem_append_right _ h))) (by decide +kernel))) (goodIn_sub (fun _ h => List.mem_append_left _ (List.mem_append_right _ h)) (by decide +kernel))) (goodIn_sub (fun _ h => List.mem_append_right _ h) (by decide +kernel))
set_option maxRecDepth 20000 in
theorem gL_law_L_copper : GoodIn wsL_law (va_wsS RL 107 yL_copper wsL_copper) := goodIn_app (goodIn_of _ (by decide +kernel)) ggL_law_L_copper
set_option maxRecDepth 20000 in
theorem ggL_law_X8_copper : GoodIn wsL_law wsX8_copper := goodIn_r _ [523, 145, 146, 103, 524, 113, 114, 115, 467, 468, 469, 5, 470, 147, 148, 149, 150, 151, 788, 789, 790, 791, 792, 793, 794, 795, 796, 797, 798, 799, 800, 801, 802, 803, 804, 805, 806, 807, 808, 809, 810, 811, 812, 813, 814, 815, 816, 817, 818] (by decide +kernel) (by decide +kernel)
set_option maxRecDepth 20000 in
theorem gL_law_X8_copper : GoodIn wsL_law (wsV RL 109 RX8 yX8_copper wsX8_copper) := goodIn_app (goodIn_of _ (by decide +kernel)) ggL_law_X8_copper
set_option maxRecDepth 20000 in
theorem ggL_law_L_pass : GoodIn wsL_law wsL_pass := goodIn_ca (goodIn_ca (goodIn_ca (goodIn_r _ [527, 377, 125, 126, 528, 529, 530, 2, 531, 131, 132, 36, 532, 533, 32, 534, 535, 536, 537, 391, 392, 515, 387, 388, 389, 390, 28, 136, 393, 394, 395, 396, 133, 134, 397, 398, 399, 400, 401, 402, 403, 277, 404, 24, 41, 405, 406, 407, 31, 408, 80, 78, 409, 410, 411, 412, 76, 77, 362, 363, 364, 23, 365, 64, 57, 413, 414, 415, 416, 59, 58, 417, 418, 419, 420, 421, 422, 427, 428, 429, 430, 431, 432, 433, 434, 435, 436, 276, 278, 437, 438, 439, 440, 441, 442, 443, 444, 445, 79, 446, 447, 448, 449, 450, 451, 452, 453, 60, 454, 455, 456, 457, 779, 780, 781, 782, 783, 784, 785, 786, 787, 849, 850, 851, 852, 840, 841, 842, 843, 844, 845, 846, 847, 848, 832, 833, 834, 835, 836, 837, 838, 839] (by decide +kernel) (by decide +kernel)) (goodIn_sub (fun _ h => List.mem_append_left _ (List.mem_append_left _ (List.mem_append_right _ h))) (by decide +kernel))) (goodIn_sub (fun _ h => List.mem_append_right _ h) (by decide +kernel))) (goodIn_sub (fun _ h => List.mem_append_left _ (List.mem_append_right _ h)) (by decide +kernel))
set_option maxRecDepth 20000 in
theorem gL_law_L_pass : GoodIn wsL_law (va_wsS RL 110 yL_pass wsL_pass) := goodIn_app (goodIn_of _ (by decide +kernel)) ggL_law_L_pass
set_option maxRecDepth 20000 in
theorem ggL_law_X8_pass : GoodIn wsL_law wsX8_pass := goodIn_r _ [541, 145, 113, 103, 114, 462, 542, 543, 544, 5, 545, 524, 467, 468, 469, 470, 147, 148, 149, 150, 151, 471, 472, 473, 474, 475, 476, 477, 478, 479, 108, 109, 110, 480, 481, 482, 483, 484, 107, 370, 371, 372, 373, 306, 106, 485, 486, 487, 488, 102, 489, 490, 491, 492, 111, 112, 493, 494, 495, 496, 788, 789, 790, 791, 792, 793, 794, 795, 796, 797, 798, 799, 800, 801, 802, 803, 804, 805, 806, 807, 808, 809, 810, 811, 812, 813, 814, 815, 816, 817, 818] (by decide +kernel) (by decide +kernel)
set_option maxRecDepth 20000 in
theorem gL_law_X8_pass : GoodIn wsL_law (wsV RL 112 RX8 yX8_pass wsX8_pass) := goodIn_app (goodIn_of _ (by decide +kernel)) ggL_law_X8_pass
set_option maxRecDepth 20000 in
theorem ggL_law_L_breaks : GoodIn wsL_law wsL_breaks := goodIn_ca (goodIn_r _ [548, 377, 549, 550, 551, 2, 552, 36, 533, 534, 535, 536, 537, 391, 392, 515, 553, 554, 555, 35, 556, 85, 557, 558, 277, 559, 86, 779, 780, 781, 782, 783, 784, 785, 786, 787, 849, 850, 851, 852] (by decide +kernel) (by decide +kernel)) (goodIn_sub (fun _ h => List.mem_append_right _ h) (by decide +kernel))
set_option maxRecDepth 20000 in
theorem gL_law_L_breaks : GoodIn wsL_law (va_wsS RL 113 yL_breaks wsL_breaks) := goodIn_app (goodIn_of _ (by decide +kernel)) ggL_law_L_breaks
set_option maxRecDepth 20000 in
theorem ggL_law_X8_breaks : GoodIn wsL_law wsX8_breaks := goodIn_r _ [563, 145, 114, 115, 542, 543, 544, 5, 545, 524, 148, 149, 150, 151, 788, 789, 790, 791, 792, 793, 794, 795, 796, 797, 798, 799, 800, 801, 802, 803, 804, 805, 806, 807, 808, 809, 810, 811, 812, 813, 814, 815, 816, 817, 818] (by decide +kernel) (by decide +kernel)
set_option maxRecDepth 20000 in
theorem gL_law_X8_breaks : GoodIn wsL_law (wsV RL 115 RX8 yX8_breaks wsX8_breaks) := goodIn_app (goodIn_of _ (by decide +kernel)) ggL_law_X8_breaks
set_option maxRecDepth 20000 in
theorem ggL_law_L_copperTold : GoodIn wsL_law wsL_copperTold := goodIn_ca (goodIn_ca (goodIn_r _ [566, 377, 125, 567, 568, 569, 2, 570, 131, 132, 36, 532, 533, 534, 535, 536, 537, 391, 392, 515, 779, 780, 781, 782, 783, 784, 785, 786, 787, 849, 850, 851, 852] (by decide +kernel) (by decide +kernel)) (goodIn_sub (fun _ h => List.mem_append_left _ (List.mem_append_left _ (List.mem_append_right _ h))) (by decide +kernel))) (goodIn_sub (fun _ h => List.mem_append_right _ h) (by decide +kernel))
set_option maxRecDepth 20000 in
theorem gL_law_L_copperTold : GoodIn wsL_law (va_wsS RL 116 yL_copperTold wsL_copperTold) := goodIn_app (goodIn_of _ (by decide +kernel)) ggL_law_L_copperTold
set_option maxRecDepth 20000 in
theorem ggL_law_X8_copperTold : GoodIn wsL_law wsX8_copperTold := goodIn_r _ [574, 145, 113, 114, 542, 543, 544, 5, 545, 524, 148, 149, 150, 151, 788, 789, 790, 791, 792, 793, 794, 795, 796, 797, 798, 799, 800, 801, 802, 803, 804, 805, 806, 807, 808, 809, 810, 811, 812, 813, 814, 815, 816, 817, 818] (by decide +kernel) (by decide +kernel)
set_option maxRecDepth 20000 in
theorem gL_law_X8_copperTold : GoodIn wsL_law (wsV RL 118 RX8 yX8_copperTold wsX8_copperTold) := goodIn_app (goodIn_of _ (by decide +kernel)) ggL_law_X8_copperTold
set_option maxRecDepth 20000 in
theorem ggL_law_L_feast : GoodIn wsL_law wsL_feast := goodIn_ca (goodIn_ca (goodIn_ca (goodIn_r _ [577, 377, 125, 126, 578, 579, 580, 2, 581, 24, 41, 28, 382, 32, 136, 582, 583, 584, 585, 131, 132, 586, 387, 388, 389, 390, 391, 392, 587, 588, 589, 393, 394, 395, 396, 133, 134, 397, 362, 363, 364, 23, 365, 64, 57, 590, 591, 592, 593, 63, 594, 595, 596, 597, 598, 599, 600, 601, 602, 603, 604, 398, 399, 400, 401, 402, 403, 277, 404, 405, 406, 407, 31, 408, 80, 78, 409, 410, 411, 412, 76, 77, 413, 414, 415, 416, 59, 58, 417, 418, 419, 420, 421, 422, 423, 424, 425, 27, 426, 68, 427, 428, 429, 430, 431, 432, 433, 434, 435, 436, 276, 278, 437, 438, 439, 440, 441, 442, 443, 444, 445, 79, 446, 447, 448, 449, 450, 451, 452, 453, 60, 454, 455, 456, 457, 779, 780, 781, 782, 783, 784, 785, 786, 787, 840, 841, 842, 843, 832, 833, 834, 835, 836, 837, 838, 839, 844, 845, 846, 847, 848] (by decide +kernel) (by decide +kernel)) (goodIn_sub (fun _ h => List.mem_append_left _ (List.mem_append_left _ (List.mem_append_right _ h))) (by decide +kernel))) (goodIn_sub (fun _ h => List.mem_append_right _ h) (by decide +kernel))) (goodIn_sub (fun _ h => List.mem_append_left _ (List.mem_append_right _ h)) (by decide +kernel))
set_option maxRecDepth 20000 in
theorem gL_law_L_feast : GoodIn wsL_law (va_wsS RL 119 yL_feast wsL_feast) := goodIn_app (goodIn_of _ (by decide +kernel)) ggL_law_L_feast
set_option maxRecDepth 20000 in
theorem ggL_law_X8_feast : GoodIn wsL_law wsX8_feast := goodIn_r _ [608, 145, 147, 609, 103, 101, 462, 467, 468, 469, 5, 470, 148, 149, 150, 151, 610, 611, 612, 480, 481, 482, 483, 484, 107, 370, 371, 372, 373, 306, 106, 471, 472, 473, 474, 475, 476, 477, 478, 479, 108, 109, 110, 485, 486, 487, 488, 102, 489, 490, 491, 492, 111, 112, 493, 494, 495, 496, 788, 789, 790, 791, 792, 793, 794, 795, 796, 797, 798, 799, 800, 801, 802, 803, 804, 805, 806, 807, 808, 809, 810, 811, 812, 813, 814, 815, 816, 817, 818] (by decide +kernel) (by decide +kernel)
set_option maxRecDepth 20000 in
theorem gL_law_X8_feast : GoodIn wsL_law (wsV RL 122 RX8 yX8_feast wsX8_feast) := goodIn_app (goodIn_of _ (by decide +kernel)) ggL_law_X8_feast
set_option maxRecDepth 20000 in
theorem ggL_law_L_died : GoodIn wsL_law wsL_died := goodIn_ca (goodIn_ca (goodIn_ca (goodIn_r _ [615, 377, 125, 126, 616, 617, 618, 2, 619, 131, 132, 28, 382, 397, 36, 32, 387, 388, 389, 390, 391, 392, 136, 393, 394, 395, 396, 133, 134, 423, 424, 425, 27, 426, 68, 620, 621, 622, 35, 623, 87, 84, 624, 625, 626, 31, 627, 80, 78, 76, 77, 409, 410, 411, 412, 779, 780, 781, 782, 783, 784, 785, 786, 787, 840, 841, 842, 843, 849, 850, 851, 852, 844, 845, 846, 847, 848] (by decide +kernel) (by decide +kernel)) (goodIn_sub (fun _ h => List.mem_append_left _ (List.mem_append_left _ (List.mem_append_right _ h))) (by decide +kernel))) (goodIn_sub (fun _ h => List.mem_append_right _ h) (by decide +kernel))) (goodIn_sub (fun _ h => List.mem_append_left _ (List.mem_append_right _ h)) (by decide +kernel))
set_option maxRecDepth 20000 in
theorem gL_law_L_died : GoodIn wsL_law (va_wsS RL 123 yL_died wsL_died) := goodIn_app (goodIn_of _ (by decide +kernel)) ggL_law_L_died
set_option maxRecDepth 20000 in
theorem ggL_law_X8_died : GoodIn wsL_law wsX8_died := goodIn_r _ [631, 145, 103, 101, 524, 113, 462, 110, 108, 109, 467, 468, 469, 5, 470, 147, 148, 149, 150, 151, 788, 789, 790, 791, 792, 793, 794, 795, 796, 797, 798, 799, 800, 801, 802, 803, 804, 805, 806, 807, 808, 809, 810, 811, 812, 813, 814, 815, 816, 817, 818] (by decide +kernel) (by decide +kernel)
set_option maxRecDepth 20000 in
theorem gL_law_X8_died : GoodIn wsL_law (wsV RL 125 RX8 yX8_died wsX8_died) := goodIn_app (goodIn_of _ (by decide +kernel)) ggL_law_X8_died
set_option maxRecDepth 20000 in
theorem ggL_law_L_wait : GoodIn wsL_law wsL_wait := goodIn_ca (goodIn_r _ [634, 125, 635, 636, 637, 2, 638, 131, 132, 41, 639, 640, 641, 642, 24, 32, 643, 644, 362, 363, 364, 23, 365, 64, 57, 645, 447, 448, 31, 449, 79, 646, 647, 648, 649, 62, 61, 417, 418, 403, 277, 404, 779, 780, 781, 782, 783, 784, 785, 786, 787, 844, 845, 846, 847, 848, 832, 833, 834, 835, 836, 837, 838, 839] (by decide +kernel) (by decide +kernel)) (goodIn_sub (fun _ h => List.mem_append_left _ (List.mem_append_left _ (List.mem_append_right _ h))) (by decide +kernel))
set_option maxRecDepth 20000 in
theorem gL_law_L_wait : GoodIn wsL_law (va_wsS RL 126 yL_wait wsL_wait) := goodIn_app (goodIn_of _ (by decide +kernel)) ggL_law_L_wait
set_option maxRecDepth 20000 in
theorem ggL_law_X8_wait : GoodIn wsL_law wsX8_wait := goodIn_r _ [653, 145, 484, 462, 111, 110, 475, 148, 149, 150, 5, 151, 480, 481, 482, 483, 107, 370, 371, 372, 373, 306, 106, 788, 789, 790, 791, 792, 793, 794, 795, 796, 797, 798, 799, 800, 801, 802, 803, 804, 805, 806, 807, 808, 809, 810, 811, 812, 813, 814, 815, 816, 817, 818] (by decide +kernel) (by decide +kernel)
set_option maxRecDepth 20000 in
theorem gL_law_X8_wait : GoodIn wsL_law (wsV RL 128 RX8 yX8_wait wsX8_wait) := goodIn_app (goodIn_of _ (by decide +kernel)) ggL_law_X8_wait
set_option maxRecDepth 20000 in
theorem ggL_law_L_debt : GoodIn wsL_law wsL_debt := goodIn_ca (goodIn_ca (goodIn_r _ [656, 377, 125, 657, 658, 659, 2, 660, 391, 392, 131, 132, 32, 643, 661, 662, 644, 663, 645, 447, 448, 31, 449, 79, 779, 780, 781, 782, 783, 784, 785, 786, 787, 844, 845, 846, 847, 848] (by decide +kernel) (by decide +kernel)) (goodIn_sub (fun _ h => List.mem_append_right _ h) (by decide +kernel))) (goodIn_sub (fun _ h => List.mem_append_left _ (List.mem_append_left _ (List.mem_append_right _ h))) (by decide +kernel))
set_option maxRecDepth 20000 in
theorem gL_law_L_debt : GoodIn wsL_law (va_wsS RL 129 yL_debt wsL_debt) := goodIn_app (goodIn_of _ (by decide +kernel)) ggL_law_L_debt
set_option maxRecDepth 20000 in
theorem ggL_law_X8_debt : GoodIn wsL_law wsX8_debt := goodIn_r _ [667, 145, 462, 108, 109, 110, 111, 112, 148, 149, 150, 5, 151, 788, 789, 790, 791, 792, 793, 794, 795, 796, 797, 798, 799, 800, 801, 802, 803, 804, 805, 806, 807, 808, 809, 810, 811, 812, 813, 814, 815, 816, 817, 818] (by decide +kernel) (by decide +kernel)
set_option maxRecDepth 20000 in
theorem gL_law_X8_debt : GoodIn wsL_law (wsV RL 131 RX8 yX8_debt wsX8_debt) := goodIn_app (goodIn_of _ (by decide +kernel)) ggL_law_X8_debt
set_option maxRecDepth 20000 in
theorem ggL_law_X7_late : GoodIn wsL_law wsX7_late := goodIn_r _ [671, 32, 41, 672, 673, 674, 31, 675, 80, 78, 79, 446, 447, 448, 449, 779, 780, 781, 782, 783, 784, 785, 786, 787, 844, 845, 846, 847, 848] (by decide +kernel) (by decide +kernel)
set_option maxRecDepth 20000 in
theorem gL_law_X7_late : GoodIn wsL_law (wsV RL 132 RX7 yX7_late wsX7_late) := goodIn_app (goodIn_of _ (by decide +kernel)) ggL_law_X7_late
set_option maxRecDepth 20000 in
theorem ggL_law_X8_late : GoodIn wsL_law wsX8_late := goodIn_r _ [679, 145, 462, 111, 110, 112, 484, 788, 789, 790, 791, 792, 793, 794, 795, 796, 797, 798, 799, 800, 801, 802, 803, 804, 805, 806, 807, 808, 809, 810, 811, 812, 813, 814, 815, 816, 817, 818] (by decide +kernel) (by decide +kernel)
set_option maxRecDepth 20000 in
theorem gL_law_X8_late : GoodIn wsL_law (wsV RL 135 RX8 yX8_late wsX8_late) := goodIn_app (goodIn_of _ (by decide +kernel)) ggL_law_X8_late
set_option maxRecDepth 20000 in
theorem ggL_law_L_about : GoodIn wsL_law wsL_about := goodIn_ca (goodIn_ca (goodIn_r _ [682, 377, 125, 683, 684, 685, 2, 686, 131, 132, 28, 382, 397, 387, 388, 389, 390, 391, 392, 136, 687, 688, 689, 27, 690, 71, 72, 69, 779, 780, 781, 782, 783, 784, 785, 786, 787, 840, 841, 842, 843] (by decide +kernel) (by decide +kernel)) (goodIn_sub (fun _ h => List.mem_append_left _ (List.mem_append_left _ (List.mem_append_right _ h))) (by decide +kernel))) (goodIn_sub (fun _ h => List.mem_append_right _ h) (by decide +kernel))
set_option maxRecDepth 20000 in
theorem gL_law_L_about : GoodIn wsL_law (va_wsS RL 136 yL_about wsL_about) := goodIn_app (goodIn_of _ (by decide +kernel)) ggL_law_L_about
set_option maxRecDepth 20000 in
theorem ggL_law_X8_about : GoodIn wsL_law wsX8_about := goodIn_r _ [694, 145, 101, 103, 147, 102, 467, 468, 469, 5, 470, 148, 149, 150, 151, 788, 789, 790, 791, 792, 793, 794, 795, 796, 797, 798, 799, 800, 801, 802, 803, 804, 805, 806, 807, 808, 809, 810, 811, 812, 813, 814, 815, 816, 817, 818] (by decide +kernel) (by decide +kernel)
set_option maxRecDepth 20000 in
theorem gL_law_X8_about : GoodIn wsL_law (wsV RL 138 RX8 yX8_about wsX8_about) := goodIn_app (goodIn_of _ (by decide +kernel)) ggL_law_X8_about
set_option maxRecDepth 20000 in
theorem ggL_law_L_fame : GoodIn wsL_law wsL_fame := goodIn_ca (goodIn_r _ [697, 377, 698, 699, 700, 2, 701, 28, 431, 387, 388, 389, 390, 391, 392, 136, 779, 780, 781, 782, 783, 784, 785, 786, 787, 840, 841, 842, 843] (by decide +kernel) (by decide +kernel)) (goodIn_sub (fun _ h => List.mem_append_right _ h) (by decide +kernel))
set_option maxRecDepth 20000 in
theorem gL_law_L_fame : GoodIn wsL_law (va_wsS RL 139 yL_fame wsL_fame) := goodIn_app (goodIn_of _ (by decide +kernel)) ggL_law_L_fame
set_option maxRecDepth 20000 in
theorem ggL_law_X8_fame : GoodIn wsL_law wsX8_fame := goodIn_r _ [705, 145, 102, 467, 468, 469, 5, 470, 147, 148, 149, 150, 151, 788, 789, 790, 791, 792, 793, 794, 795, 796, 797, 798, 799, 800, 801, 802, 803, 804, 805, 806, 807, 808, 809, 810, 811, 812, 813, 814, 815, 816, 817, 818] (by decide +kernel) (by decide +kernel)
set_option maxRecDepth 20000 in
theorem gL_law_X8_fame : GoodIn wsL_law (wsV RL 141 RX8 yX8_fame wsX8_fame) := goodIn_app (goodIn_of _ (by decide +kernel)) ggL_law_X8_fame
set_option maxRecDepth 20000 in
theorem ggL_law_L_gather : GoodIn wsL_law wsL_gather := goodIn_ca (goodIn_r _ [708, 377, 709, 710, 711, 2, 712, 28, 397, 713, 40, 32, 387, 388, 389, 390, 391, 392, 136, 714, 715, 716, 39, 717, 91, 718, 93, 719, 720, 721, 722, 723, 724, 447, 448, 31, 449, 79, 725, 726, 727, 728, 729, 730, 731, 732, 94, 96, 95, 733, 734, 735, 736, 737, 403, 277, 404, 779, 780, 781, 782, 783, 784, 785, 786, 787, 840, 841, 842, 843, 853, 854, 855, 856, 857, 844, 845, 846, 847, 848] (by decide +kernel) (by decide +kernel)) (goodIn_sub (fun _ h => List.mem_append_right _ h) (by decide +kernel))
set_option maxRecDepth 20000 in
theorem gL_law_L_gather : GoodIn wsL_law (va_wsS RL 142 yL_gather wsL_gather) := goodIn_app (goodIn_of _ (by decide +kernel)) ggL_law_L_gather
set_option maxRecDepth 20000 in
theorem ggL_law_X8_gather : GoodIn wsL_law wsX8_gather := goodIn_r _ [741, 145, 103, 742, 467, 468, 469, 5, 470, 147, 148, 149, 150, 151, 743, 744, 745, 746, 116, 117, 101, 462, 111, 112, 108, 109, 110, 747, 120, 118, 748, 749, 750, 751, 119, 788, 789, 790, 791, 792, 793, 794, 795, 796, 797, 798, 799, 800, 801, 802, 803, 804, 805, 806, 807, 808, 809, 810, 811, 812, 813, 814, 815, 816, 817, 818] (by decide +kernel) (by decide +kernel)
set_option maxRecDepth 20000 in
theorem gL_law_X8_gather : GoodIn wsL_law (wsV RL 144 RX8 yX8_gather wsX8_gather) := goodIn_app (goodIn_of _ (by decide +kernel)) ggL_law_X8_gather
set_option maxRecDepth 20000 in
theorem ggL_law_L_hold : GoodIn wsL_law wsL_hold := goodIn_ca (goodIn_r _ [754, 377, 755, 756, 757, 2, 758, 28, 397, 40, 32, 387, 388, 389, 390, 391, 392, 136, 714, 715, 716, 39, 717, 91, 718, 93, 719, 720, 721, 722, 723, 724, 447, 448, 31, 449, 79, 725, 726, 727, 728, 729, 730, 731, 732, 94, 96, 95, 733, 734, 735, 736, 737, 403, 277, 404, 759, 760, 761, 762, 779, 780, 781, 782, 783, 784, 785, 786, 787, 840, 841, 842, 843, 853, 854, 855, 856, 857, 844, 845, 846, 847, 848] (by decide +kernel) (by decide +kernel)) (goodIn_sub (fun _ h => List.mem_append_right _ h) (by decide +kernel))
set_option maxRecDepth 20000 in
theorem gL_law_L_hold : GoodIn wsL_law (va_wsS RL 145 yL_hold wsL_hold) := goodIn_app (goodIn_of _ (by decide +kernel)) ggL_law_L_hold
set_option maxRecDepth 20000 in
theorem ggL_law_X8_hold : GoodIn wsL_law wsX8_hold := goodIn_r _ [766, 145, 103, 147, 119, 467, 468, 469, 5, 470, 148, 149, 150, 151, 743, 744, 745, 746, 116, 117, 101, 462, 111, 112, 108, 109, 110, 747, 120, 118, 748, 749, 750, 751, 788, 789, 790, 791, 792, 793, 794, 795, 796, 797, 798, 799, 800, 801, 802, 803, 804, 805, 806, 807, 808, 809, 810, 811, 812, 813, 814, 815, 816, 817, 818] (by decide +kernel) (by decide +kernel)
set_option maxRecDepth 20000 in
theorem gL_law_X8_hold : GoodIn wsL_law (wsV RL 147 RX8 yX8_hold wsX8_hold) := goodIn_app (goodIn_of _ (by decide +kernel)) ggL_law_X8_hold
set_option maxRecDepth 20000 in
theorem ggL_law_X7_count : GoodIn wsL_law wsX7_count := goodIn_r _ [770, 28, 136, 24, 177, 32, 643, 36, 515, 41, 16, 160, 771, 772, 773, 31, 774, 80, 78, 779, 780, 781, 782, 783, 784, 785, 786, 787, 840, 841, 842, 843, 832, 833, 834, 835, 836, 837, 838, 839, 844, 845, 846, 847, 848, 849, 850, 851, 852, 819, 820] (by decide +kernel) (by decide +kernel)
set_option maxRecDepth 20000 in
theorem gL_law_X7_count : GoodIn wsL_law (wsV RL 148 RX7 yX7_count wsX7_count) := goodIn_app (goodIn_of _ (by decide +kernel)) ggL_law_X7_count
set_option maxRecDepth 20000 in
theorem ggL_law_X8_count : GoodIn wsL_law wsX8_count := goodIn_r _ [778, 145, 147, 306, 462, 110, 524, 484, 169, 788, 789, 790, 791, 792, 793, 794, 795, 796, 797, 798, 799, 800, 801, 802, 803, 804, 805, 806, 807, 808, 809, 810, 811, 812, 813, 814, 815, 816, 817, 818] (by decide +kernel) (by decide +kernel)
set_option maxRecDepth 20000 in
theorem gL_law_X8_count : GoodIn wsL_law (wsV RL 151 RX8 yX8_count wsX8_count) := goodIn_app (goodIn_of _ (by decide +kernel)) ggL_law_X8_count
theorem dL_law_0 : decode cL_law 0 = .ok (.new 8, 3) := by decide +kernel
theorem dL_law_3 : decode cL_law 3 = .ok (.dup, 1) := by decide +kernel
theorem dL_law_4 : decode cL_law 4 = .ok (.invokespecial 69, 3) := by decide +kernel
theorem dL_law_7 : decode cL_law 7 = .ok (.astore_n 1, 1) := by decide +kernel
theorem dL_law_8 : decode cL_law 8 = .ok (.new 70, 3) := by decide +kernel
theorem dL_law_11 : decode cL_law 11 = .ok (.dup, 1) := by decide +kernel
theorem dL_law_12 : decode cL_law 12 = .ok (.invokespecial 72, 3) := by decide +kernel
theorem dL_law_15 : decode cL_law 15 = .ok (.astore_n 2, 1) := by decide +kernel
theorem dL_law_16 : decode cL_law 16 = .ok (.iconst 1, 1) := by decide +kernel
theorem dL_law_17 : decode cL_law 17 = .ok (.newarray .long, 2) := by decide +kernel
theorem dL_law_19 : decode cL_law 19 = .ok (.astore_n 3, 1) := by decide +kernel
theorem dL_law_20 : decode cL_law 20 = .ok (.iconst 0, 1) := by decide +kernel
theorem dL_law_21 : decode cL_law 21 = .ok (.istore 4, 2) := by decide +kernel
theorem dL_law_23 : decode cL_law 23 = .ok (.iload 4, 2) := by decide +kernel
theorem dL_law_25 : decode cL_law 25 = .ok (.aload_n 0, 1) := by decide +kernel
theorem dL_law_26 : decode cL_law 26 = .ok (.arraylength, 1) := by decide +kernel
theorem dL_law_27 : decode cL_law 27 = .ok (.bipush 6, 2) := by decide +kernel
theorem dL_law_29 : decode cL_law 29 = .ok (.isub, 1) := by decide +kernel
theorem dL_law_30 : decode cL_law 30 = .ok (.if_icmp .gt 1363, 3) := by decide +kernel
theorem dL_law_33 : decode cL_law 33 = .ok (.aload_n 0, 1) := by decide +kernel
theorem dL_law_34 : decode cL_law 34 = .ok (.iload 4, 2) := by decide +kernel
theorem dL_law_36 : decode cL_law 36 = .ok (.iaload, 1) := by decide +kernel
theorem dL_law_37 : decode cL_law 37 = .ok (.bipush 31, 2) := by decide +kernel
theorem dL_law_39 : decode cL_law 39 = .ok (.iand, 1) := by decide +kernel
theorem dL_law_40 : decode cL_law 40 = .ok (.tableswitch 1347 0 20 #[100, 156, 229, 297, 310, 335, 415, 495, 563, 631, 687, 755, 847, 915, 971, 1039, 1064, 1132, 1187, 1254, 1322], 100) := by decide +kernel
theorem dL_law_140 : decode cL_law 140 = .ok (.aload_n 1, 1) := by decide +kernel
theorem dL_law_141 : decode cL_law 141 = .ok (.aload_n 0, 1) := by decide +kernel
theorem dL_law_142 : decode cL_law 142 = .ok (.iload 4, 2) := by decide +kernel
theorem dL_law_144 : decode cL_law 144 = .ok (.iconst 1, 1) := by decide +kernel
theorem dL_law_145 : decode cL_law 145 = .ok (.iadd, 1) := by decide +kernel
theorem dL_law_146 : decode cL_law 146 = .ok (.iaload, 1) := by decide +kernel
theorem dL_law_147 : decode cL_law 147 = .ok (.aload_n 3, 1) := by decide +kernel
theorem dL_law_148 : decode cL_law 148 = .ok (.invokestatic 73, 3) := by decide +kernel
theorem dL_law_151 : decode cL_law 151 = .ok (.istore 5, 2) := by decide +kernel
theorem dL_law_153 : decode cL_law 153 = .ok (.aload_n 2, 1) := by decide +kernel
theorem dL_law_154 : decode cL_law 154 = .ok (.aload_n 0, 1) := by decide +kernel
theorem dL_law_155 : decode cL_law 155 = .ok (.iload 4, 2) := by decide +kernel
theorem dL_law_157 : decode cL_law 157 = .ok (.iconst 1, 1) := by decide +kernel
theorem dL_law_158 : decode cL_law 158 = .ok (.iadd, 1) := by decide +kernel
theorem dL_law_159 : decode cL_law 159 = .ok (.iaload, 1) := by decide +kernel
theorem dL_law_160 : decode cL_law 160 = .ok (.invokevirtual 78, 3) := by decide +kernel
theorem dL_law_163 : decode cL_law 163 = .ok (.istore 6, 2) := by decide +kernel
theorem dL_law_165 : decode cL_law 165 = .ok (.aload_n 2, 1) := by decide +kernel
theorem dL_law_166 : decode cL_law 166 = .ok (.invokevirtual 79, 3) := by decide +kernel
theorem dL_law_169 : decode cL_law 169 = .ok (.iload 5, 2) := by decide +kernel
theorem dL_law_171 : decode cL_law 171 = .ok (.if_icmp .eq 5, 3) := by decide +kernel
theorem dL_law_174 : decode cL_law 174 = .ok (.iconst 0, 1) := by decide +kernel
theorem dL_law_175 : decode cL_law 175 = .ok (.ireturn, 1) := by decide +kernel
theorem dL_law_176 : decode cL_law 176 = .ok (.iload 5, 2) := by decide +kernel
theorem dL_law_178 : decode cL_law 178 = .ok (.ifCond .ne 15, 3) := by decide +kernel
theorem dL_law_181 : decode cL_law 181 = .ok (.aload_n 3, 1) := by decide +kernel
theorem dL_law_182 : decode cL_law 182 = .ok (.iconst 0, 1) := by decide +kernel
theorem dL_law_183 : decode cL_law 183 = .ok (.laload, 1) := by decide +kernel
theorem dL_law_184 : decode cL_law 184 = .ok (.iload 6, 2) := by decide +kernel
theorem dL_law_186 : decode cL_law 186 = .ok (.i2l, 1) := by decide +kernel
theorem dL_law_187 : decode cL_law 187 = .ok (.lcmp, 1) := by decide +kernel
theorem dL_law_188 : decode cL_law 188 = .ok (.ifCond .eq 5, 3) := by decide +kernel
theorem dL_law_191 : decode cL_law 191 = .ok (.iconst 0, 1) := by decide +kernel
theorem dL_law_192 : decode cL_law 192 = .ok (.ireturn, 1) := by decide +kernel
theorem dL_law_193 : decode cL_law 193 = .ok (.goto 1194, 3) := by decide +kernel
theorem dL_law_196 : decode cL_law 196 = .ok (.aload_n 1, 1) := by decide +kernel
theorem dL_law_197 : decode cL_law 197 = .ok (.aload_n 0, 1) := by decide +kernel
theorem dL_law_198 : decode cL_law 198 = .ok (.iload 4, 2) := by decide +kernel
theorem dL_law_200 : decode cL_law 200 = .ok (.iconst 1, 1) := by decide +kernel
theorem dL_law_201 : decode cL_law 201 = .ok (.iadd, 1) := by decide +kernel
theorem dL_law_202 : decode cL_law 202 = .ok (.iaload, 1) := by decide +kernel
theorem dL_law_203 : decode cL_law 203 = .ok (.aload_n 0, 1) := by decide +kernel
theorem dL_law_204 : decode cL_law 204 = .ok (.iload 4, 2) := by decide +kernel
theorem dL_law_206 : decode cL_law 206 = .ok (.iconst 2, 1) := by decide +kernel
theorem dL_law_207 : decode cL_law 207 = .ok (.iadd, 1) := by decide +kernel
theorem dL_law_208 : decode cL_law 208 = .ok (.iaload, 1) := by decide +kernel
theorem dL_law_209 : decode cL_law 209 = .ok (.aload_n 0, 1) := by decide +kernel
theorem dL_law_210 : decode cL_law 210 = .ok (.iload 4, 2) := by decide +kernel
theorem dL_law_212 : decode cL_law 212 = .ok (.iconst 3, 1) := by decide +kernel
theorem dL_law_213 : decode cL_law 213 = .ok (.iadd, 1) := by decide +kernel
theorem dL_law_214 : decode cL_law 214 = .ok (.iaload, 1) := by decide +kernel
theorem dL_law_215 : decode cL_law 215 = .ok (.aload_n 0, 1) := by decide +kernel
theorem dL_law_216 : decode cL_law 216 = .ok (.iload 4, 2) := by decide +kernel
theorem dL_law_218 : decode cL_law 218 = .ok (.iconst 4, 1) := by decide +kernel
theorem dL_law_219 : decode cL_law 219 = .ok (.iadd, 1) := by decide +kernel
theorem dL_law_220 : decode cL_law 220 = .ok (.iaload, 1) := by decide +kernel
theorem dL_law_221 : decode cL_law 221 = .ok (.aload_n 0, 1) := by decide +kernel
theorem dL_law_222 : decode cL_law 222 = .ok (.iload 4, 2) := by decide +kernel
theorem dL_law_224 : decode cL_law 224 = .ok (.iconst 5, 1) := by decide +kernel
theorem dL_law_225 : decode cL_law 225 = .ok (.iadd, 1) := by decide +kernel
theorem dL_law_226 : decode cL_law 226 = .ok (.iaload, 1) := by decide +kernel
theorem dL_law_227 : decode cL_law 227 = .ok (.invokevirtual 83, 3) := by decide +kernel
theorem dL_law_230 : decode cL_law 230 = .ok (.aload_n 2, 1) := by decide +kernel
theorem dL_law_231 : decode cL_law 231 = .ok (.aload_n 0, 1) := by decide +kernel
theorem dL_law_232 : decode cL_law 232 = .ok (.iload 4, 2) := by decide +kernel
theorem dL_law_234 : decode cL_law 234 = .ok (.iconst 1, 1) := by decide +kernel
theorem dL_law_235 : decode cL_law 235 = .ok (.iadd, 1) := by decide +kernel
theorem dL_law_236 : decode cL_law 236 = .ok (.iaload, 1) := by decide +kernel
theorem dL_law_237 : decode cL_law 237 = .ok (.aload_n 0, 1) := by decide +kernel
theorem dL_law_238 : decode cL_law 238 = .ok (.iload 4, 2) := by decide +kernel
theorem dL_law_240 : decode cL_law 240 = .ok (.iconst 2, 1) := by decide +kernel
theorem dL_law_241 : decode cL_law 241 = .ok (.iadd, 1) := by decide +kernel
theorem dL_law_242 : decode cL_law 242 = .ok (.iaload, 1) := by decide +kernel
theorem dL_law_243 : decode cL_law 243 = .ok (.aload_n 0, 1) := by decide +kernel
theorem dL_law_244 : decode cL_law 244 = .ok (.iload 4, 2) := by decide +kernel
theorem dL_law_246 : decode cL_law 246 = .ok (.iconst 3, 1) := by decide +kernel
theorem dL_law_247 : decode cL_law 247 = .ok (.iadd, 1) := by decide +kernel
theorem dL_law_248 : decode cL_law 248 = .ok (.iaload, 1) := by decide +kernel
theorem dL_law_249 : decode cL_law 249 = .ok (.aload_n 0, 1) := by decide +kernel
theorem dL_law_250 : decode cL_law 250 = .ok (.iload 4, 2) := by decide +kernel
theorem dL_law_252 : decode cL_law 252 = .ok (.iconst 4, 1) := by decide +kernel
theorem dL_law_253 : decode cL_law 253 = .ok (.iadd, 1) := by decide +kernel
theorem dL_law_254 : decode cL_law 254 = .ok (.iaload, 1) := by decide +kernel
theorem dL_law_255 : decode cL_law 255 = .ok (.aload_n 0, 1) := by decide +kernel
theorem dL_law_256 : decode cL_law 256 = .ok (.iload 4, 2) := by decide +kernel
theorem dL_law_258 : decode cL_law 258 = .ok (.iconst 5, 1) := by decide +kernel
theorem dL_law_259 : decode cL_law 259 = .ok (.iadd, 1) := by decide +kernel
theorem dL_law_260 : decode cL_law 260 = .ok (.iaload, 1) := by decide +kernel
theorem dL_law_261 : decode cL_law 261 = .ok (.invokevirtual 87, 3) := by decide +kernel
theorem dL_law_264 : decode cL_law 264 = .ok (.if_icmp .eq 1123, 3) := by decide +kernel
theorem dL_law_267 : decode cL_law 267 = .ok (.iconst 0, 1) := by decide +kernel
theorem dL_law_268 : decode cL_law 268 = .ok (.ireturn, 1) := by decide +kernel
theorem dL_law_269 : decode cL_law 269 = .ok (.aload_n 1, 1) := by decide +kernel
theorem dL_law_270 : decode cL_law 270 = .ok (.aload_n 0, 1) := by decide +kernel
theorem dL_law_271 : decode cL_law 271 = .ok (.iload 4, 2) := by decide +kernel
theorem dL_law_273 : decode cL_law 273 = .ok (.iconst 1, 1) := by decide +kernel
theorem dL_law_274 : decode cL_law 274 = .ok (.iadd, 1) := by decide +kernel
theorem dL_law_275 : decode cL_law 275 = .ok (.iaload, 1) := by decide +kernel
theorem dL_law_276 : decode cL_law 276 = .ok (.aload_n 0, 1) := by decide +kernel
theorem dL_law_277 : decode cL_law 277 = .ok (.iload 4, 2) := by decide +kernel
theorem dL_law_279 : decode cL_law 279 = .ok (.iconst 2, 1) := by decide +kernel
theorem dL_law_280 : decode cL_law 280 = .ok (.iadd, 1) := by decide +kernel
theorem dL_law_281 : decode cL_law 281 = .ok (.iaload, 1) := by decide +kernel
theorem dL_law_282 : decode cL_law 282 = .ok (.aload_n 3, 1) := by decide +kernel
theorem dL_law_283 : decode cL_law 283 = .ok (.invokestatic 88, 3) := by decide +kernel
theorem dL_law_286 : decode cL_law 286 = .ok (.istore 5, 2) := by decide +kernel
theorem dL_law_288 : decode cL_law 288 = .ok (.aload_n 2, 1) := by decide +kernel
theorem dL_law_289 : decode cL_law 289 = .ok (.aload_n 0, 1) := by decide +kernel
theorem dL_law_290 : decode cL_law 290 = .ok (.iload 4, 2) := by decide +kernel
theorem dL_law_292 : decode cL_law 292 = .ok (.iconst 1, 1) := by decide +kernel
theorem dL_law_293 : decode cL_law 293 = .ok (.iadd, 1) := by decide +kernel
theorem dL_law_294 : decode cL_law 294 = .ok (.iaload, 1) := by decide +kernel
theorem dL_law_295 : decode cL_law 295 = .ok (.aload_n 0, 1) := by decide +kernel
theorem dL_law_296 : decode cL_law 296 = .ok (.iload 4, 2) := by decide +kernel
theorem dL_law_298 : decode cL_law 298 = .ok (.iconst 2, 1) := by decide +kernel
theorem dL_law_299 : decode cL_law 299 = .ok (.iadd, 1) := by decide +kernel
theorem dL_law_300 : decode cL_law 300 = .ok (.iaload, 1) := by decide +kernel
theorem dL_law_301 : decode cL_law 301 = .ok (.invokevirtual 91, 3) := by decide +kernel
theorem dL_law_304 : decode cL_law 304 = .ok (.istore 6, 2) := by decide +kernel
theorem dL_law_306 : decode cL_law 306 = .ok (.aload_n 2, 1) := by decide +kernel
theorem dL_law_307 : decode cL_law 307 = .ok (.invokevirtual 79, 3) := by decide +kernel
theorem dL_law_310 : decode cL_law 310 = .ok (.iload 5, 2) := by decide +kernel
theorem dL_law_312 : decode cL_law 312 = .ok (.if_icmp .eq 5, 3) := by decide +kernel
theorem dL_law_315 : decode cL_law 315 = .ok (.iconst 0, 1) := by decide +kernel
theorem dL_law_316 : decode cL_law 316 = .ok (.ireturn, 1) := by decide +kernel
theorem dL_law_317 : decode cL_law 317 = .ok (.iload 5, 2) := by decide +kernel
theorem dL_law_319 : decode cL_law 319 = .ok (.ifCond .ne 15, 3) := by decide +kernel
theorem dL_law_322 : decode cL_law 322 = .ok (.aload_n 3, 1) := by decide +kernel
theorem dL_law_323 : decode cL_law 323 = .ok (.iconst 0, 1) := by decide +kernel
theorem dL_law_324 : decode cL_law 324 = .ok (.laload, 1) := by decide +kernel
theorem dL_law_325 : decode cL_law 325 = .ok (.iload 6, 2) := by decide +kernel
theorem dL_law_327 : decode cL_law 327 = .ok (.i2l, 1) := by decide +kernel
theorem dL_law_328 : decode cL_law 328 = .ok (.lcmp, 1) := by decide +kernel
theorem dL_law_329 : decode cL_law 329 = .ok (.ifCond .eq 5, 3) := by decide +kernel
theorem dL_law_332 : decode cL_law 332 = .ok (.iconst 0, 1) := by decide +kernel
theorem dL_law_333 : decode cL_law 333 = .ok (.ireturn, 1) := by decide +kernel
theorem dL_law_334 : decode cL_law 334 = .ok (.goto 1053, 3) := by decide +kernel
theorem dL_law_337 : decode cL_law 337 = .ok (.aload_n 1, 1) := by decide +kernel
theorem dL_law_338 : decode cL_law 338 = .ok (.invokevirtual 92, 3) := by decide +kernel
theorem dL_law_341 : decode cL_law 341 = .ok (.aload_n 2, 1) := by decide +kernel
theorem dL_law_342 : decode cL_law 342 = .ok (.invokevirtual 95, 3) := by decide +kernel
theorem dL_law_345 : decode cL_law 345 = .ok (.if_icmp .eq 1042, 3) := by decide +kernel
theorem dL_law_348 : decode cL_law 348 = .ok (.iconst 0, 1) := by decide +kernel
theorem dL_law_349 : decode cL_law 349 = .ok (.ireturn, 1) := by decide +kernel
theorem dL_law_350 : decode cL_law 350 = .ok (.aload_n 1, 1) := by decide +kernel
theorem dL_law_351 : decode cL_law 351 = .ok (.aload_n 0, 1) := by decide +kernel
theorem dL_law_352 : decode cL_law 352 = .ok (.iload 4, 2) := by decide +kernel
theorem dL_law_354 : decode cL_law 354 = .ok (.iconst 1, 1) := by decide +kernel
theorem dL_law_355 : decode cL_law 355 = .ok (.iadd, 1) := by decide +kernel
theorem dL_law_356 : decode cL_law 356 = .ok (.iaload, 1) := by decide +kernel
theorem dL_law_357 : decode cL_law 357 = .ok (.invokevirtual 96, 3) := by decide +kernel
theorem dL_law_360 : decode cL_law 360 = .ok (.aload_n 2, 1) := by decide +kernel
theorem dL_law_361 : decode cL_law 361 = .ok (.aload_n 0, 1) := by decide +kernel
theorem dL_law_362 : decode cL_law 362 = .ok (.iload 4, 2) := by decide +kernel
theorem dL_law_364 : decode cL_law 364 = .ok (.iconst 1, 1) := by decide +kernel
theorem dL_law_365 : decode cL_law 365 = .ok (.iadd, 1) := by decide +kernel
theorem dL_law_366 : decode cL_law 366 = .ok (.iaload, 1) := by decide +kernel
theorem dL_law_367 : decode cL_law 367 = .ok (.invokevirtual 99, 3) := by decide +kernel
theorem dL_law_370 : decode cL_law 370 = .ok (.if_icmp .eq 1017, 3) := by decide +kernel
theorem dL_law_373 : decode cL_law 373 = .ok (.iconst 0, 1) := by decide +kernel
theorem dL_law_374 : decode cL_law 374 = .ok (.ireturn, 1) := by decide +kernel
theorem dL_law_375 : decode cL_law 375 = .ok (.aload_n 1, 1) := by decide +kernel
theorem dL_law_376 : decode cL_law 376 = .ok (.aload_n 0, 1) := by decide +kernel
theorem dL_law_377 : decode cL_law 377 = .ok (.iload 4, 2) := by decide +kernel
theorem dL_law_379 : decode cL_law 379 = .ok (.iconst 1, 1) := by decide +kernel
theorem dL_law_380 : decode cL_law 380 = .ok (.iadd, 1) := by decide +kernel
theorem dL_law_381 : decode cL_law 381 = .ok (.iaload, 1) := by decide +kernel
theorem dL_law_382 : decode cL_law 382 = .ok (.aload_n 0, 1) := by decide +kernel
theorem dL_law_383 : decode cL_law 383 = .ok (.iload 4, 2) := by decide +kernel
theorem dL_law_385 : decode cL_law 385 = .ok (.iconst 2, 1) := by decide +kernel
theorem dL_law_386 : decode cL_law 386 = .ok (.iadd, 1) := by decide +kernel
theorem dL_law_387 : decode cL_law 387 = .ok (.iaload, 1) := by decide +kernel
theorem dL_law_388 : decode cL_law 388 = .ok (.aload_n 0, 1) := by decide +kernel
theorem dL_law_389 : decode cL_law 389 = .ok (.iload 4, 2) := by decide +kernel
theorem dL_law_391 : decode cL_law 391 = .ok (.iconst 3, 1) := by decide +kernel
theorem dL_law_392 : decode cL_law 392 = .ok (.iadd, 1) := by decide +kernel
theorem dL_law_393 : decode cL_law 393 = .ok (.iaload, 1) := by decide +kernel
theorem dL_law_394 : decode cL_law 394 = .ok (.aload_n 3, 1) := by decide +kernel
theorem dL_law_395 : decode cL_law 395 = .ok (.invokestatic 100, 3) := by decide +kernel
theorem dL_law_398 : decode cL_law 398 = .ok (.istore 5, 2) := by decide +kernel
theorem dL_law_400 : decode cL_law 400 = .ok (.aload_n 2, 1) := by decide +kernel
theorem dL_law_401 : decode cL_law 401 = .ok (.aload_n 0, 1) := by decide +kernel
theorem dL_law_402 : decode cL_law 402 = .ok (.iload 4, 2) := by decide +kernel
theorem dL_law_404 : decode cL_law 404 = .ok (.iconst 1, 1) := by decide +kernel
theorem dL_law_405 : decode cL_law 405 = .ok (.iadd, 1) := by decide +kernel
theorem dL_law_406 : decode cL_law 406 = .ok (.iaload, 1) := by decide +kernel
theorem dL_law_407 : decode cL_law 407 = .ok (.aload_n 0, 1) := by decide +kernel
theorem dL_law_408 : decode cL_law 408 = .ok (.iload 4, 2) := by decide +kernel
theorem dL_law_410 : decode cL_law 410 = .ok (.iconst 2, 1) := by decide +kernel
theorem dL_law_411 : decode cL_law 411 = .ok (.iadd, 1) := by decide +kernel
theorem dL_law_412 : decode cL_law 412 = .ok (.iaload, 1) := by decide +kernel
theorem dL_law_413 : decode cL_law 413 = .ok (.aload_n 0, 1) := by decide +kernel
theorem dL_law_414 : decode cL_law 414 = .ok (.iload 4, 2) := by decide +kernel
theorem dL_law_416 : decode cL_law 416 = .ok (.iconst 3, 1) := by decide +kernel
theorem dL_law_417 : decode cL_law 417 = .ok (.iadd, 1) := by decide +kernel
theorem dL_law_418 : decode cL_law 418 = .ok (.iaload, 1) := by decide +kernel
theorem dL_law_419 : decode cL_law 419 = .ok (.invokevirtual 103, 3) := by decide +kernel
theorem dL_law_422 : decode cL_law 422 = .ok (.istore 6, 2) := by decide +kernel
theorem dL_law_424 : decode cL_law 424 = .ok (.aload_n 2, 1) := by decide +kernel
theorem dL_law_425 : decode cL_law 425 = .ok (.invokevirtual 79, 3) := by decide +kernel
theorem dL_law_428 : decode cL_law 428 = .ok (.iload 5, 2) := by decide +kernel
theorem dL_law_430 : decode cL_law 430 = .ok (.if_icmp .eq 5, 3) := by decide +kernel
theorem dL_law_433 : decode cL_law 433 = .ok (.iconst 0, 1) := by decide +kernel
theorem dL_law_434 : decode cL_law 434 = .ok (.ireturn, 1) := by decide +kernel
theorem dL_law_435 : decode cL_law 435 = .ok (.iload 5, 2) := by decide +kernel
theorem dL_law_437 : decode cL_law 437 = .ok (.ifCond .ne 15, 3) := by decide +kernel
theorem dL_law_440 : decode cL_law 440 = .ok (.aload_n 3, 1) := by decide +kernel
theorem dL_law_441 : decode cL_law 441 = .ok (.iconst 0, 1) := by decide +kernel
theorem dL_law_442 : decode cL_law 442 = .ok (.laload, 1) := by decide +kernel
theorem dL_law_443 : decode cL_law 443 = .ok (.iload 6, 2) := by decide +kernel
theorem dL_law_445 : decode cL_law 445 = .ok (.i2l, 1) := by decide +kernel
theorem dL_law_446 : decode cL_law 446 = .ok (.lcmp, 1) := by decide +kernel
theorem dL_law_447 : decode cL_law 447 = .ok (.ifCond .eq 5, 3) := by decide +kernel
theorem dL_law_450 : decode cL_law 450 = .ok (.iconst 0, 1) := by decide +kernel
theorem dL_law_451 : decode cL_law 451 = .ok (.ireturn, 1) := by decide +kernel
theorem dL_law_452 : decode cL_law 452 = .ok (.goto 935, 3) := by decide +kernel
theorem dL_law_455 : decode cL_law 455 = .ok (.aload_n 1, 1) := by decide +kernel
theorem dL_law_456 : decode cL_law 456 = .ok (.aload_n 0, 1) := by decide +kernel
theorem dL_law_457 : decode cL_law 457 = .ok (.iload 4, 2) := by decide +kernel
theorem dL_law_459 : decode cL_law 459 = .ok (.iconst 1, 1) := by decide +kernel
theorem dL_law_460 : decode cL_law 460 = .ok (.iadd, 1) := by decide +kernel
theorem dL_law_461 : decode cL_law 461 = .ok (.iaload, 1) := by decide +kernel
theorem dL_law_462 : decode cL_law 462 = .ok (.aload_n 0, 1) := by decide +kernel
theorem dL_law_463 : decode cL_law 463 = .ok (.iload 4, 2) := by decide +kernel
theorem dL_law_465 : decode cL_law 465 = .ok (.iconst 2, 1) := by decide +kernel
theorem dL_law_466 : decode cL_law 466 = .ok (.iadd, 1) := by decide +kernel
theorem dL_law_467 : decode cL_law 467 = .ok (.iaload, 1) := by decide +kernel
theorem dL_law_468 : decode cL_law 468 = .ok (.aload_n 0, 1) := by decide +kernel
theorem dL_law_469 : decode cL_law 469 = .ok (.iload 4, 2) := by decide +kernel
theorem dL_law_471 : decode cL_law 471 = .ok (.iconst 3, 1) := by decide +kernel
theorem dL_law_472 : decode cL_law 472 = .ok (.iadd, 1) := by decide +kernel
theorem dL_law_473 : decode cL_law 473 = .ok (.iaload, 1) := by decide +kernel
theorem dL_law_474 : decode cL_law 474 = .ok (.aload_n 3, 1) := by decide +kernel
theorem dL_law_475 : decode cL_law 475 = .ok (.invokestatic 104, 3) := by decide +kernel
theorem dL_law_478 : decode cL_law 478 = .ok (.istore 5, 2) := by decide +kernel
theorem dL_law_480 : decode cL_law 480 = .ok (.aload_n 2, 1) := by decide +kernel
theorem dL_law_481 : decode cL_law 481 = .ok (.aload_n 0, 1) := by decide +kernel
theorem dL_law_482 : decode cL_law 482 = .ok (.iload 4, 2) := by decide +kernel
theorem dL_law_484 : decode cL_law 484 = .ok (.iconst 1, 1) := by decide +kernel
theorem dL_law_485 : decode cL_law 485 = .ok (.iadd, 1) := by decide +kernel
theorem dL_law_486 : decode cL_law 486 = .ok (.iaload, 1) := by decide +kernel
theorem dL_law_487 : decode cL_law 487 = .ok (.aload_n 0, 1) := by decide +kernel
theorem dL_law_488 : decode cL_law 488 = .ok (.iload 4, 2) := by decide +kernel
theorem dL_law_490 : decode cL_law 490 = .ok (.iconst 2, 1) := by decide +kernel
theorem dL_law_491 : decode cL_law 491 = .ok (.iadd, 1) := by decide +kernel
theorem dL_law_492 : decode cL_law 492 = .ok (.iaload, 1) := by decide +kernel
theorem dL_law_493 : decode cL_law 493 = .ok (.aload_n 0, 1) := by decide +kernel
theorem dL_law_494 : decode cL_law 494 = .ok (.iload 4, 2) := by decide +kernel
theorem dL_law_496 : decode cL_law 496 = .ok (.iconst 3, 1) := by decide +kernel
theorem dL_law_497 : decode cL_law 497 = .ok (.iadd, 1) := by decide +kernel
theorem dL_law_498 : decode cL_law 498 = .ok (.iaload, 1) := by decide +kernel
theorem dL_law_499 : decode cL_law 499 = .ok (.invokevirtual 106, 3) := by decide +kernel
theorem dL_law_502 : decode cL_law 502 = .ok (.istore 6, 2) := by decide +kernel
theorem dL_law_504 : decode cL_law 504 = .ok (.aload_n 2, 1) := by decide +kernel
theorem dL_law_505 : decode cL_law 505 = .ok (.invokevirtual 79, 3) := by decide +kernel
theorem dL_law_508 : decode cL_law 508 = .ok (.iload 5, 2) := by decide +kernel
theorem dL_law_510 : decode cL_law 510 = .ok (.if_icmp .eq 5, 3) := by decide +kernel
theorem dL_law_513 : decode cL_law 513 = .ok (.iconst 0, 1) := by decide +kernel
theorem dL_law_514 : decode cL_law 514 = .ok (.ireturn, 1) := by decide +kernel
theorem dL_law_515 : decode cL_law 515 = .ok (.iload 5, 2) := by decide +kernel
theorem dL_law_517 : decode cL_law 517 = .ok (.ifCond .ne 15, 3) := by decide +kernel
theorem dL_law_520 : decode cL_law 520 = .ok (.aload_n 3, 1) := by decide +kernel
theorem dL_law_521 : decode cL_law 521 = .ok (.iconst 0, 1) := by decide +kernel
theorem dL_law_522 : decode cL_law 522 = .ok (.laload, 1) := by decide +kernel
theorem dL_law_523 : decode cL_law 523 = .ok (.iload 6, 2) := by decide +kernel
theorem dL_law_525 : decode cL_law 525 = .ok (.i2l, 1) := by decide +kernel
theorem dL_law_526 : decode cL_law 526 = .ok (.lcmp, 1) := by decide +kernel
theorem dL_law_527 : decode cL_law 527 = .ok (.ifCond .eq 5, 3) := by decide +kernel
theorem dL_law_530 : decode cL_law 530 = .ok (.iconst 0, 1) := by decide +kernel
theorem dL_law_531 : decode cL_law 531 = .ok (.ireturn, 1) := by decide +kernel
theorem dL_law_532 : decode cL_law 532 = .ok (.goto 855, 3) := by decide +kernel
theorem dL_law_535 : decode cL_law 535 = .ok (.aload_n 1, 1) := by decide +kernel
theorem dL_law_536 : decode cL_law 536 = .ok (.aload_n 0, 1) := by decide +kernel
theorem dL_law_537 : decode cL_law 537 = .ok (.iload 4, 2) := by decide +kernel
theorem dL_law_539 : decode cL_law 539 = .ok (.iconst 1, 1) := by decide +kernel
theorem dL_law_540 : decode cL_law 540 = .ok (.iadd, 1) := by decide +kernel
theorem dL_law_541 : decode cL_law 541 = .ok (.iaload, 1) := by decide +kernel
theorem dL_law_542 : decode cL_law 542 = .ok (.aload_n 0, 1) := by decide +kernel
theorem dL_law_543 : decode cL_law 543 = .ok (.iload 4, 2) := by decide +kernel
theorem dL_law_545 : decode cL_law 545 = .ok (.iconst 2, 1) := by decide +kernel
theorem dL_law_546 : decode cL_law 546 = .ok (.iadd, 1) := by decide +kernel
theorem dL_law_547 : decode cL_law 547 = .ok (.iaload, 1) := by decide +kernel
theorem dL_law_548 : decode cL_law 548 = .ok (.aload_n 3, 1) := by decide +kernel
theorem dL_law_549 : decode cL_law 549 = .ok (.invokestatic 107, 3) := by decide +kernel
theorem dL_law_552 : decode cL_law 552 = .ok (.istore 5, 2) := by decide +kernel
theorem dL_law_554 : decode cL_law 554 = .ok (.aload_n 2, 1) := by decide +kernel
theorem dL_law_555 : decode cL_law 555 = .ok (.aload_n 0, 1) := by decide +kernel
theorem dL_law_556 : decode cL_law 556 = .ok (.iload 4, 2) := by decide +kernel
theorem dL_law_558 : decode cL_law 558 = .ok (.iconst 1, 1) := by decide +kernel
theorem dL_law_559 : decode cL_law 559 = .ok (.iadd, 1) := by decide +kernel
theorem dL_law_560 : decode cL_law 560 = .ok (.iaload, 1) := by decide +kernel
theorem dL_law_561 : decode cL_law 561 = .ok (.aload_n 0, 1) := by decide +kernel
theorem dL_law_562 : decode cL_law 562 = .ok (.iload 4, 2) := by decide +kernel
theorem dL_law_564 : decode cL_law 564 = .ok (.iconst 2, 1) := by decide +kernel
theorem dL_law_565 : decode cL_law 565 = .ok (.iadd, 1) := by decide +kernel
theorem dL_law_566 : decode cL_law 566 = .ok (.iaload, 1) := by decide +kernel
theorem dL_law_567 : decode cL_law 567 = .ok (.invokevirtual 109, 3) := by decide +kernel
theorem dL_law_570 : decode cL_law 570 = .ok (.istore 6, 2) := by decide +kernel
theorem dL_law_572 : decode cL_law 572 = .ok (.aload_n 2, 1) := by decide +kernel
theorem dL_law_573 : decode cL_law 573 = .ok (.invokevirtual 79, 3) := by decide +kernel
theorem dL_law_576 : decode cL_law 576 = .ok (.iload 5, 2) := by decide +kernel
theorem dL_law_578 : decode cL_law 578 = .ok (.if_icmp .eq 5, 3) := by decide +kernel
theorem dL_law_581 : decode cL_law 581 = .ok (.iconst 0, 1) := by decide +kernel
theorem dL_law_582 : decode cL_law 582 = .ok (.ireturn, 1) := by decide +kernel
theorem dL_law_583 : decode cL_law 583 = .ok (.iload 5, 2) := by decide +kernel
theorem dL_law_585 : decode cL_law 585 = .ok (.ifCond .ne 15, 3) := by decide +kernel
theorem dL_law_588 : decode cL_law 588 = .ok (.aload_n 3, 1) := by decide +kernel
theorem dL_law_589 : decode cL_law 589 = .ok (.iconst 0, 1) := by decide +kernel
theorem dL_law_590 : decode cL_law 590 = .ok (.laload, 1) := by decide +kernel
theorem dL_law_591 : decode cL_law 591 = .ok (.iload 6, 2) := by decide +kernel
theorem dL_law_593 : decode cL_law 593 = .ok (.i2l, 1) := by decide +kernel
theorem dL_law_594 : decode cL_law 594 = .ok (.lcmp, 1) := by decide +kernel
theorem dL_law_595 : decode cL_law 595 = .ok (.ifCond .eq 5, 3) := by decide +kernel
theorem dL_law_598 : decode cL_law 598 = .ok (.iconst 0, 1) := by decide +kernel
