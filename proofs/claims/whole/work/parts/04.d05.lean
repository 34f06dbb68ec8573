theorem dX8_next_81 : decode cX8_next 81 = .ok (.aload_n 0, 1) := by decide +kernel
theorem dX8_next_82 : decode cX8_next 82 = .ok (.getfield 47, 3) := by decide +kernel
theorem dX8_next_85 : decode cX8_next 85 = .ok (.iload_n 3, 1) := by decide +kernel
theorem dX8_next_86 : decode cX8_next 86 = .ok (.iaload, 1) := by decide +kernel
theorem dX8_next_87 : decode cX8_next 87 = .ok (.if_icmp .ge 6, 3) := by decide +kernel
theorem dX8_next_90 : decode cX8_next 90 = .ok (.iload 4, 2) := by decide +kernel
theorem dX8_next_92 : decode cX8_next 92 = .ok (.istore_n 3, 1) := by decide +kernel
theorem dX8_next_93 : decode cX8_next 93 = .ok (.iinc 4 1, 3) := by decide +kernel
theorem dX8_next_96 : decode cX8_next 96 = .ok (.goto (-91), 3) := by decide +kernel
theorem dX8_next_99 : decode cX8_next 99 = .ok (.iload_n 3, 1) := by decide +kernel
theorem dX8_next_100 : decode cX8_next 100 = .ok (.ireturn, 1) := by decide +kernel
set_option maxRecDepth 20000 in
theorem ggX8_gives_X8_madeOf : GoodIn wsX8_gives wsX8_madeOf := goodIn_r _ [8, 9, 10, 11, 12, 7, 13, 14, 15, 16, 1, 17, 18, 19, 20, 2, 21, 22, 23, 24, 25, 26, 27, 38, 39, 40, 41, 42, 43, 44, 45, 46, 47, 48, 49, 50, 51, 52, 53, 54, 55, 56, 57, 58, 59, 60, 61, 62, 63, 64, 65, 66, 67, 68] (by decide +kernel) (by decide +kernel)
set_option maxRecDepth 20000 in
theorem gX8_gives_X8_madeOf : GoodIn wsX8_gives (wsV RX8 172 RX8 yX8_madeOf wsX8_madeOf) := goodIn_app (goodIn_of _ (by decide +kernel)) ggX8_gives_X8_madeOf
set_option maxRecDepth 20000 in
theorem ggX8_gives_X8_next : GoodIn wsX8_gives wsX8_next := goodIn_r _ [31, 14, 15, 16, 1, 32, 33, 38, 39, 40, 41, 42, 43, 44, 45, 46, 47, 48, 49, 50, 51, 52, 53, 54, 55, 56, 57, 58, 59, 60, 61, 62, 63, 64, 65, 66, 67, 68] (by decide +kernel) (by decide +kernel)
set_option maxRecDepth 20000 in
theorem gX8_gives_X8_next : GoodIn wsX8_gives (wsV RX8 176 RX8 yX8_next wsX8_next) := goodIn_app (goodIn_of _ (by decide +kernel)) ggX8_gives_X8_next
set_option maxRecDepth 20000 in
theorem ggX8_gives_X8_term : GoodIn wsX8_gives wsX8_term := goodIn_r _ [20, 2, 21, 22, 23, 24, 7, 25, 26, 27, 38, 39, 40, 41, 42, 43, 44, 45, 46, 47, 48, 49, 50, 51, 52, 53, 54, 55, 56, 57, 58, 59, 60, 61, 62, 63, 64, 65, 66, 67, 68] (by decide +kernel) (by decide +kernel)
set_option maxRecDepth 20000 in
theorem gX8_gives_X8_term : GoodIn wsX8_gives (wsV RX8 167 RX8 yX8_term wsX8_term) := goodIn_app (goodIn_of _ (by decide +kernel)) ggX8_gives_X8_term
set_option maxRecDepth 20000 in
theorem ggX8_gives_X8_owe : GoodIn wsX8_gives wsX8_owe := goodIn_r _ [37, 15, 14, 16, 1, 32, 33, 38, 39, 40, 41, 42, 43, 44, 45, 46, 47, 48, 49, 50, 51, 52, 53, 54, 55, 56, 57, 58, 59, 60, 61, 62, 63, 64, 65, 66, 67, 68] (by decide +kernel) (by decide +kernel)
set_option maxRecDepth 20000 in
theorem gX8_gives_X8_owe : GoodIn wsX8_gives (wsV RX8 180 RX8 yX8_owe wsX8_owe) := goodIn_app (goodIn_of _ (by decide +kernel)) ggX8_gives_X8_owe
theorem dX8_gives_0 : decode cX8_gives 0 = .ok (.aload_n 0, 1) := by decide +kernel
theorem dX8_gives_1 : decode cX8_gives 1 = .ok (.iload_n 1, 1) := by decide +kernel
theorem dX8_gives_2 : decode cX8_gives 2 = .ok (.iload_n 2, 1) := by decide +kernel
theorem dX8_gives_3 : decode cX8_gives 3 = .ok (.iload_n 3, 1) := by decide +kernel
theorem dX8_gives_4 : decode cX8_gives 4 = .ok (.i2l, 1) := by decide +kernel
theorem dX8_gives_5 : decode cX8_gives 5 = .ok (.invokevirtual 172, 3) := by decide +kernel
theorem dX8_gives_8 : decode cX8_gives 8 = .ok (.lstore 4, 2) := by decide +kernel
theorem dX8_gives_10 : decode cX8_gives 10 = .ok (.iload_n 3, 1) := by decide +kernel
theorem dX8_gives_11 : decode cX8_gives 11 = .ok (.i2l, 1) := by decide +kernel
theorem dX8_gives_12 : decode cX8_gives 12 = .ok (.lstore 6, 2) := by decide +kernel
theorem dX8_gives_14 : decode cX8_gives 14 = .ok (.aload_n 0, 1) := by decide +kernel
theorem dX8_gives_15 : decode cX8_gives 15 = .ok (.iload_n 1, 1) := by decide +kernel
theorem dX8_gives_16 : decode cX8_gives 16 = .ok (.iload_n 2, 1) := by decide +kernel
theorem dX8_gives_17 : decode cX8_gives 17 = .ok (.invokevirtual 176, 3) := by decide +kernel
theorem dX8_gives_20 : decode cX8_gives 20 = .ok (.istore 8, 2) := by decide +kernel
theorem dX8_gives_22 : decode cX8_gives 22 = .ok (.lload 6, 2) := by decide +kernel
theorem dX8_gives_24 : decode cX8_gives 24 = .ok (.lconst 0, 1) := by decide +kernel
theorem dX8_gives_25 : decode cX8_gives 25 = .ok (.lcmp, 1) := by decide +kernel
theorem dX8_gives_26 : decode cX8_gives 26 = .ok (.ifCond .le 65, 3) := by decide +kernel
theorem dX8_gives_29 : decode cX8_gives 29 = .ok (.iload 8, 2) := by decide +kernel
theorem dX8_gives_31 : decode cX8_gives 31 = .ok (.ifCond .lt 60, 3) := by decide +kernel
theorem dX8_gives_34 : decode cX8_gives 34 = .ok (.aload_n 0, 1) := by decide +kernel
theorem dX8_gives_35 : decode cX8_gives 35 = .ok (.getfield 41, 3) := by decide +kernel
theorem dX8_gives_38 : decode cX8_gives 38 = .ok (.iload 8, 2) := by decide +kernel
theorem dX8_gives_40 : decode cX8_gives 40 = .ok (.laload, 1) := by decide +kernel
theorem dX8_gives_41 : decode cX8_gives 41 = .ok (.lload 6, 2) := by decide +kernel
theorem dX8_gives_43 : decode cX8_gives 43 = .ok (.lcmp, 1) := by decide +kernel
theorem dX8_gives_44 : decode cX8_gives 44 = .ok (.ifCond .ge 13, 3) := by decide +kernel
theorem dX8_gives_47 : decode cX8_gives 47 = .ok (.aload_n 0, 1) := by decide +kernel
theorem dX8_gives_48 : decode cX8_gives 48 = .ok (.getfield 41, 3) := by decide +kernel
theorem dX8_gives_51 : decode cX8_gives 51 = .ok (.iload 8, 2) := by decide +kernel
theorem dX8_gives_53 : decode cX8_gives 53 = .ok (.laload, 1) := by decide +kernel
theorem dX8_gives_54 : decode cX8_gives 54 = .ok (.goto 5, 3) := by decide +kernel
theorem dX8_gives_57 : decode cX8_gives 57 = .ok (.lload 6, 2) := by decide +kernel
theorem dX8_gives_59 : decode cX8_gives 59 = .ok (.lstore 9, 2) := by decide +kernel
theorem dX8_gives_61 : decode cX8_gives 61 = .ok (.aload_n 0, 1) := by decide +kernel
theorem dX8_gives_62 : decode cX8_gives 62 = .ok (.getfield 41, 3) := by decide +kernel
theorem dX8_gives_65 : decode cX8_gives 65 = .ok (.iload 8, 2) := by decide +kernel
theorem dX8_gives_67 : decode cX8_gives 67 = .ok (.dup2, 1) := by decide +kernel
theorem dX8_gives_68 : decode cX8_gives 68 = .ok (.laload, 1) := by decide +kernel
theorem dX8_gives_69 : decode cX8_gives 69 = .ok (.lload 9, 2) := by decide +kernel
theorem dX8_gives_71 : decode cX8_gives 71 = .ok (.lsub, 1) := by decide +kernel
theorem dX8_gives_72 : decode cX8_gives 72 = .ok (.lastore, 1) := by decide +kernel
theorem dX8_gives_73 : decode cX8_gives 73 = .ok (.lload 6, 2) := by decide +kernel
theorem dX8_gives_75 : decode cX8_gives 75 = .ok (.lload 9, 2) := by decide +kernel
theorem dX8_gives_77 : decode cX8_gives 77 = .ok (.lsub, 1) := by decide +kernel
theorem dX8_gives_78 : decode cX8_gives 78 = .ok (.lstore 6, 2) := by decide +kernel
theorem dX8_gives_80 : decode cX8_gives 80 = .ok (.aload_n 0, 1) := by decide +kernel
theorem dX8_gives_81 : decode cX8_gives 81 = .ok (.iload_n 1, 1) := by decide +kernel
theorem dX8_gives_82 : decode cX8_gives 82 = .ok (.iload_n 2, 1) := by decide +kernel
theorem dX8_gives_83 : decode cX8_gives 83 = .ok (.invokevirtual 176, 3) := by decide +kernel
theorem dX8_gives_86 : decode cX8_gives 86 = .ok (.istore 8, 2) := by decide +kernel
theorem dX8_gives_88 : decode cX8_gives 88 = .ok (.goto (-66), 3) := by decide +kernel
theorem dX8_gives_91 : decode cX8_gives 91 = .ok (.lload 4, 2) := by decide +kernel
theorem dX8_gives_93 : decode cX8_gives 93 = .ok (.lconst 0, 1) := by decide +kernel
theorem dX8_gives_94 : decode cX8_gives 94 = .ok (.lcmp, 1) := by decide +kernel
theorem dX8_gives_95 : decode cX8_gives 95 = .ok (.ifCond .le 22, 3) := by decide +kernel
theorem dX8_gives_98 : decode cX8_gives 98 = .ok (.aload_n 0, 1) := by decide +kernel
theorem dX8_gives_99 : decode cX8_gives 99 = .ok (.iload_n 2, 1) := by decide +kernel
theorem dX8_gives_100 : decode cX8_gives 100 = .ok (.iload_n 1, 1) := by decide +kernel
theorem dX8_gives_101 : decode cX8_gives 101 = .ok (.lload 4, 2) := by decide +kernel
theorem dX8_gives_103 : decode cX8_gives 103 = .ok (.iconst 0, 1) := by decide +kernel
theorem dX8_gives_104 : decode cX8_gives 104 = .ok (.aload_n 0, 1) := by decide +kernel
theorem dX8_gives_105 : decode cX8_gives 105 = .ok (.getfield 157, 3) := by decide +kernel
theorem dX8_gives_108 : decode cX8_gives 108 = .ok (.aload_n 0, 1) := by decide +kernel
theorem dX8_gives_109 : decode cX8_gives 109 = .ok (.iconst 2, 1) := by decide +kernel
theorem dX8_gives_110 : decode cX8_gives 110 = .ok (.invokevirtual 167, 3) := by decide +kernel
theorem dX8_gives_113 : decode cX8_gives 113 = .ok (.iadd, 1) := by decide +kernel
theorem dX8_gives_114 : decode cX8_gives 114 = .ok (.invokevirtual 180, 3) := by decide +kernel
theorem dX8_gives_117 : decode cX8_gives 117 = .ok (.aload_n 0, 1) := by decide +kernel
theorem dX8_gives_118 : decode cX8_gives 118 = .ok (.getfield 13, 3) := by decide +kernel
theorem dX8_gives_121 : decode cX8_gives 121 = .ok (.iload_n 1, 1) := by decide +kernel
theorem dX8_gives_122 : decode cX8_gives 122 = .ok (.dup2, 1) := by decide +kernel
theorem dX8_gives_123 : decode cX8_gives 123 = .ok (.laload, 1) := by decide +kernel
theorem dX8_gives_124 : decode cX8_gives 124 = .ok (.iload_n 3, 1) := by decide +kernel
theorem dX8_gives_125 : decode cX8_gives 125 = .ok (.i2l, 1) := by decide +kernel
theorem dX8_gives_126 : decode cX8_gives 126 = .ok (.ladd, 1) := by decide +kernel
theorem dX8_gives_127 : decode cX8_gives 127 = .ok (.lastore, 1) := by decide +kernel
theorem dX8_gives_128 : decode cX8_gives 128 = .ok (.iload_n 3, 1) := by decide +kernel
theorem dX8_gives_129 : decode cX8_gives 129 = .ok (.lload 6, 2) := by decide +kernel
theorem dX8_gives_131 : decode cX8_gives 131 = .ok (.l2i, 1) := by decide +kernel
theorem dX8_gives_132 : decode cX8_gives 132 = .ok (.isub, 1) := by decide +kernel
theorem dX8_gives_133 : decode cX8_gives 133 = .ok (.ireturn, 1) := by decide +kernel
set_option maxRecDepth 20000 in
theorem ggX8_isPair_X8_isChief : GoodIn wsX8_isPair wsX8_isChief := goodIn_r _ [6, 7, 13, 14, 15, 16, 17, 18, 19, 20, 21, 22, 23, 24, 25, 26, 27, 28, 29, 30, 31, 32, 33, 34, 35, 36, 37, 38, 39, 40, 41, 42, 43] (by decide +kernel) (by decide +kernel)
set_option maxRecDepth 20000 in
theorem gX8_isPair_X8_isChief : GoodIn wsX8_isPair (wsV RX8 184 RX8 yX8_isChief wsX8_isChief) := goodIn_app (goodIn_of _ (by decide +kernel)) ggX8_isPair_X8_isChief
set_option maxRecDepth 20000 in
theorem ggX8_isPair_X8_bad : GoodIn wsX8_isPair wsX8_bad := goodIn_r _ [11, 12, 13, 14, 15, 16, 17, 18, 19, 20, 21, 22, 23, 24, 25, 26, 27, 28, 29, 30, 31, 32, 33, 34, 35, 36, 37, 38, 39, 40, 41, 42, 43] (by decide +kernel) (by decide +kernel)
set_option maxRecDepth 20000 in
theorem gX8_isPair_X8_bad : GoodIn wsX8_isPair (wsV RX8 78 RX8 yX8_bad wsX8_bad) := goodIn_app (goodIn_of _ (by decide +kernel)) ggX8_isPair_X8_bad
theorem dX8_isPair_0 : decode cX8_isPair 0 = .ok (.aload_n 0, 1) := by decide +kernel
theorem dX8_isPair_1 : decode cX8_isPair 1 = .ok (.aload_n 0, 1) := by decide +kernel
theorem dX8_isPair_2 : decode cX8_isPair 2 = .ok (.iload_n 1, 1) := by decide +kernel
theorem dX8_isPair_3 : decode cX8_isPair 3 = .ok (.invokevirtual 184, 3) := by decide +kernel
theorem dX8_isPair_6 : decode cX8_isPair 6 = .ok (.ifCond .eq 11, 3) := by decide +kernel
theorem dX8_isPair_9 : decode cX8_isPair 9 = .ok (.aload_n 0, 1) := by decide +kernel
theorem dX8_isPair_10 : decode cX8_isPair 10 = .ok (.iload_n 2, 1) := by decide +kernel
theorem dX8_isPair_11 : decode cX8_isPair 11 = .ok (.invokevirtual 184, 3) := by decide +kernel
theorem dX8_isPair_14 : decode cX8_isPair 14 = .ok (.ifCond .ne 7, 3) := by decide +kernel
theorem dX8_isPair_17 : decode cX8_isPair 17 = .ok (.iconst 1, 1) := by decide +kernel
theorem dX8_isPair_18 : decode cX8_isPair 18 = .ok (.goto 4, 3) := by decide +kernel
theorem dX8_isPair_21 : decode cX8_isPair 21 = .ok (.iconst 0, 1) := by decide +kernel
theorem dX8_isPair_22 : decode cX8_isPair 22 = .ok (.iconst 1, 1) := by decide +kernel
theorem dX8_isPair_23 : decode cX8_isPair 23 = .ok (.invokevirtual 78, 3) := by decide +kernel
theorem dX8_isPair_26 : decode cX8_isPair 26 = .ok (.ifCond .ne 61, 3) := by decide +kernel
theorem dX8_isPair_29 : decode cX8_isPair 29 = .ok (.aload_n 0, 1) := by decide +kernel
theorem dX8_isPair_30 : decode cX8_isPair 30 = .ok (.iload_n 1, 1) := by decide +kernel
theorem dX8_isPair_31 : decode cX8_isPair 31 = .ok (.iload_n 2, 1) := by decide +kernel
theorem dX8_isPair_32 : decode cX8_isPair 32 = .ok (.if_icmp .eq 8, 3) := by decide +kernel
theorem dX8_isPair_35 : decode cX8_isPair 35 = .ok (.iload_n 3, 1) := by decide +kernel
theorem dX8_isPair_36 : decode cX8_isPair 36 = .ok (.iconst 1, 1) := by decide +kernel
theorem dX8_isPair_37 : decode cX8_isPair 37 = .ok (.if_icmp .ge 7, 3) := by decide +kernel
theorem dX8_isPair_40 : decode cX8_isPair 40 = .ok (.iconst 1, 1) := by decide +kernel
theorem dX8_isPair_41 : decode cX8_isPair 41 = .ok (.goto 4, 3) := by decide +kernel
theorem dX8_isPair_44 : decode cX8_isPair 44 = .ok (.iconst 0, 1) := by decide +kernel
theorem dX8_isPair_45 : decode cX8_isPair 45 = .ok (.iconst 2, 1) := by decide +kernel
theorem dX8_isPair_46 : decode cX8_isPair 46 = .ok (.invokevirtual 78, 3) := by decide +kernel
theorem dX8_isPair_49 : decode cX8_isPair 49 = .ok (.ifCond .ne 38, 3) := by decide +kernel
theorem dX8_isPair_52 : decode cX8_isPair 52 = .ok (.aload_n 0, 1) := by decide +kernel
theorem dX8_isPair_53 : decode cX8_isPair 53 = .ok (.aload_n 0, 1) := by decide +kernel
theorem dX8_isPair_54 : decode cX8_isPair 54 = .ok (.getfield 17, 3) := by decide +kernel
theorem dX8_isPair_57 : decode cX8_isPair 57 = .ok (.iload_n 1, 1) := by decide +kernel
theorem dX8_isPair_58 : decode cX8_isPair 58 = .ok (.baload, 1) := by decide +kernel
theorem dX8_isPair_59 : decode cX8_isPair 59 = .ok (.ifCond .ne 12, 3) := by decide +kernel
theorem dX8_isPair_62 : decode cX8_isPair 62 = .ok (.aload_n 0, 1) := by decide +kernel
theorem dX8_isPair_63 : decode cX8_isPair 63 = .ok (.getfield 17, 3) := by decide +kernel
theorem dX8_isPair_66 : decode cX8_isPair 66 = .ok (.iload_n 2, 1) := by decide +kernel
theorem dX8_isPair_67 : decode cX8_isPair 67 = .ok (.baload, 1) := by decide +kernel
theorem dX8_isPair_68 : decode cX8_isPair 68 = .ok (.ifCond .eq 7, 3) := by decide +kernel
theorem dX8_isPair_71 : decode cX8_isPair 71 = .ok (.iconst 1, 1) := by decide +kernel
theorem dX8_isPair_72 : decode cX8_isPair 72 = .ok (.goto 4, 3) := by decide +kernel
theorem dX8_isPair_75 : decode cX8_isPair 75 = .ok (.iconst 0, 1) := by decide +kernel
theorem dX8_isPair_76 : decode cX8_isPair 76 = .ok (.iconst 3, 1) := by decide +kernel
theorem dX8_isPair_77 : decode cX8_isPair 77 = .ok (.invokevirtual 78, 3) := by decide +kernel
theorem dX8_isPair_80 : decode cX8_isPair 80 = .ok (.ifCond .ne 7, 3) := by decide +kernel
theorem dX8_isPair_83 : decode cX8_isPair 83 = .ok (.iconst 1, 1) := by decide +kernel
theorem dX8_isPair_84 : decode cX8_isPair 84 = .ok (.goto 4, 3) := by decide +kernel
theorem dX8_isPair_87 : decode cX8_isPair 87 = .ok (.iconst 0, 1) := by decide +kernel
theorem dX8_isPair_88 : decode cX8_isPair 88 = .ok (.ireturn, 1) := by decide +kernel
set_option maxRecDepth 20000 in
theorem ggX8_give_X8_isPair : GoodIn wsX8_give wsX8_isPair := goodIn_r _ [8, 9, 10, 11, 12, 7, 13, 14, 15, 16, 17, 18, 1, 58, 59, 60, 61, 62, 63, 64, 65, 66, 67, 68, 69, 70, 71, 72, 73, 74, 75, 76, 77, 78, 79, 80, 81, 82, 83, 84, 85, 86, 87, 88] (by decide +kernel) (by decide +kernel)
set_option maxRecDepth 20000 in
theorem gX8_give_X8_isPair : GoodIn wsX8_give (wsV RX8 187 RX8 yX8_isPair wsX8_isPair) := goodIn_app (goodIn_of _ (by decide +kernel)) ggX8_give_X8_isPair
set_option maxRecDepth 20000 in
theorem ggX8_give_X8_madeOf : GoodIn wsX8_give wsX8_madeOf := goodIn_r _ [22, 23, 24, 25, 26, 7, 27, 3, 28, 29, 30, 31, 32, 33, 34, 35, 36, 37, 38, 39, 40, 41, 42, 58, 59, 60, 61, 62, 63, 64, 65, 66, 67, 68, 69, 70, 71, 72, 73, 74, 75, 76, 77, 78, 79, 80, 81, 82, 83, 84, 85, 86, 87, 88] (by decide +kernel) (by decide +kernel)
set_option maxRecDepth 20000 in
theorem gX8_give_X8_madeOf : GoodIn wsX8_give (wsV RX8 172 RX8 yX8_madeOf wsX8_madeOf) := goodIn_app (goodIn_of _ (by decide +kernel)) ggX8_give_X8_madeOf
set_option maxRecDepth 20000 in
theorem ggX8_give_X8_gives : GoodIn wsX8_give wsX8_gives := goodIn_r _ [46, 30, 35, 47, 19, 20, 21, 7, 22, 23, 24, 25, 26, 27, 3, 28, 29, 31, 32, 33, 34, 36, 37, 38, 39, 40, 41, 42, 48, 49, 50, 51, 52, 53, 54, 55, 56, 57, 58, 59, 60, 61, 62, 63, 64, 65, 66, 67, 68, 69, 70, 71, 72, 73, 74, 75, 76, 77, 78, 79, 80, 81, 82, 83, 84, 85, 86, 87, 88] (by decide +kernel) (by decide +kernel)
set_option maxRecDepth 20000 in
theorem gX8_give_X8_gives : GoodIn wsX8_give (wsV RX8 191 RX8 yX8_gives wsX8_gives) := goodIn_app (goodIn_of _ (by decide +kernel)) ggX8_give_X8_gives
theorem dX8_give_0 : decode cX8_give 0 = .ok (.aload_n 0, 1) := by decide +kernel
theorem dX8_give_1 : decode cX8_give 1 = .ok (.iconst 0, 1) := by decide +kernel
theorem dX8_give_2 : decode cX8_give 2 = .ok (.putfield 74, 3) := by decide +kernel
theorem dX8_give_5 : decode cX8_give 5 = .ok (.aload_n 0, 1) := by decide +kernel
theorem dX8_give_6 : decode cX8_give 6 = .ok (.iload_n 1, 1) := by decide +kernel
theorem dX8_give_7 : decode cX8_give 7 = .ok (.iload_n 2, 1) := by decide +kernel
theorem dX8_give_8 : decode cX8_give 8 = .ok (.iload_n 3, 1) := by decide +kernel
theorem dX8_give_9 : decode cX8_give 9 = .ok (.invokevirtual 187, 3) := by decide +kernel
theorem dX8_give_12 : decode cX8_give 12 = .ok (.ifCond .ne 5, 3) := by decide +kernel
theorem dX8_give_15 : decode cX8_give 15 = .ok (.iconst 0, 1) := by decide +kernel
theorem dX8_give_16 : decode cX8_give 16 = .ok (.ireturn, 1) := by decide +kernel
theorem dX8_give_17 : decode cX8_give 17 = .ok (.aload_n 0, 1) := by decide +kernel
theorem dX8_give_18 : decode cX8_give 18 = .ok (.getfield 9, 3) := by decide +kernel
theorem dX8_give_21 : decode cX8_give 21 = .ok (.iload_n 1, 1) := by decide +kernel
theorem dX8_give_22 : decode cX8_give 22 = .ok (.iaload, 1) := by decide +kernel
theorem dX8_give_23 : decode cX8_give 23 = .ok (.iload_n 3, 1) := by decide +kernel
theorem dX8_give_24 : decode cX8_give 24 = .ok (.if_icmp .ge 5, 3) := by decide +kernel
theorem dX8_give_27 : decode cX8_give 27 = .ok (.iconst (-1), 1) := by decide +kernel
theorem dX8_give_28 : decode cX8_give 28 = .ok (.ireturn, 1) := by decide +kernel
theorem dX8_give_29 : decode cX8_give 29 = .ok (.aload_n 0, 1) := by decide +kernel
theorem dX8_give_30 : decode cX8_give 30 = .ok (.getfield 160, 3) := by decide +kernel
theorem dX8_give_33 : decode cX8_give 33 = .ok (.sipush 400, 3) := by decide +kernel
theorem dX8_give_36 : decode cX8_give 36 = .ok (.if_icmp .ne 19, 3) := by decide +kernel
theorem dX8_give_39 : decode cX8_give 39 = .ok (.aload_n 0, 1) := by decide +kernel
theorem dX8_give_40 : decode cX8_give 40 = .ok (.iload_n 1, 1) := by decide +kernel
theorem dX8_give_41 : decode cX8_give 41 = .ok (.iload_n 2, 1) := by decide +kernel
theorem dX8_give_42 : decode cX8_give 42 = .ok (.iload_n 3, 1) := by decide +kernel
theorem dX8_give_43 : decode cX8_give 43 = .ok (.i2l, 1) := by decide +kernel
theorem dX8_give_44 : decode cX8_give 44 = .ok (.invokevirtual 172, 3) := by decide +kernel
theorem dX8_give_47 : decode cX8_give 47 = .ok (.lconst 0, 1) := by decide +kernel
theorem dX8_give_48 : decode cX8_give 48 = .ok (.lcmp, 1) := by decide +kernel
theorem dX8_give_49 : decode cX8_give 49 = .ok (.ifCond .le 6, 3) := by decide +kernel
theorem dX8_give_52 : decode cX8_give 52 = .ok (.bipush (-2), 2) := by decide +kernel
theorem dX8_give_54 : decode cX8_give 54 = .ok (.ireturn, 1) := by decide +kernel
theorem dX8_give_55 : decode cX8_give 55 = .ok (.aload_n 0, 1) := by decide +kernel
theorem dX8_give_56 : decode cX8_give 56 = .ok (.getfield 9, 3) := by decide +kernel
theorem dX8_give_59 : decode cX8_give 59 = .ok (.iload_n 1, 1) := by decide +kernel
theorem dX8_give_60 : decode cX8_give 60 = .ok (.dup2, 1) := by decide +kernel
theorem dX8_give_61 : decode cX8_give 61 = .ok (.iaload, 1) := by decide +kernel
theorem dX8_give_62 : decode cX8_give 62 = .ok (.iload_n 3, 1) := by decide +kernel
theorem dX8_give_63 : decode cX8_give 63 = .ok (.isub, 1) := by decide +kernel
theorem dX8_give_64 : decode cX8_give 64 = .ok (.iastore, 1) := by decide +kernel
theorem dX8_give_65 : decode cX8_give 65 = .ok (.aload_n 0, 1) := by decide +kernel
theorem dX8_give_66 : decode cX8_give 66 = .ok (.getfield 9, 3) := by decide +kernel
theorem dX8_give_69 : decode cX8_give 69 = .ok (.iload_n 2, 1) := by decide +kernel
theorem dX8_give_70 : decode cX8_give 70 = .ok (.dup2, 1) := by decide +kernel
theorem dX8_give_71 : decode cX8_give 71 = .ok (.iaload, 1) := by decide +kernel
theorem dX8_give_72 : decode cX8_give 72 = .ok (.iload_n 3, 1) := by decide +kernel
theorem dX8_give_73 : decode cX8_give 73 = .ok (.iadd, 1) := by decide +kernel
theorem dX8_give_74 : decode cX8_give 74 = .ok (.iastore, 1) := by decide +kernel
theorem dX8_give_75 : decode cX8_give 75 = .ok (.aload_n 0, 1) := by decide +kernel
theorem dX8_give_76 : decode cX8_give 76 = .ok (.iload_n 1, 1) := by decide +kernel
theorem dX8_give_77 : decode cX8_give 77 = .ok (.iload_n 2, 1) := by decide +kernel
theorem dX8_give_78 : decode cX8_give 78 = .ok (.iload_n 3, 1) := by decide +kernel
theorem dX8_give_79 : decode cX8_give 79 = .ok (.invokevirtual 191, 3) := by decide +kernel
theorem dX8_give_82 : decode cX8_give 82 = .ok (.ireturn, 1) := by decide +kernel
set_option maxRecDepth 20000 in
theorem ggX8_lend_X8_isPair : GoodIn wsX8_lend wsX8_isPair := goodIn_r _ [8, 9, 10, 11, 12, 7, 13, 14, 15, 16, 17, 18, 1, 28, 29, 30, 31, 32, 33, 34, 35, 36, 37, 38, 39, 40, 41, 42, 43, 44, 45, 46, 47, 48, 49, 50, 51, 52, 53, 54, 55, 56, 57, 58] (by decide +kernel) (by decide +kernel)
set_option maxRecDepth 20000 in
theorem gX8_lend_X8_isPair : GoodIn wsX8_lend (wsV RX8 187 RX8 yX8_isPair wsX8_isPair) := goodIn_app (goodIn_of _ (by decide +kernel)) ggX8_lend_X8_isPair
set_option maxRecDepth 20000 in
theorem ggX8_lend_X8_owe : GoodIn wsX8_lend wsX8_owe := goodIn_r _ [22, 23, 3, 24, 25, 26, 27, 28, 29, 30, 31, 32, 33, 34, 35, 36, 37, 38, 39, 40, 41, 42, 43, 44, 45, 46, 47, 48, 49, 50, 51, 52, 53, 54, 55, 56, 57, 58] (by decide +kernel) (by decide +kernel)
set_option maxRecDepth 20000 in
theorem gX8_lend_X8_owe : GoodIn wsX8_lend (wsV RX8 180 RX8 yX8_owe wsX8_owe) := goodIn_app (goodIn_of _ (by decide +kernel)) ggX8_lend_X8_owe
theorem dX8_lend_0 : decode cX8_lend 0 = .ok (.aload_n 0, 1) := by decide +kernel
theorem dX8_lend_1 : decode cX8_lend 1 = .ok (.iconst 0, 1) := by decide +kernel
theorem dX8_lend_2 : decode cX8_lend 2 = .ok (.putfield 74, 3) := by decide +kernel
theorem dX8_lend_5 : decode cX8_lend 5 = .ok (.aload_n 0, 1) := by decide +kernel
theorem dX8_lend_6 : decode cX8_lend 6 = .ok (.iload_n 1, 1) := by decide +kernel
theorem dX8_lend_7 : decode cX8_lend 7 = .ok (.iload_n 2, 1) := by decide +kernel
theorem dX8_lend_8 : decode cX8_lend 8 = .ok (.iload_n 3, 1) := by decide +kernel
theorem dX8_lend_9 : decode cX8_lend 9 = .ok (.invokevirtual 187, 3) := by decide +kernel
theorem dX8_lend_12 : decode cX8_lend 12 = .ok (.ifCond .ne 5, 3) := by decide +kernel
theorem dX8_lend_15 : decode cX8_lend 15 = .ok (.iconst 0, 1) := by decide +kernel
theorem dX8_lend_16 : decode cX8_lend 16 = .ok (.ireturn, 1) := by decide +kernel
theorem dX8_lend_17 : decode cX8_lend 17 = .ok (.aload_n 0, 1) := by decide +kernel
theorem dX8_lend_18 : decode cX8_lend 18 = .ok (.getfield 9, 3) := by decide +kernel
theorem dX8_lend_21 : decode cX8_lend 21 = .ok (.iload_n 1, 1) := by decide +kernel
theorem dX8_lend_22 : decode cX8_lend 22 = .ok (.iaload, 1) := by decide +kernel
theorem dX8_lend_23 : decode cX8_lend 23 = .ok (.iload_n 3, 1) := by decide +kernel
theorem dX8_lend_24 : decode cX8_lend 24 = .ok (.if_icmp .ge 5, 3) := by decide +kernel
theorem dX8_lend_27 : decode cX8_lend 27 = .ok (.iconst (-1), 1) := by decide +kernel
theorem dX8_lend_28 : decode cX8_lend 28 = .ok (.ireturn, 1) := by decide +kernel
theorem dX8_lend_29 : decode cX8_lend 29 = .ok (.aload_n 0, 1) := by decide +kernel
theorem dX8_lend_30 : decode cX8_lend 30 = .ok (.getfield 160, 3) := by decide +kernel
theorem dX8_lend_33 : decode cX8_lend 33 = .ok (.sipush 400, 3) := by decide +kernel
theorem dX8_lend_36 : decode cX8_lend 36 = .ok (.if_icmp .ne 6, 3) := by decide +kernel
theorem dX8_lend_39 : decode cX8_lend 39 = .ok (.bipush (-2), 2) := by decide +kernel
theorem dX8_lend_41 : decode cX8_lend 41 = .ok (.ireturn, 1) := by decide +kernel
theorem dX8_lend_42 : decode cX8_lend 42 = .ok (.aload_n 0, 1) := by decide +kernel
theorem dX8_lend_43 : decode cX8_lend 43 = .ok (.getfield 9, 3) := by decide +kernel
theorem dX8_lend_46 : decode cX8_lend 46 = .ok (.iload_n 1, 1) := by decide +kernel
theorem dX8_lend_47 : decode cX8_lend 47 = .ok (.dup2, 1) := by decide +kernel
theorem dX8_lend_48 : decode cX8_lend 48 = .ok (.iaload, 1) := by decide +kernel
theorem dX8_lend_49 : decode cX8_lend 49 = .ok (.iload_n 3, 1) := by decide +kernel
theorem dX8_lend_50 : decode cX8_lend 50 = .ok (.isub, 1) := by decide +kernel
theorem dX8_lend_51 : decode cX8_lend 51 = .ok (.iastore, 1) := by decide +kernel
theorem dX8_lend_52 : decode cX8_lend 52 = .ok (.aload_n 0, 1) := by decide +kernel
theorem dX8_lend_53 : decode cX8_lend 53 = .ok (.getfield 9, 3) := by decide +kernel
theorem dX8_lend_56 : decode cX8_lend 56 = .ok (.iload_n 2, 1) := by decide +kernel
theorem dX8_lend_57 : decode cX8_lend 57 = .ok (.dup2, 1) := by decide +kernel
theorem dX8_lend_58 : decode cX8_lend 58 = .ok (.iaload, 1) := by decide +kernel
theorem dX8_lend_59 : decode cX8_lend 59 = .ok (.iload_n 3, 1) := by decide +kernel
theorem dX8_lend_60 : decode cX8_lend 60 = .ok (.iadd, 1) := by decide +kernel
theorem dX8_lend_61 : decode cX8_lend 61 = .ok (.iastore, 1) := by decide +kernel
theorem dX8_lend_62 : decode cX8_lend 62 = .ok (.aload_n 0, 1) := by decide +kernel
theorem dX8_lend_63 : decode cX8_lend 63 = .ok (.iload_n 2, 1) := by decide +kernel
theorem dX8_lend_64 : decode cX8_lend 64 = .ok (.iload_n 1, 1) := by decide +kernel
theorem dX8_lend_65 : decode cX8_lend 65 = .ok (.iload_n 3, 1) := by decide +kernel
theorem dX8_lend_66 : decode cX8_lend 66 = .ok (.i2l, 1) := by decide +kernel
theorem dX8_lend_67 : decode cX8_lend 67 = .ok (.iconst 1, 1) := by decide +kernel
theorem dX8_lend_68 : decode cX8_lend 68 = .ok (.iconst (-1), 1) := by decide +kernel
theorem dX8_lend_69 : decode cX8_lend 69 = .ok (.invokevirtual 180, 3) := by decide +kernel
theorem dX8_lend_72 : decode cX8_lend 72 = .ok (.aload_n 0, 1) := by decide +kernel
theorem dX8_lend_73 : decode cX8_lend 73 = .ok (.getfield 160, 3) := by decide +kernel
theorem dX8_lend_76 : decode cX8_lend 76 = .ok (.iconst 1, 1) := by decide +kernel
theorem dX8_lend_77 : decode cX8_lend 77 = .ok (.isub, 1) := by decide +kernel
theorem dX8_lend_78 : decode cX8_lend 78 = .ok (.ireturn, 1) := by decide +kernel
set_option maxRecDepth 20000 in
theorem ggX8_copper_X8_isChief : GoodIn wsX8_copper wsX8_isChief := goodIn_r _ [12, 13, 18, 19, 20, 21, 22, 23, 24, 25, 26, 27, 28, 29, 30, 31, 32, 33, 34, 35, 36, 37, 38, 39, 40, 41, 42, 43, 44, 45, 46, 47, 48] (by decide +kernel) (by decide +kernel)
set_option maxRecDepth 20000 in
theorem gX8_copper_X8_isChief : GoodIn wsX8_copper (wsV RX8 184 RX8 yX8_isChief wsX8_isChief) := goodIn_app (goodIn_of _ (by decide +kernel)) ggX8_copper_X8_isChief
set_option maxRecDepth 20000 in
theorem ggX8_copper_X8_bad : GoodIn wsX8_copper wsX8_bad := goodIn_r _ [17, 1, 18, 19, 20, 21, 22, 23, 24, 25, 26, 27, 28, 29, 30, 31, 32, 33, 34, 35, 36, 37, 38, 39, 40, 41, 42, 43, 44, 45, 46, 47, 48] (by decide +kernel) (by decide +kernel)
set_option maxRecDepth 20000 in
theorem gX8_copper_X8_bad : GoodIn wsX8_copper (wsV RX8 78 RX8 yX8_bad wsX8_bad) := goodIn_app (goodIn_of _ (by decide +kernel)) ggX8_copper_X8_bad
theorem dX8_copper_0 : decode cX8_copper 0 = .ok (.aload_n 0, 1) := by decide +kernel
theorem dX8_copper_1 : decode cX8_copper 1 = .ok (.iconst 0, 1) := by decide +kernel
theorem dX8_copper_2 : decode cX8_copper 2 = .ok (.putfield 74, 3) := by decide +kernel
theorem dX8_copper_5 : decode cX8_copper 5 = .ok (.aload_n 0, 1) := by decide +kernel
theorem dX8_copper_6 : decode cX8_copper 6 = .ok (.aload_n 0, 1) := by decide +kernel
theorem dX8_copper_7 : decode cX8_copper 7 = .ok (.iload_n 1, 1) := by decide +kernel
theorem dX8_copper_8 : decode cX8_copper 8 = .ok (.invokevirtual 184, 3) := by decide +kernel
theorem dX8_copper_11 : decode cX8_copper 11 = .ok (.ifCond .ne 7, 3) := by decide +kernel
theorem dX8_copper_14 : decode cX8_copper 14 = .ok (.iconst 1, 1) := by decide +kernel
theorem dX8_copper_15 : decode cX8_copper 15 = .ok (.goto 4, 3) := by decide +kernel
theorem dX8_copper_18 : decode cX8_copper 18 = .ok (.iconst 0, 1) := by decide +kernel
theorem dX8_copper_19 : decode cX8_copper 19 = .ok (.iconst 1, 1) := by decide +kernel
theorem dX8_copper_20 : decode cX8_copper 20 = .ok (.invokevirtual 78, 3) := by decide +kernel
theorem dX8_copper_23 : decode cX8_copper 23 = .ok (.ifCond .ne 58, 3) := by decide +kernel
theorem dX8_copper_26 : decode cX8_copper 26 = .ok (.aload_n 0, 1) := by decide +kernel
theorem dX8_copper_27 : decode cX8_copper 27 = .ok (.iload_n 2, 1) := by decide +kernel
theorem dX8_copper_28 : decode cX8_copper 28 = .ok (.iconst 1, 1) := by decide +kernel
theorem dX8_copper_29 : decode cX8_copper 29 = .ok (.if_icmp .lt 9, 3) := by decide +kernel
theorem dX8_copper_32 : decode cX8_copper 32 = .ok (.iload_n 2, 1) := by decide +kernel
theorem dX8_copper_33 : decode cX8_copper 33 = .ok (.ldc 77, 2) := by decide +kernel
theorem dX8_copper_35 : decode cX8_copper 35 = .ok (.if_icmp .le 7, 3) := by decide +kernel
theorem dX8_copper_38 : decode cX8_copper 38 = .ok (.iconst 1, 1) := by decide +kernel
theorem dX8_copper_39 : decode cX8_copper 39 = .ok (.goto 4, 3) := by decide +kernel
theorem dX8_copper_42 : decode cX8_copper 42 = .ok (.iconst 0, 1) := by decide +kernel
theorem dX8_copper_43 : decode cX8_copper 43 = .ok (.iconst 2, 1) := by decide +kernel
theorem dX8_copper_44 : decode cX8_copper 44 = .ok (.invokevirtual 78, 3) := by decide +kernel
theorem dX8_copper_47 : decode cX8_copper 47 = .ok (.ifCond .ne 34, 3) := by decide +kernel
theorem dX8_copper_50 : decode cX8_copper 50 = .ok (.aload_n 0, 1) := by decide +kernel
theorem dX8_copper_51 : decode cX8_copper 51 = .ok (.aload_n 0, 1) := by decide +kernel
theorem dX8_copper_52 : decode cX8_copper 52 = .ok (.getfield 17, 3) := by decide +kernel
theorem dX8_copper_55 : decode cX8_copper 55 = .ok (.iload_n 1, 1) := by decide +kernel
theorem dX8_copper_56 : decode cX8_copper 56 = .ok (.baload, 1) := by decide +kernel
theorem dX8_copper_57 : decode cX8_copper 57 = .ok (.ifCond .ne 12, 3) := by decide +kernel
theorem dX8_copper_60 : decode cX8_copper 60 = .ok (.aload_n 0, 1) := by decide +kernel
theorem dX8_copper_61 : decode cX8_copper 61 = .ok (.getfield 195, 3) := by decide +kernel
theorem dX8_copper_64 : decode cX8_copper 64 = .ok (.bipush 30, 2) := by decide +kernel
theorem dX8_copper_66 : decode cX8_copper 66 = .ok (.if_icmp .ne 7, 3) := by decide +kernel
theorem dX8_copper_69 : decode cX8_copper 69 = .ok (.iconst 1, 1) := by decide +kernel
theorem dX8_copper_70 : decode cX8_copper 70 = .ok (.goto 4, 3) := by decide +kernel
theorem dX8_copper_73 : decode cX8_copper 73 = .ok (.iconst 0, 1) := by decide +kernel
theorem dX8_copper_74 : decode cX8_copper 74 = .ok (.iconst 3, 1) := by decide +kernel
theorem dX8_copper_75 : decode cX8_copper 75 = .ok (.invokevirtual 78, 3) := by decide +kernel
theorem dX8_copper_78 : decode cX8_copper 78 = .ok (.ifCond .eq 5, 3) := by decide +kernel
theorem dX8_copper_81 : decode cX8_copper 81 = .ok (.iconst 0, 1) := by decide +kernel
theorem dX8_copper_82 : decode cX8_copper 82 = .ok (.ireturn, 1) := by decide +kernel
theorem dX8_copper_83 : decode cX8_copper 83 = .ok (.aload_n 0, 1) := by decide +kernel
theorem dX8_copper_84 : decode cX8_copper 84 = .ok (.getfield 50, 3) := by decide +kernel
theorem dX8_copper_87 : decode cX8_copper 87 = .ok (.aload_n 0, 1) := by decide +kernel
theorem dX8_copper_88 : decode cX8_copper 88 = .ok (.getfield 195, 3) := by decide +kernel
theorem dX8_copper_91 : decode cX8_copper 91 = .ok (.iload_n 1, 1) := by decide +kernel
theorem dX8_copper_92 : decode cX8_copper 92 = .ok (.iastore, 1) := by decide +kernel
theorem dX8_copper_93 : decode cX8_copper 93 = .ok (.aload_n 0, 1) := by decide +kernel
theorem dX8_copper_94 : decode cX8_copper 94 = .ok (.getfield 53, 3) := by decide +kernel
theorem dX8_copper_97 : decode cX8_copper 97 = .ok (.aload_n 0, 1) := by decide +kernel
theorem dX8_copper_98 : decode cX8_copper 98 = .ok (.getfield 195, 3) := by decide +kernel
theorem dX8_copper_101 : decode cX8_copper 101 = .ok (.iload_n 2, 1) := by decide +kernel
theorem dX8_copper_102 : decode cX8_copper 102 = .ok (.iastore, 1) := by decide +kernel
theorem dX8_copper_103 : decode cX8_copper 103 = .ok (.aload_n 0, 1) := by decide +kernel
theorem dX8_copper_104 : decode cX8_copper 104 = .ok (.getfield 56, 3) := by decide +kernel
theorem dX8_copper_107 : decode cX8_copper 107 = .ok (.aload_n 0, 1) := by decide +kernel
theorem dX8_copper_108 : decode cX8_copper 108 = .ok (.getfield 195, 3) := by decide +kernel
theorem dX8_copper_111 : decode cX8_copper 111 = .ok (.iload_n 2, 1) := by decide +kernel
theorem dX8_copper_112 : decode cX8_copper 112 = .ok (.iastore, 1) := by decide +kernel
theorem dX8_copper_113 : decode cX8_copper 113 = .ok (.aload_n 0, 1) := by decide +kernel
theorem dX8_copper_114 : decode cX8_copper 114 = .ok (.dup, 1) := by decide +kernel
theorem dX8_copper_115 : decode cX8_copper 115 = .ok (.getfield 195, 3) := by decide +kernel
theorem dX8_copper_118 : decode cX8_copper 118 = .ok (.iconst 1, 1) := by decide +kernel
theorem dX8_copper_119 : decode cX8_copper 119 = .ok (.iadd, 1) := by decide +kernel
theorem dX8_copper_120 : decode cX8_copper 120 = .ok (.putfield 195, 3) := by decide +kernel
theorem dX8_copper_123 : decode cX8_copper 123 = .ok (.aload_n 0, 1) := by decide +kernel
theorem dX8_copper_124 : decode cX8_copper 124 = .ok (.getfield 195, 3) := by decide +kernel
theorem dX8_copper_127 : decode cX8_copper 127 = .ok (.iconst 1, 1) := by decide +kernel
theorem dX8_copper_128 : decode cX8_copper 128 = .ok (.isub, 1) := by decide +kernel
theorem dX8_copper_129 : decode cX8_copper 129 = .ok (.ireturn, 1) := by decide +kernel
theorem dX8_isCopper_0 : decode cX8_isCopper 0 = .ok (.iload_n 1, 1) := by decide +kernel
theorem dX8_isCopper_1 : decode cX8_isCopper 1 = .ok (.ifCond .lt 15, 3) := by decide +kernel
theorem dX8_isCopper_4 : decode cX8_isCopper 4 = .ok (.iload_n 1, 1) := by decide +kernel
theorem dX8_isCopper_5 : decode cX8_isCopper 5 = .ok (.aload_n 0, 1) := by decide +kernel
theorem dX8_isCopper_6 : decode cX8_isCopper 6 = .ok (.getfield 195, 3) := by decide +kernel
theorem dX8_isCopper_9 : decode cX8_isCopper 9 = .ok (.if_icmp .ge 7, 3) := by decide +kernel
theorem dX8_isCopper_12 : decode cX8_isCopper 12 = .ok (.iconst 1, 1) := by decide +kernel
theorem dX8_isCopper_13 : decode cX8_isCopper 13 = .ok (.goto 4, 3) := by decide +kernel
theorem dX8_isCopper_16 : decode cX8_isCopper 16 = .ok (.iconst 0, 1) := by decide +kernel
theorem dX8_isCopper_17 : decode cX8_isCopper 17 = .ok (.ireturn, 1) := by decide +kernel
set_option maxRecDepth 20000 in
theorem ggX8_pass_X8_isCopper : GoodIn wsX8_pass wsX8_isCopper := goodIn_r _ [10, 11, 60, 61, 62, 63, 64, 65, 66, 67, 68, 69, 70, 71, 72, 73, 74, 75, 76, 77, 78, 79, 80, 81, 82, 83, 84, 85, 86, 87, 88, 89, 90] (by decide +kernel) (by decide +kernel)
set_option maxRecDepth 20000 in
theorem gX8_pass_X8_isCopper : GoodIn wsX8_pass (wsV RX8 198 RX8 yX8_isCopper wsX8_isCopper) := goodIn_app (goodIn_of _ (by decide +kernel)) ggX8_pass_X8_isCopper
set_option maxRecDepth 20000 in
theorem ggX8_pass_X8_isChief : GoodIn wsX8_pass wsX8_isChief := goodIn_r _ [15, 16, 60, 61, 62, 63, 64, 65, 66, 67, 68, 69, 70, 71, 72, 73, 74, 75, 76, 77, 78, 79, 80, 81, 82, 83, 84, 85, 86, 87, 88, 89, 90] (by decide +kernel) (by decide +kernel)
set_option maxRecDepth 20000 in
theorem gX8_pass_X8_isChief : GoodIn wsX8_pass (wsV RX8 184 RX8 yX8_isChief wsX8_isChief) := goodIn_app (goodIn_of _ (by decide +kernel)) ggX8_pass_X8_isChief
set_option maxRecDepth 20000 in
theorem ggX8_pass_X8_bad : GoodIn wsX8_pass wsX8_bad := goodIn_r _ [20, 1, 60, 61, 62, 63, 64, 65, 66, 67, 68, 69, 70, 71, 72, 73, 74, 75, 76, 77, 78, 79, 80, 81, 82, 83, 84, 85, 86, 87, 88, 89, 90] (by decide +kernel) (by decide +kernel)
set_option maxRecDepth 20000 in
theorem gX8_pass_X8_bad : GoodIn wsX8_pass (wsV RX8 78 RX8 yX8_bad wsX8_bad) := goodIn_app (goodIn_of _ (by decide +kernel)) ggX8_pass_X8_bad
set_option maxRecDepth 20000 in
theorem ggX8_pass_X8_madeOf : GoodIn wsX8_pass wsX8_madeOf := goodIn_r _ [24, 25, 26, 27, 28, 9, 29, 5, 30, 31, 32, 33, 34, 35, 36, 37, 38, 39, 40, 41, 42, 43, 44, 60, 61, 62, 63, 64, 65, 66, 67, 68, 69, 70, 71, 72, 73, 74, 75, 76, 77, 78, 79, 80, 81, 82, 83, 84, 85, 86, 87, 88, 89, 90] (by decide +kernel) (by decide +kernel)
set_option maxRecDepth 20000 in
theorem gX8_pass_X8_madeOf : GoodIn wsX8_pass (wsV RX8 172 RX8 yX8_madeOf wsX8_madeOf) := goodIn_app (goodIn_of _ (by decide +kernel)) ggX8_pass_X8_madeOf
set_option maxRecDepth 20000 in
theorem ggX8_pass_X8_gives : GoodIn wsX8_pass wsX8_gives := goodIn_r _ [48, 32, 37, 49, 21, 22, 23, 9, 24, 25, 26, 27, 28, 29, 5, 30, 31, 33, 34, 35, 36, 38, 39, 40, 41, 42, 43, 44, 50, 51, 52, 53, 54, 55, 56, 57, 58, 59, 60, 61, 62, 63, 64, 65, 66, 67, 68, 69, 70, 71, 72, 73, 74, 75, 76, 77, 78, 79, 80, 81, 82, 83, 84, 85, 86, 87, 88, 89, 90] (by decide +kernel) (by decide +kernel)
set_option maxRecDepth 20000 in
theorem gX8_pass_X8_gives : GoodIn wsX8_pass (wsV RX8 191 RX8 yX8_gives wsX8_gives) := goodIn_app (goodIn_of _ (by decide +kernel)) ggX8_pass_X8_gives
theorem dX8_pass_0 : decode cX8_pass 0 = .ok (.aload_n 0, 1) := by decide +kernel
theorem dX8_pass_1 : decode cX8_pass 1 = .ok (.iconst 0, 1) := by decide +kernel
theorem dX8_pass_2 : decode cX8_pass 2 = .ok (.putfield 74, 3) := by decide +kernel
theorem dX8_pass_5 : decode cX8_pass 5 = .ok (.aload_n 0, 1) := by decide +kernel
theorem dX8_pass_6 : decode cX8_pass 6 = .ok (.aload_n 0, 1) := by decide +kernel
theorem dX8_pass_7 : decode cX8_pass 7 = .ok (.iload_n 1, 1) := by decide +kernel
theorem dX8_pass_8 : decode cX8_pass 8 = .ok (.invokevirtual 198, 3) := by decide +kernel
theorem dX8_pass_11 : decode cX8_pass 11 = .ok (.ifCond .eq 11, 3) := by decide +kernel
theorem dX8_pass_14 : decode cX8_pass 14 = .ok (.aload_n 0, 1) := by decide +kernel
theorem dX8_pass_15 : decode cX8_pass 15 = .ok (.iload_n 2, 1) := by decide +kernel
theorem dX8_pass_16 : decode cX8_pass 16 = .ok (.invokevirtual 184, 3) := by decide +kernel
theorem dX8_pass_19 : decode cX8_pass 19 = .ok (.ifCond .ne 7, 3) := by decide +kernel
theorem dX8_pass_22 : decode cX8_pass 22 = .ok (.iconst 1, 1) := by decide +kernel
theorem dX8_pass_23 : decode cX8_pass 23 = .ok (.goto 4, 3) := by decide +kernel
theorem dX8_pass_26 : decode cX8_pass 26 = .ok (.iconst 0, 1) := by decide +kernel
theorem dX8_pass_27 : decode cX8_pass 27 = .ok (.iconst 1, 1) := by decide +kernel
theorem dX8_pass_28 : decode cX8_pass 28 = .ok (.invokevirtual 78, 3) := by decide +kernel
theorem dX8_pass_31 : decode cX8_pass 31 = .ok (.ifCond .ne 40, 3) := by decide +kernel
theorem dX8_pass_34 : decode cX8_pass 34 = .ok (.aload_n 0, 1) := by decide +kernel
theorem dX8_pass_35 : decode cX8_pass 35 = .ok (.aload_n 0, 1) := by decide +kernel
theorem dX8_pass_36 : decode cX8_pass 36 = .ok (.getfield 50, 3) := by decide +kernel
theorem dX8_pass_39 : decode cX8_pass 39 = .ok (.iload_n 1, 1) := by decide +kernel
theorem dX8_pass_40 : decode cX8_pass 40 = .ok (.iaload, 1) := by decide +kernel
theorem dX8_pass_41 : decode cX8_pass 41 = .ok (.iload_n 2, 1) := by decide +kernel
theorem dX8_pass_42 : decode cX8_pass 42 = .ok (.if_icmp .ne 7, 3) := by decide +kernel
theorem dX8_pass_45 : decode cX8_pass 45 = .ok (.iconst 1, 1) := by decide +kernel
theorem dX8_pass_46 : decode cX8_pass 46 = .ok (.goto 4, 3) := by decide +kernel
theorem dX8_pass_49 : decode cX8_pass 49 = .ok (.iconst 0, 1) := by decide +kernel
theorem dX8_pass_50 : decode cX8_pass 50 = .ok (.iconst 2, 1) := by decide +kernel
theorem dX8_pass_51 : decode cX8_pass 51 = .ok (.invokevirtual 78, 3) := by decide +kernel
theorem dX8_pass_54 : decode cX8_pass 54 = .ok (.ifCond .ne 17, 3) := by decide +kernel
theorem dX8_pass_57 : decode cX8_pass 57 = .ok (.aload_n 0, 1) := by decide +kernel
theorem dX8_pass_58 : decode cX8_pass 58 = .ok (.aload_n 0, 1) := by decide +kernel
theorem dX8_pass_59 : decode cX8_pass 59 = .ok (.getfield 17, 3) := by decide +kernel
theorem dX8_pass_62 : decode cX8_pass 62 = .ok (.iload_n 2, 1) := by decide +kernel
theorem dX8_pass_63 : decode cX8_pass 63 = .ok (.baload, 1) := by decide +kernel
theorem dX8_pass_64 : decode cX8_pass 64 = .ok (.iconst 3, 1) := by decide +kernel
theorem dX8_pass_65 : decode cX8_pass 65 = .ok (.invokevirtual 78, 3) := by decide +kernel
theorem dX8_pass_68 : decode cX8_pass 68 = .ok (.ifCond .eq 5, 3) := by decide +kernel
theorem dX8_pass_71 : decode cX8_pass 71 = .ok (.iconst 0, 1) := by decide +kernel
theorem dX8_pass_72 : decode cX8_pass 72 = .ok (.ireturn, 1) := by decide +kernel
theorem dX8_pass_73 : decode cX8_pass 73 = .ok (.aload_n 0, 1) := by decide +kernel
theorem dX8_pass_74 : decode cX8_pass 74 = .ok (.getfield 53, 3) := by decide +kernel
theorem dX8_pass_77 : decode cX8_pass 77 = .ok (.iload_n 1, 1) := by decide +kernel
theorem dX8_pass_78 : decode cX8_pass 78 = .ok (.iaload, 1) := by decide +kernel
theorem dX8_pass_79 : decode cX8_pass 79 = .ok (.ifCond .ne 5, 3) := by decide +kernel
theorem dX8_pass_82 : decode cX8_pass 82 = .ok (.iconst (-1), 1) := by decide +kernel
theorem dX8_pass_83 : decode cX8_pass 83 = .ok (.ireturn, 1) := by decide +kernel
theorem dX8_pass_84 : decode cX8_pass 84 = .ok (.aload_n 0, 1) := by decide +kernel
theorem dX8_pass_85 : decode cX8_pass 85 = .ok (.getfield 160, 3) := by decide +kernel
theorem dX8_pass_88 : decode cX8_pass 88 = .ok (.sipush 400, 3) := by decide +kernel
theorem dX8_pass_91 : decode cX8_pass 91 = .ok (.if_icmp .ne 29, 3) := by decide +kernel
theorem dX8_pass_94 : decode cX8_pass 94 = .ok (.aload_n 0, 1) := by decide +kernel
theorem dX8_pass_95 : decode cX8_pass 95 = .ok (.aload_n 0, 1) := by decide +kernel
theorem dX8_pass_96 : decode cX8_pass 96 = .ok (.getfield 50, 3) := by decide +kernel
theorem dX8_pass_99 : decode cX8_pass 99 = .ok (.iload_n 1, 1) := by decide +kernel
theorem dX8_pass_100 : decode cX8_pass 100 = .ok (.iaload, 1) := by decide +kernel
theorem dX8_pass_101 : decode cX8_pass 101 = .ok (.iload_n 2, 1) := by decide +kernel
theorem dX8_pass_102 : decode cX8_pass 102 = .ok (.aload_n 0, 1) := by decide +kernel
theorem dX8_pass_103 : decode cX8_pass 103 = .ok (.getfield 53, 3) := by decide +kernel
theorem dX8_pass_106 : decode cX8_pass 106 = .ok (.iload_n 1, 1) := by decide +kernel
theorem dX8_pass_107 : decode cX8_pass 107 = .ok (.iaload, 1) := by decide +kernel
theorem dX8_pass_108 : decode cX8_pass 108 = .ok (.i2l, 1) := by decide +kernel
theorem dX8_pass_109 : decode cX8_pass 109 = .ok (.invokevirtual 172, 3) := by decide +kernel
theorem dX8_pass_112 : decode cX8_pass 112 = .ok (.lconst 0, 1) := by decide +kernel
theorem dX8_pass_113 : decode cX8_pass 113 = .ok (.lcmp, 1) := by decide +kernel
theorem dX8_pass_114 : decode cX8_pass 114 = .ok (.ifCond .le 6, 3) := by decide +kernel
theorem dX8_pass_117 : decode cX8_pass 117 = .ok (.bipush (-2), 2) := by decide +kernel
theorem dX8_pass_119 : decode cX8_pass 119 = .ok (.ireturn, 1) := by decide +kernel
theorem dX8_pass_120 : decode cX8_pass 120 = .ok (.aload_n 0, 1) := by decide +kernel
theorem dX8_pass_121 : decode cX8_pass 121 = .ok (.aload_n 0, 1) := by decide +kernel
theorem dX8_pass_122 : decode cX8_pass 122 = .ok (.getfield 50, 3) := by decide +kernel
theorem dX8_pass_125 : decode cX8_pass 125 = .ok (.iload_n 1, 1) := by decide +kernel
theorem dX8_pass_126 : decode cX8_pass 126 = .ok (.iaload, 1) := by decide +kernel
theorem dX8_pass_127 : decode cX8_pass 127 = .ok (.iload_n 2, 1) := by decide +kernel
theorem dX8_pass_128 : decode cX8_pass 128 = .ok (.aload_n 0, 1) := by decide +kernel
theorem dX8_pass_129 : decode cX8_pass 129 = .ok (.getfield 53, 3) := by decide +kernel
theorem dX8_pass_132 : decode cX8_pass 132 = .ok (.iload_n 1, 1) := by decide +kernel
theorem dX8_pass_133 : decode cX8_pass 133 = .ok (.iaload, 1) := by decide +kernel
theorem dX8_pass_134 : decode cX8_pass 134 = .ok (.invokevirtual 191, 3) := by decide +kernel
theorem dX8_pass_137 : decode cX8_pass 137 = .ok (.istore_n 3, 1) := by decide +kernel
theorem dX8_pass_138 : decode cX8_pass 138 = .ok (.aload_n 0, 1) := by decide +kernel
theorem dX8_pass_139 : decode cX8_pass 139 = .ok (.getfield 50, 3) := by decide +kernel
theorem dX8_pass_142 : decode cX8_pass 142 = .ok (.iload_n 1, 1) := by decide +kernel
theorem dX8_pass_143 : decode cX8_pass 143 = .ok (.iload_n 2, 1) := by decide +kernel
theorem dX8_pass_144 : decode cX8_pass 144 = .ok (.iastore, 1) := by decide +kernel
theorem dX8_pass_145 : decode cX8_pass 145 = .ok (.iload_n 3, 1) := by decide +kernel
theorem dX8_pass_146 : decode cX8_pass 146 = .ok (.ireturn, 1) := by decide +kernel
set_option maxRecDepth 20000 in
theorem ggX8_breaks_X8_isCopper : GoodIn wsX8_breaks wsX8_isCopper := goodIn_r _ [8, 9, 14, 15, 16, 17, 18, 19, 20, 21, 22, 23, 24, 25, 26, 27, 28, 29, 30, 31, 32, 33, 34, 35, 36, 37, 38, 39, 40, 41, 42, 43, 44] (by decide +kernel) (by decide +kernel)
set_option maxRecDepth 20000 in
theorem gX8_breaks_X8_isCopper : GoodIn wsX8_breaks (wsV RX8 198 RX8 yX8_isCopper wsX8_isCopper) := goodIn_app (goodIn_of _ (by decide +kernel)) ggX8_breaks_X8_isCopper
set_option maxRecDepth 20000 in
theorem ggX8_breaks_X8_bad : GoodIn wsX8_breaks wsX8_bad := goodIn_r _ [13, 1, 14, 15, 16, 17, 18, 19, 20, 21, 22, 23, 24, 25, 26, 27, 28, 29, 30, 31, 32, 33, 34, 35, 36, 37, 38, 39, 40, 41, 42, 43, 44] (by decide +kernel) (by decide +kernel)
set_option maxRecDepth 20000 in
theorem gX8_breaks_X8_bad : GoodIn wsX8_breaks (wsV RX8 78 RX8 yX8_bad wsX8_bad) := goodIn_app (goodIn_of _ (by decide +kernel)) ggX8_breaks_X8_bad
theorem dX8_breaks_0 : decode cX8_breaks 0 = .ok (.aload_n 0, 1) := by decide +kernel
theorem dX8_breaks_1 : decode cX8_breaks 1 = .ok (.iconst 0, 1) := by decide +kernel
theorem dX8_breaks_2 : decode cX8_breaks 2 = .ok (.putfield 74, 3) := by decide +kernel
theorem dX8_breaks_5 : decode cX8_breaks 5 = .ok (.aload_n 0, 1) := by decide +kernel
theorem dX8_breaks_6 : decode cX8_breaks 6 = .ok (.aload_n 0, 1) := by decide +kernel
theorem dX8_breaks_7 : decode cX8_breaks 7 = .ok (.iload_n 1, 1) := by decide +kernel
theorem dX8_breaks_8 : decode cX8_breaks 8 = .ok (.invokevirtual 198, 3) := by decide +kernel
theorem dX8_breaks_11 : decode cX8_breaks 11 = .ok (.ifCond .ne 7, 3) := by decide +kernel
theorem dX8_breaks_14 : decode cX8_breaks 14 = .ok (.iconst 1, 1) := by decide +kernel
theorem dX8_breaks_15 : decode cX8_breaks 15 = .ok (.goto 4, 3) := by decide +kernel
theorem dX8_breaks_18 : decode cX8_breaks 18 = .ok (.iconst 0, 1) := by decide +kernel
theorem dX8_breaks_19 : decode cX8_breaks 19 = .ok (.iconst 1, 1) := by decide +kernel
theorem dX8_breaks_20 : decode cX8_breaks 20 = .ok (.invokevirtual 78, 3) := by decide +kernel
theorem dX8_breaks_23 : decode cX8_breaks 23 = .ok (.ifCond .eq 5, 3) := by decide +kernel
theorem dX8_breaks_26 : decode cX8_breaks 26 = .ok (.iconst 0, 1) := by decide +kernel
theorem dX8_breaks_27 : decode cX8_breaks 27 = .ok (.ireturn, 1) := by decide +kernel
theorem dX8_breaks_28 : decode cX8_breaks 28 = .ok (.aload_n 0, 1) := by decide +kernel
theorem dX8_breaks_29 : decode cX8_breaks 29 = .ok (.getfield 53, 3) := by decide +kernel
theorem dX8_breaks_32 : decode cX8_breaks 32 = .ok (.iload_n 1, 1) := by decide +kernel
theorem dX8_breaks_33 : decode cX8_breaks 33 = .ok (.iaload, 1) := by decide +kernel
theorem dX8_breaks_34 : decode cX8_breaks 34 = .ok (.ifCond .ne 5, 3) := by decide +kernel
theorem dX8_breaks_37 : decode cX8_breaks 37 = .ok (.iconst (-1), 1) := by decide +kernel
theorem dX8_breaks_38 : decode cX8_breaks 38 = .ok (.ireturn, 1) := by decide +kernel
theorem dX8_breaks_39 : decode cX8_breaks 39 = .ok (.aload_n 0, 1) := by decide +kernel
theorem dX8_breaks_40 : decode cX8_breaks 40 = .ok (.getfield 56, 3) := by decide +kernel
theorem dX8_breaks_43 : decode cX8_breaks 43 = .ok (.iload_n 1, 1) := by decide +kernel
theorem dX8_breaks_44 : decode cX8_breaks 44 = .ok (.iaload, 1) := by decide +kernel
theorem dX8_breaks_45 : decode cX8_breaks 45 = .ok (.bipush 8, 2) := by decide +kernel
theorem dX8_breaks_47 : decode cX8_breaks 47 = .ok (.idiv, 1) := by decide +kernel
theorem dX8_breaks_48 : decode cX8_breaks 48 = .ok (.ifCond .ne 7, 3) := by decide +kernel
theorem dX8_breaks_51 : decode cX8_breaks 51 = .ok (.iconst 1, 1) := by decide +kernel
theorem dX8_breaks_52 : decode cX8_breaks 52 = .ok (.goto 12, 3) := by decide +kernel
theorem dX8_breaks_55 : decode cX8_breaks 55 = .ok (.aload_n 0, 1) := by decide +kernel
theorem dX8_breaks_56 : decode cX8_breaks 56 = .ok (.getfield 56, 3) := by decide +kernel
theorem dX8_breaks_59 : decode cX8_breaks 59 = .ok (.iload_n 1, 1) := by decide +kernel
theorem dX8_breaks_60 : decode cX8_breaks 60 = .ok (.iaload, 1) := by decide +kernel
theorem dX8_breaks_61 : decode cX8_breaks 61 = .ok (.bipush 8, 2) := by decide +kernel
theorem dX8_breaks_63 : decode cX8_breaks 63 = .ok (.idiv, 1) := by decide +kernel
theorem dX8_breaks_64 : decode cX8_breaks 64 = .ok (.istore_n 2, 1) := by decide +kernel
theorem dX8_breaks_65 : decode cX8_breaks 65 = .ok (.aload_n 0, 1) := by decide +kernel
theorem dX8_breaks_66 : decode cX8_breaks 66 = .ok (.getfield 53, 3) := by decide +kernel
theorem dX8_breaks_69 : decode cX8_breaks 69 = .ok (.iload_n 1, 1) := by decide +kernel
theorem dX8_breaks_70 : decode cX8_breaks 70 = .ok (.aload_n 0, 1) := by decide +kernel
theorem dX8_breaks_71 : decode cX8_breaks 71 = .ok (.getfield 53, 3) := by decide +kernel
theorem dX8_breaks_74 : decode cX8_breaks 74 = .ok (.iload_n 1, 1) := by decide +kernel
theorem dX8_breaks_75 : decode cX8_breaks 75 = .ok (.iaload, 1) := by decide +kernel
theorem dX8_breaks_76 : decode cX8_breaks 76 = .ok (.iload_n 2, 1) := by decide +kernel
theorem dX8_breaks_77 : decode cX8_breaks 77 = .ok (.if_icmp .ge 7, 3) := by decide +kernel
theorem dX8_breaks_80 : decode cX8_breaks 80 = .ok (.iconst 0, 1) := by decide +kernel
theorem dX8_breaks_81 : decode cX8_breaks 81 = .ok (.goto 11, 3) := by decide +kernel
theorem dX8_breaks_84 : decode cX8_breaks 84 = .ok (.aload_n 0, 1) := by decide +kernel
theorem dX8_breaks_85 : decode cX8_breaks 85 = .ok (.getfield 53, 3) := by decide +kernel
theorem dX8_breaks_88 : decode cX8_breaks 88 = .ok (.iload_n 1, 1) := by decide +kernel
theorem dX8_breaks_89 : decode cX8_breaks 89 = .ok (.iaload, 1) := by decide +kernel
theorem dX8_breaks_90 : decode cX8_breaks 90 = .ok (.iload_n 2, 1) := by decide +kernel
theorem dX8_breaks_91 : decode cX8_breaks 91 = .ok (.isub, 1) := by decide +kernel
theorem dX8_breaks_92 : decode cX8_breaks 92 = .ok (.iastore, 1) := by decide +kernel
theorem dX8_breaks_93 : decode cX8_breaks 93 = .ok (.aload_n 0, 1) := by decide +kernel
theorem dX8_breaks_94 : decode cX8_breaks 94 = .ok (.getfield 53, 3) := by decide +kernel
theorem dX8_breaks_97 : decode cX8_breaks 97 = .ok (.iload_n 1, 1) := by decide +kernel
theorem dX8_breaks_98 : decode cX8_breaks 98 = .ok (.iaload, 1) := by decide +kernel
theorem dX8_breaks_99 : decode cX8_breaks 99 = .ok (.ireturn, 1) := by decide +kernel
set_option maxRecDepth 20000 in
theorem ggX8_copperTold_X8_isCopper : GoodIn wsX8_copperTold wsX8_isCopper := goodIn_r _ [8, 9, 14, 15, 16, 17, 18, 19, 20, 21, 22, 23, 24, 25, 26, 27, 28, 29, 30, 31, 32, 33, 34, 35, 36, 37, 38, 39, 40, 41, 42, 43, 44] (by decide +kernel) (by decide +kernel)
set_option maxRecDepth 20000 in
theorem gX8_copperTold_X8_isCopper : GoodIn wsX8_copperTold (wsV RX8 198 RX8 yX8_isCopper wsX8_isCopper) := goodIn_app (goodIn_of _ (by decide +kernel)) ggX8_copperTold_X8_isCopper
set_option maxRecDepth 20000 in
theorem ggX8_copperTold_X8_bad : GoodIn wsX8_copperTold wsX8_bad := goodIn_r _ [13, 1, 14, 15, 16, 17, 18, 19, 20, 21, 22, 23, 24, 25, 26, 27, 28, 29, 30, 31, 32, 33, 34, 35, 36, 37, 38, 39, 40, 41, 42, 43, 44] (by decide +kernel) (by decide +kernel)
set_option maxRecDepth 20000 in
theorem gX8_copperTold_X8_bad : GoodIn wsX8_copperTold (wsV RX8 78 RX8 yX8_bad wsX8_bad) := goodIn_app (goodIn_of _ (by decide +kernel)) ggX8_copperTold_X8_bad
theorem dX8_copperTold_0 : decode cX8_copperTold 0 = .ok (.aload_n 0, 1) := by decide +kernel
theorem dX8_copperTold_1 : decode cX8_copperTold 1 = .ok (.iconst 0, 1) := by decide +kernel
theorem dX8_copperTold_2 : decode cX8_copperTold 2 = .ok (.putfield 74, 3) := by decide +kernel
theorem dX8_copperTold_5 : decode cX8_copperTold 5 = .ok (.aload_n 0, 1) := by decide +kernel
theorem dX8_copperTold_6 : decode cX8_copperTold 6 = .ok (.aload_n 0, 1) := by decide +kernel
theorem dX8_copperTold_7 : decode cX8_copperTold 7 = .ok (.iload_n 1, 1) := by decide +kernel
theorem dX8_copperTold_8 : decode cX8_copperTold 8 = .ok (.invokevirtual 198, 3) := by decide +kernel
theorem dX8_copperTold_11 : decode cX8_copperTold 11 = .ok (.ifCond .ne 7, 3) := by decide +kernel
theorem dX8_copperTold_14 : decode cX8_copperTold 14 = .ok (.iconst 1, 1) := by decide +kernel
theorem dX8_copperTold_15 : decode cX8_copperTold 15 = .ok (.goto 4, 3) := by decide +kernel
theorem dX8_copperTold_18 : decode cX8_copperTold 18 = .ok (.iconst 0, 1) := by decide +kernel
theorem dX8_copperTold_19 : decode cX8_copperTold 19 = .ok (.iconst 1, 1) := by decide +kernel
theorem dX8_copperTold_20 : decode cX8_copperTold 20 = .ok (.invokevirtual 78, 3) := by decide +kernel
theorem dX8_copperTold_23 : decode cX8_copperTold 23 = .ok (.ifCond .ne 25, 3) := by decide +kernel
theorem dX8_copperTold_26 : decode cX8_copperTold 26 = .ok (.aload_n 0, 1) := by decide +kernel
theorem dX8_copperTold_27 : decode cX8_copperTold 27 = .ok (.iload_n 2, 1) := by decide +kernel
theorem dX8_copperTold_28 : decode cX8_copperTold 28 = .ok (.ifCond .lt 8, 3) := by decide +kernel
theorem dX8_copperTold_31 : decode cX8_copperTold 31 = .ok (.iload_n 2, 1) := by decide +kernel
theorem dX8_copperTold_32 : decode cX8_copperTold 32 = .ok (.iconst 1, 1) := by decide +kernel
theorem dX8_copperTold_33 : decode cX8_copperTold 33 = .ok (.if_icmp .le 7, 3) := by decide +kernel
theorem dX8_copperTold_36 : decode cX8_copperTold 36 = .ok (.iconst 1, 1) := by decide +kernel
theorem dX8_copperTold_37 : decode cX8_copperTold 37 = .ok (.goto 4, 3) := by decide +kernel
theorem dX8_copperTold_40 : decode cX8_copperTold 40 = .ok (.iconst 0, 1) := by decide +kernel
theorem dX8_copperTold_41 : decode cX8_copperTold 41 = .ok (.iconst 2, 1) := by decide +kernel
theorem dX8_copperTold_42 : decode cX8_copperTold 42 = .ok (.invokevirtual 78, 3) := by decide +kernel
theorem dX8_copperTold_45 : decode cX8_copperTold 45 = .ok (.ifCond .eq 5, 3) := by decide +kernel
theorem dX8_copperTold_48 : decode cX8_copperTold 48 = .ok (.iconst 0, 1) := by decide +kernel
theorem dX8_copperTold_49 : decode cX8_copperTold 49 = .ok (.ireturn, 1) := by decide +kernel
theorem dX8_copperTold_50 : decode cX8_copperTold 50 = .ok (.iload_n 2, 1) := by decide +kernel
theorem dX8_copperTold_51 : decode cX8_copperTold 51 = .ok (.ifCond .ne 12, 3) := by decide +kernel
theorem dX8_copperTold_54 : decode cX8_copperTold 54 = .ok (.aload_n 0, 1) := by decide +kernel
theorem dX8_copperTold_55 : decode cX8_copperTold 55 = .ok (.getfield 50, 3) := by decide +kernel
theorem dX8_copperTold_58 : decode cX8_copperTold 58 = .ok (.iload_n 1, 1) := by decide +kernel
theorem dX8_copperTold_59 : decode cX8_copperTold 59 = .ok (.iaload, 1) := by decide +kernel
theorem dX8_copperTold_60 : decode cX8_copperTold 60 = .ok (.goto 9, 3) := by decide +kernel
theorem dX8_copperTold_63 : decode cX8_copperTold 63 = .ok (.aload_n 0, 1) := by decide +kernel
theorem dX8_copperTold_64 : decode cX8_copperTold 64 = .ok (.getfield 53, 3) := by decide +kernel
theorem dX8_copperTold_67 : decode cX8_copperTold 67 = .ok (.iload_n 1, 1) := by decide +kernel
theorem dX8_copperTold_68 : decode cX8_copperTold 68 = .ok (.iaload, 1) := by decide +kernel
theorem dX8_copperTold_69 : decode cX8_copperTold 69 = .ok (.ireturn, 1) := by decide +kernel
theorem dX8_isIn_0 : decode cX8_isIn 0 = .ok (.iload_n 0, 1) := by decide +kernel
theorem dX8_isIn_1 : decode cX8_isIn 1 = .ok (.iload_n 1, 1) := by decide +kernel
theorem dX8_isIn_2 : decode cX8_isIn 2 = .ok (.ishr, 1) := by decide +kernel
theorem dX8_isIn_3 : decode cX8_isIn 3 = .ok (.iconst 1, 1) := by decide +kernel
theorem dX8_isIn_4 : decode cX8_isIn 4 = .ok (.iand, 1) := by decide +kernel
theorem dX8_isIn_5 : decode cX8_isIn 5 = .ok (.iconst 1, 1) := by decide +kernel
theorem dX8_isIn_6 : decode cX8_isIn 6 = .ok (.if_icmp .ne 7, 3) := by decide +kernel
theorem dX8_isIn_9 : decode cX8_isIn 9 = .ok (.iconst 1, 1) := by decide +kernel
theorem dX8_isIn_10 : decode cX8_isIn 10 = .ok (.goto 4, 3) := by decide +kernel
theorem dX8_isIn_13 : decode cX8_isIn 13 = .ok (.iconst 0, 1) := by decide +kernel
theorem dX8_isIn_14 : decode cX8_isIn 14 = .ok (.ireturn, 1) := by decide +kernel
set_option maxRecDepth 20000 in
theorem ggX8_feast_X8_isChief : GoodIn wsX8_feast wsX8_isChief := goodIn_r _ [11, 2, 58, 59, 60, 61, 62, 63, 64, 65, 66, 67, 68, 69, 70, 71, 72, 73, 74, 75, 76, 77, 78, 79, 80, 81, 82, 83, 84, 85, 86, 87, 88] (by decide +kernel) (by decide +kernel)
set_option maxRecDepth 20000 in
theorem gX8_feast_X8_isChief : GoodIn wsX8_feast (wsV RX8 184 RX8 yX8_isChief wsX8_isChief) := goodIn_app (goodIn_of _ (by decide +kernel)) ggX8_feast_X8_isChief
set_option maxRecDepth 20000 in
theorem ggX8_feast_X8_bad : GoodIn wsX8_feast wsX8_bad := goodIn_r _ [15, 1, 58, 59, 60, 61, 62, 63, 64, 65, 66, 67, 68, 69, 70, 71, 72, 73, 74, 75, 76, 77, 78, 79, 80, 81, 82, 83, 84, 85, 86, 87, 88] (by decide +kernel) (by decide +kernel)
set_option maxRecDepth 20000 in
theorem gX8_feast_X8_bad : GoodIn wsX8_feast (wsV RX8 78 RX8 yX8_bad wsX8_bad) := goodIn_app (goodIn_of _ (by decide +kernel)) ggX8_feast_X8_bad
set_option maxRecDepth 20000 in
theorem ggX8_feast_X8_isIn : GoodIn wsX8_feast wsX8_isIn := goodIn_r _ [18] (by decide +kernel) (by decide +kernel)
set_option maxRecDepth 20000 in
theorem gX8_feast_X8_isIn : GoodIn wsX8_feast (va_wsS RX8 201 yX8_isIn wsX8_isIn) := goodIn_app (goodIn_of _ (by decide +kernel)) ggX8_feast_X8_isIn
set_option maxRecDepth 20000 in
theorem ggX8_feast_X8_term : GoodIn wsX8_feast wsX8_term := goodIn_r _ [22, 23, 24, 25, 26, 27, 10, 28, 29, 30, 58, 59, 60, 61, 62, 63, 64, 65, 66, 67, 68, 69, 70, 71, 72, 73, 74, 75, 76, 77, 78, 79, 80, 81, 82, 83, 84, 85, 86, 87, 88] (by decide +kernel) (by decide +kernel)
set_option maxRecDepth 20000 in
theorem gX8_feast_X8_term : GoodIn wsX8_feast (wsV RX8 167 RX8 yX8_term wsX8_term) := goodIn_app (goodIn_of _ (by decide +kernel)) ggX8_feast_X8_term
set_option maxRecDepth 20000 in
theorem ggX8_feast_X8_madeOf : GoodIn wsX8_feast wsX8_madeOf := goodIn_r _ [34, 35, 36, 37, 38, 10, 39, 6, 40, 41, 42, 19, 20, 21, 22, 23, 24, 25, 26, 27, 28, 29, 30, 58, 59, 60, 61, 62, 63, 64, 65, 66, 67, 68, 69, 70, 71, 72, 73, 74, 75, 76, 77, 78, 79, 80, 81, 82, 83, 84, 85, 86, 87, 88] (by decide +kernel) (by decide +kernel)
set_option maxRecDepth 20000 in
theorem gX8_feast_X8_madeOf : GoodIn wsX8_feast (wsV RX8 172 RX8 yX8_madeOf wsX8_madeOf) := goodIn_app (goodIn_of _ (by decide +kernel)) ggX8_feast_X8_madeOf
set_option maxRecDepth 20000 in
theorem ggX8_feast_X8_gives : GoodIn wsX8_feast wsX8_gives := goodIn_r _ [46, 42, 23, 47, 31, 32, 33, 10, 34, 35, 36, 37, 38, 39, 6, 40, 41, 19, 20, 21, 22, 24, 25, 26, 27, 28, 29, 30, 48, 49, 50, 51, 52, 53, 54, 55, 56, 57, 58, 59, 60, 61, 62, 63, 64, 65, 66, 67, 68, 69, 70, 71, 72, 73, 74, 75, 76, 77, 78, 79, 80, 81, 82, 83, 84, 85, 86, 87, 88] (by decide +kernel) (by decide +kernel)
set_option maxRecDepth 20000 in
theorem gX8_feast_X8_gives : GoodIn wsX8_feast (wsV RX8 191 RX8 yX8_gives wsX8_gives) := goodIn_app (goodIn_of _ (by decide +kernel)) ggX8_feast_X8_gives
theorem dX8_feast_0 : decode cX8_feast 0 = .ok (.aload_n 0, 1) := by decide +kernel
theorem dX8_feast_1 : decode cX8_feast 1 = .ok (.iconst 0, 1) := by decide +kernel
theorem dX8_feast_2 : decode cX8_feast 2 = .ok (.putfield 74, 3) := by decide +kernel
theorem dX8_feast_5 : decode cX8_feast 5 = .ok (.aload_n 0, 1) := by decide +kernel
theorem dX8_feast_6 : decode cX8_feast 6 = .ok (.aload_n 0, 1) := by decide +kernel
theorem dX8_feast_7 : decode cX8_feast 7 = .ok (.iload_n 1, 1) := by decide +kernel
theorem dX8_feast_8 : decode cX8_feast 8 = .ok (.invokevirtual 184, 3) := by decide +kernel
theorem dX8_feast_11 : decode cX8_feast 11 = .ok (.ifCond .ne 7, 3) := by decide +kernel
theorem dX8_feast_14 : decode cX8_feast 14 = .ok (.iconst 1, 1) := by decide +kernel
theorem dX8_feast_15 : decode cX8_feast 15 = .ok (.goto 4, 3) := by decide +kernel
theorem dX8_feast_18 : decode cX8_feast 18 = .ok (.iconst 0, 1) := by decide +kernel
theorem dX8_feast_19 : decode cX8_feast 19 = .ok (.iconst 1, 1) := by decide +kernel
theorem dX8_feast_20 : decode cX8_feast 20 = .ok (.invokevirtual 78, 3) := by decide +kernel
theorem dX8_feast_23 : decode cX8_feast 23 = .ok (.ifCond .eq 5, 3) := by decide +kernel
theorem dX8_feast_26 : decode cX8_feast 26 = .ok (.iconst 0, 1) := by decide +kernel
theorem dX8_feast_27 : decode cX8_feast 27 = .ok (.ireturn, 1) := by decide +kernel
theorem dX8_feast_28 : decode cX8_feast 28 = .ok (.iconst 1, 1) := by decide +kernel
theorem dX8_feast_29 : decode cX8_feast 29 = .ok (.aload_n 0, 1) := by decide +kernel
theorem dX8_feast_30 : decode cX8_feast 30 = .ok (.getfield 82, 3) := by decide +kernel
theorem dX8_feast_33 : decode cX8_feast 33 = .ok (.ishl, 1) := by decide +kernel
theorem dX8_feast_34 : decode cX8_feast 34 = .ok (.iconst 1, 1) := by decide +kernel
theorem dX8_feast_35 : decode cX8_feast 35 = .ok (.isub, 1) := by decide +kernel
theorem dX8_feast_36 : decode cX8_feast 36 = .ok (.istore 5, 2) := by decide +kernel
theorem dX8_feast_38 : decode cX8_feast 38 = .ok (.iload_n 2, 1) := by decide +kernel
theorem dX8_feast_39 : decode cX8_feast 39 = .ok (.ifCond .lt 50, 3) := by decide +kernel
theorem dX8_feast_42 : decode cX8_feast 42 = .ok (.iload 4, 2) := by decide +kernel
theorem dX8_feast_44 : decode cX8_feast 44 = .ok (.ifCond .lt 45, 3) := by decide +kernel
theorem dX8_feast_47 : decode cX8_feast 47 = .ok (.iload_n 2, 1) := by decide +kernel
theorem dX8_feast_48 : decode cX8_feast 48 = .ok (.iload 5, 2) := by decide +kernel
theorem dX8_feast_50 : decode cX8_feast 50 = .ok (.if_icmp .gt 39, 3) := by decide +kernel
theorem dX8_feast_53 : decode cX8_feast 53 = .ok (.iload 4, 2) := by decide +kernel
theorem dX8_feast_55 : decode cX8_feast 55 = .ok (.iload 5, 2) := by decide +kernel
theorem dX8_feast_57 : decode cX8_feast 57 = .ok (.if_icmp .gt 32, 3) := by decide +kernel
theorem dX8_feast_60 : decode cX8_feast 60 = .ok (.iload_n 2, 1) := by decide +kernel
theorem dX8_feast_61 : decode cX8_feast 61 = .ok (.iload 4, 2) := by decide +kernel
theorem dX8_feast_63 : decode cX8_feast 63 = .ok (.ior, 1) := by decide +kernel
theorem dX8_feast_64 : decode cX8_feast 64 = .ok (.iload_n 1, 1) := by decide +kernel
theorem dX8_feast_65 : decode cX8_feast 65 = .ok (.invokestatic 201, 3) := by decide +kernel
theorem dX8_feast_68 : decode cX8_feast 68 = .ok (.ifCond .ne 21, 3) := by decide +kernel
theorem dX8_feast_71 : decode cX8_feast 71 = .ok (.iload_n 2, 1) := by decide +kernel
theorem dX8_feast_72 : decode cX8_feast 72 = .ok (.iload 4, 2) := by decide +kernel
theorem dX8_feast_74 : decode cX8_feast 74 = .ok (.iand, 1) := by decide +kernel
theorem dX8_feast_75 : decode cX8_feast 75 = .ok (.ifCond .ne 14, 3) := by decide +kernel
theorem dX8_feast_78 : decode cX8_feast 78 = .ok (.iload_n 3, 1) := by decide +kernel
theorem dX8_feast_79 : decode cX8_feast 79 = .ok (.iconst 1, 1) := by decide +kernel
theorem dX8_feast_80 : decode cX8_feast 80 = .ok (.if_icmp .lt 9, 3) := by decide +kernel
theorem dX8_feast_83 : decode cX8_feast 83 = .ok (.iload_n 3, 1) := by decide +kernel
theorem dX8_feast_84 : decode cX8_feast 84 = .ok (.ldc 205, 2) := by decide +kernel
theorem dX8_feast_86 : decode cX8_feast 86 = .ok (.if_icmp .le 7, 3) := by decide +kernel
theorem dX8_feast_89 : decode cX8_feast 89 = .ok (.iconst 1, 1) := by decide +kernel
theorem dX8_feast_90 : decode cX8_feast 90 = .ok (.goto 4, 3) := by decide +kernel
theorem dX8_feast_93 : decode cX8_feast 93 = .ok (.iconst 0, 1) := by decide +kernel
theorem dX8_feast_94 : decode cX8_feast 94 = .ok (.istore 6, 2) := by decide +kernel
theorem dX8_feast_96 : decode cX8_feast 96 = .ok (.aload_n 0, 1) := by decide +kernel
theorem dX8_feast_97 : decode cX8_feast 97 = .ok (.iload 6, 2) := by decide +kernel
theorem dX8_feast_99 : decode cX8_feast 99 = .ok (.iconst 2, 1) := by decide +kernel
theorem dX8_feast_100 : decode cX8_feast 100 = .ok (.invokevirtual 78, 3) := by decide +kernel
theorem dX8_feast_103 : decode cX8_feast 103 = .ok (.ifCond .eq 5, 3) := by decide +kernel
theorem dX8_feast_106 : decode cX8_feast 106 = .ok (.iconst 0, 1) := by decide +kernel
theorem dX8_feast_107 : decode cX8_feast 107 = .ok (.ireturn, 1) := by decide +kernel
theorem dX8_feast_108 : decode cX8_feast 108 = .ok (.aload_n 0, 1) := by decide +kernel
theorem dX8_feast_109 : decode cX8_feast 109 = .ok (.getfield 17, 3) := by decide +kernel
theorem dX8_feast_112 : decode cX8_feast 112 = .ok (.iload_n 1, 1) := by decide +kernel
theorem dX8_feast_113 : decode cX8_feast 113 = .ok (.baload, 1) := by decide +kernel
theorem dX8_feast_114 : decode cX8_feast 114 = .ok (.istore 7, 2) := by decide +kernel
theorem dX8_feast_116 : decode cX8_feast 116 = .ok (.lconst 0, 1) := by decide +kernel
theorem dX8_feast_117 : decode cX8_feast 117 = .ok (.lstore 8, 2) := by decide +kernel
theorem dX8_feast_119 : decode cX8_feast 119 = .ok (.iconst 0, 1) := by decide +kernel
theorem dX8_feast_120 : decode cX8_feast 120 = .ok (.istore 10, 2) := by decide +kernel
theorem dX8_feast_122 : decode cX8_feast 122 = .ok (.iconst 0, 1) := by decide +kernel
theorem dX8_feast_123 : decode cX8_feast 123 = .ok (.istore 11, 2) := by decide +kernel
theorem dX8_feast_125 : decode cX8_feast 125 = .ok (.iload 11, 2) := by decide +kernel
theorem dX8_feast_127 : decode cX8_feast 127 = .ok (.aload_n 0, 1) := by decide +kernel
theorem dX8_feast_128 : decode cX8_feast 128 = .ok (.getfield 82, 3) := by decide +kernel
theorem dX8_feast_131 : decode cX8_feast 131 = .ok (.if_icmp .ge 104, 3) := by decide +kernel
theorem dX8_feast_134 : decode cX8_feast 134 = .ok (.iload_n 2, 1) := by decide +kernel
theorem dX8_feast_135 : decode cX8_feast 135 = .ok (.iload 4, 2) := by decide +kernel
theorem dX8_feast_137 : decode cX8_feast 137 = .ok (.ior, 1) := by decide +kernel
theorem dX8_feast_138 : decode cX8_feast 138 = .ok (.iload 11, 2) := by decide +kernel
theorem dX8_feast_140 : decode cX8_feast 140 = .ok (.invokestatic 201, 3) := by decide +kernel
theorem dX8_feast_143 : decode cX8_feast 143 = .ok (.ifCond .ne 6, 3) := by decide +kernel
theorem dX8_feast_146 : decode cX8_feast 146 = .ok (.goto 83, 3) := by decide +kernel
theorem dX8_feast_149 : decode cX8_feast 149 = .ok (.iload 7, 2) := by decide +kernel
theorem dX8_feast_151 : decode cX8_feast 151 = .ok (.ifCond .ne 13, 3) := by decide +kernel
theorem dX8_feast_154 : decode cX8_feast 154 = .ok (.aload_n 0, 1) := by decide +kernel
theorem dX8_feast_155 : decode cX8_feast 155 = .ok (.getfield 17, 3) := by decide +kernel
theorem dX8_feast_158 : decode cX8_feast 158 = .ok (.iload 11, 2) := by decide +kernel
theorem dX8_feast_160 : decode cX8_feast 160 = .ok (.baload, 1) := by decide +kernel
theorem dX8_feast_161 : decode cX8_feast 161 = .ok (.ifCond .eq 7, 3) := by decide +kernel
theorem dX8_feast_164 : decode cX8_feast 164 = .ok (.iconst 1, 1) := by decide +kernel
theorem dX8_feast_165 : decode cX8_feast 165 = .ok (.goto 4, 3) := by decide +kernel
theorem dX8_feast_168 : decode cX8_feast 168 = .ok (.iconst 0, 1) := by decide +kernel
theorem dX8_feast_169 : decode cX8_feast 169 = .ok (.istore 7, 2) := by decide +kernel
theorem dX8_feast_171 : decode cX8_feast 171 = .ok (.lload 8, 2) := by decide +kernel
theorem dX8_feast_173 : decode cX8_feast 173 = .ok (.iload_n 2, 1) := by decide +kernel
theorem dX8_feast_174 : decode cX8_feast 174 = .ok (.iload 11, 2) := by decide +kernel
theorem dX8_feast_176 : decode cX8_feast 176 = .ok (.invokestatic 201, 3) := by decide +kernel
theorem dX8_feast_179 : decode cX8_feast 179 = .ok (.ifCond .eq 8, 3) := by decide +kernel
theorem dX8_feast_182 : decode cX8_feast 182 = .ok (.iload_n 3, 1) := by decide +kernel
theorem dX8_feast_183 : decode cX8_feast 183 = .ok (.i2l, 1) := by decide +kernel
theorem dX8_feast_184 : decode cX8_feast 184 = .ok (.goto 9, 3) := by decide +kernel
theorem dX8_feast_187 : decode cX8_feast 187 = .ok (.aload_n 0, 1) := by decide +kernel
theorem dX8_feast_188 : decode cX8_feast 188 = .ok (.iconst 5, 1) := by decide +kernel
theorem dX8_feast_189 : decode cX8_feast 189 = .ok (.invokevirtual 167, 3) := by decide +kernel
theorem dX8_feast_192 : decode cX8_feast 192 = .ok (.i2l, 1) := by decide +kernel
theorem dX8_feast_193 : decode cX8_feast 193 = .ok (.ladd, 1) := by decide +kernel
theorem dX8_feast_194 : decode cX8_feast 194 = .ok (.lstore 8, 2) := by decide +kernel
theorem dX8_feast_196 : decode cX8_feast 196 = .ok (.iload 10, 2) := by decide +kernel
theorem dX8_feast_198 : decode cX8_feast 198 = .ok (.iload_n 2, 1) := by decide +kernel
theorem dX8_feast_199 : decode cX8_feast 199 = .ok (.iload 11, 2) := by decide +kernel
theorem dX8_feast_201 : decode cX8_feast 201 = .ok (.invokestatic 201, 3) := by decide +kernel
theorem dX8_feast_204 : decode cX8_feast 204 = .ok (.ifCond .eq 21, 3) := by decide +kernel
theorem dX8_feast_207 : decode cX8_feast 207 = .ok (.aload_n 0, 1) := by decide +kernel
theorem dX8_feast_208 : decode cX8_feast 208 = .ok (.iload_n 1, 1) := by decide +kernel
theorem dX8_feast_209 : decode cX8_feast 209 = .ok (.iload 11, 2) := by decide +kernel
theorem dX8_feast_211 : decode cX8_feast 211 = .ok (.iload_n 3, 1) := by decide +kernel
theorem dX8_feast_212 : decode cX8_feast 212 = .ok (.i2l, 1) := by decide +kernel
theorem dX8_feast_213 : decode cX8_feast 213 = .ok (.invokevirtual 172, 3) := by decide +kernel
theorem dX8_feast_216 : decode cX8_feast 216 = .ok (.lconst 0, 1) := by decide +kernel
theorem dX8_feast_217 : decode cX8_feast 217 = .ok (.lcmp, 1) := by decide +kernel
theorem dX8_feast_218 : decode cX8_feast 218 = .ok (.ifCond .le 7, 3) := by decide +kernel
theorem dX8_feast_221 : decode cX8_feast 221 = .ok (.iconst 1, 1) := by decide +kernel
theorem dX8_feast_222 : decode cX8_feast 222 = .ok (.goto 4, 3) := by decide +kernel
theorem dX8_feast_225 : decode cX8_feast 225 = .ok (.iconst 0, 1) := by decide +kernel
theorem dX8_feast_226 : decode cX8_feast 226 = .ok (.iadd, 1) := by decide +kernel
theorem dX8_feast_227 : decode cX8_feast 227 = .ok (.istore 10, 2) := by decide +kernel
theorem dX8_feast_229 : decode cX8_feast 229 = .ok (.iinc 11 1, 3) := by decide +kernel
theorem dX8_feast_232 : decode cX8_feast 232 = .ok (.goto (-107), 3) := by decide +kernel
theorem dX8_feast_235 : decode cX8_feast 235 = .ok (.aload_n 0, 1) := by decide +kernel
theorem dX8_feast_236 : decode cX8_feast 236 = .ok (.iload 7, 2) := by decide +kernel
theorem dX8_feast_238 : decode cX8_feast 238 = .ok (.iconst 3, 1) := by decide +kernel
theorem dX8_feast_239 : decode cX8_feast 239 = .ok (.invokevirtual 78, 3) := by decide +kernel
theorem dX8_feast_242 : decode cX8_feast 242 = .ok (.ifCond .eq 5, 3) := by decide +kernel
theorem dX8_feast_245 : decode cX8_feast 245 = .ok (.iconst 0, 1) := by decide +kernel
theorem dX8_feast_246 : decode cX8_feast 246 = .ok (.ireturn, 1) := by decide +kernel
theorem dX8_feast_247 : decode cX8_feast 247 = .ok (.lload 8, 2) := by decide +kernel
theorem dX8_feast_249 : decode cX8_feast 249 = .ok (.aload_n 0, 1) := by decide +kernel
theorem dX8_feast_250 : decode cX8_feast 250 = .ok (.getfield 9, 3) := by decide +kernel
theorem dX8_feast_253 : decode cX8_feast 253 = .ok (.iload_n 1, 1) := by decide +kernel
theorem dX8_feast_254 : decode cX8_feast 254 = .ok (.iaload, 1) := by decide +kernel
theorem dX8_feast_255 : decode cX8_feast 255 = .ok (.i2l, 1) := by decide +kernel
theorem dX8_feast_256 : decode cX8_feast 256 = .ok (.lcmp, 1) := by decide +kernel
theorem dX8_feast_257 : decode cX8_feast 257 = .ok (.ifCond .le 5, 3) := by decide +kernel
theorem dX8_feast_260 : decode cX8_feast 260 = .ok (.iconst (-1), 1) := by decide +kernel
theorem dX8_feast_261 : decode cX8_feast 261 = .ok (.ireturn, 1) := by decide +kernel
theorem dX8_feast_262 : decode cX8_feast 262 = .ok (.aload_n 0, 1) := by decide +kernel
theorem dX8_feast_263 : decode cX8_feast 263 = .ok (.getfield 160, 3) := by decide +kernel
theorem dX8_feast_266 : decode cX8_feast 266 = .ok (.iload 10, 2) := by decide +kernel
theorem dX8_feast_268 : decode cX8_feast 268 = .ok (.iadd, 1) := by decide +kernel
theorem dX8_feast_269 : decode cX8_feast 269 = .ok (.sipush 400, 3) := by decide +kernel
theorem dX8_feast_272 : decode cX8_feast 272 = .ok (.if_icmp .le 6, 3) := by decide +kernel
theorem dX8_feast_275 : decode cX8_feast 275 = .ok (.bipush (-2), 2) := by decide +kernel
theorem dX8_feast_277 : decode cX8_feast 277 = .ok (.ireturn, 1) := by decide +kernel
theorem dX8_feast_278 : decode cX8_feast 278 = .ok (.aload_n 0, 1) := by decide +kernel
theorem dX8_feast_279 : decode cX8_feast 279 = .ok (.getfield 9, 3) := by decide +kernel
theorem dX8_feast_282 : decode cX8_feast 282 = .ok (.iload_n 1, 1) := by decide +kernel
theorem dX8_feast_283 : decode cX8_feast 283 = .ok (.dup2, 1) := by decide +kernel
theorem dX8_feast_284 : decode cX8_feast 284 = .ok (.iaload, 1) := by decide +kernel
theorem dX8_feast_285 : decode cX8_feast 285 = .ok (.lload 8, 2) := by decide +kernel
theorem dX8_feast_287 : decode cX8_feast 287 = .ok (.l2i, 1) := by decide +kernel
theorem dX8_feast_288 : decode cX8_feast 288 = .ok (.isub, 1) := by decide +kernel
theorem dX8_feast_289 : decode cX8_feast 289 = .ok (.iastore, 1) := by decide +kernel
theorem dX8_feast_290 : decode cX8_feast 290 = .ok (.iconst 0, 1) := by decide +kernel
theorem dX8_feast_291 : decode cX8_feast 291 = .ok (.istore 11, 2) := by decide +kernel
theorem dX8_feast_293 : decode cX8_feast 293 = .ok (.iload 11, 2) := by decide +kernel
theorem dX8_feast_295 : decode cX8_feast 295 = .ok (.aload_n 0, 1) := by decide +kernel
theorem dX8_feast_296 : decode cX8_feast 296 = .ok (.getfield 82, 3) := by decide +kernel
theorem dX8_feast_299 : decode cX8_feast 299 = .ok (.if_icmp .ge 66, 3) := by decide +kernel
theorem dX8_feast_302 : decode cX8_feast 302 = .ok (.iload_n 2, 1) := by decide +kernel
theorem dX8_feast_303 : decode cX8_feast 303 = .ok (.iload 11, 2) := by decide +kernel
theorem dX8_feast_305 : decode cX8_feast 305 = .ok (.invokestatic 201, 3) := by decide +kernel
theorem dX8_feast_308 : decode cX8_feast 308 = .ok (.ifCond .eq 26, 3) := by decide +kernel
theorem dX8_feast_311 : decode cX8_feast 311 = .ok (.aload_n 0, 1) := by decide +kernel
theorem dX8_feast_312 : decode cX8_feast 312 = .ok (.getfield 9, 3) := by decide +kernel
theorem dX8_feast_315 : decode cX8_feast 315 = .ok (.iload 11, 2) := by decide +kernel
theorem dX8_feast_317 : decode cX8_feast 317 = .ok (.dup2, 1) := by decide +kernel
theorem dX8_feast_318 : decode cX8_feast 318 = .ok (.iaload, 1) := by decide +kernel
theorem dX8_feast_319 : decode cX8_feast 319 = .ok (.iload_n 3, 1) := by decide +kernel
theorem dX8_feast_320 : decode cX8_feast 320 = .ok (.iadd, 1) := by decide +kernel
theorem dX8_feast_321 : decode cX8_feast 321 = .ok (.iastore, 1) := by decide +kernel
theorem dX8_feast_322 : decode cX8_feast 322 = .ok (.aload_n 0, 1) := by decide +kernel
theorem dX8_feast_323 : decode cX8_feast 323 = .ok (.iload_n 1, 1) := by decide +kernel
theorem dX8_feast_324 : decode cX8_feast 324 = .ok (.iload 11, 2) := by decide +kernel
theorem dX8_feast_326 : decode cX8_feast 326 = .ok (.iload_n 3, 1) := by decide +kernel
theorem dX8_feast_327 : decode cX8_feast 327 = .ok (.invokevirtual 191, 3) := by decide +kernel
theorem dX8_feast_330 : decode cX8_feast 330 = .ok (.pop, 1) := by decide +kernel
theorem dX8_feast_331 : decode cX8_feast 331 = .ok (.goto 28, 3) := by decide +kernel
theorem dX8_feast_334 : decode cX8_feast 334 = .ok (.iload 4, 2) := by decide +kernel
theorem dX8_feast_336 : decode cX8_feast 336 = .ok (.iload 11, 2) := by decide +kernel
theorem dX8_feast_338 : decode cX8_feast 338 = .ok (.invokestatic 201, 3) := by decide +kernel
theorem dX8_feast_341 : decode cX8_feast 341 = .ok (.ifCond .eq 18, 3) := by decide +kernel
theorem dX8_feast_344 : decode cX8_feast 344 = .ok (.aload_n 0, 1) := by decide +kernel
theorem dX8_feast_345 : decode cX8_feast 345 = .ok (.getfield 9, 3) := by decide +kernel
theorem dX8_feast_348 : decode cX8_feast 348 = .ok (.iload 11, 2) := by decide +kernel
theorem dX8_feast_350 : decode cX8_feast 350 = .ok (.dup2, 1) := by decide +kernel
theorem dX8_feast_351 : decode cX8_feast 351 = .ok (.iaload, 1) := by decide +kernel
theorem dX8_feast_352 : decode cX8_feast 352 = .ok (.aload_n 0, 1) := by decide +kernel
theorem dX8_feast_353 : decode cX8_feast 353 = .ok (.iconst 5, 1) := by decide +kernel
theorem dX8_feast_354 : decode cX8_feast 354 = .ok (.invokevirtual 167, 3) := by decide +kernel
theorem dX8_feast_357 : decode cX8_feast 357 = .ok (.iadd, 1) := by decide +kernel
theorem dX8_feast_358 : decode cX8_feast 358 = .ok (.iastore, 1) := by decide +kernel
theorem dX8_feast_359 : decode cX8_feast 359 = .ok (.iinc 11 1, 3) := by decide +kernel
theorem dX8_feast_362 : decode cX8_feast 362 = .ok (.goto (-69), 3) := by decide +kernel
theorem dX8_feast_365 : decode cX8_feast 365 = .ok (.lload 8, 2) := by decide +kernel
theorem dX8_feast_367 : decode cX8_feast 367 = .ok (.l2i, 1) := by decide +kernel
theorem dX8_feast_368 : decode cX8_feast 368 = .ok (.ireturn, 1) := by decide +kernel
set_option maxRecDepth 20000 in
theorem ggX8_died_X8_isChief : GoodIn wsX8_died wsX8_isChief := goodIn_r _ [14, 15, 20, 21, 22, 23, 24, 25, 26, 27, 28, 29, 30, 31, 32, 33, 34, 35, 36, 37, 38, 39, 40, 41, 42, 43, 44, 45, 46, 47, 48, 49, 50] (by decide +kernel) (by decide +kernel)
set_option maxRecDepth 20000 in
theorem gX8_died_X8_isChief : GoodIn wsX8_died (wsV RX8 184 RX8 yX8_isChief wsX8_isChief) := goodIn_app (goodIn_of _ (by decide +kernel)) ggX8_died_X8_isChief
set_option maxRecDepth 20000 in
theorem ggX8_died_X8_bad : GoodIn wsX8_died wsX8_bad := goodIn_r _ [19, 1, 20, 21, 22, 23, 24, 25, 26, 27, 28, 29, 30, 31, 32, 33, 34, 35, 36, 37, 38, 39, 40, 41, 42, 43, 44, 45, 46, 47, 48, 49, 50] (by decide +kernel) (by decide +kernel)
set_option maxRecDepth 20000 in
theorem gX8_died_X8_bad : GoodIn wsX8_died (wsV RX8 78 RX8 yX8_bad wsX8_bad) := goodIn_app (goodIn_of _ (by decide +kernel)) ggX8_died_X8_bad
theorem dX8_died_0 : decode cX8_died 0 = .ok (.aload_n 0, 1) := by decide +kernel
theorem dX8_died_1 : decode cX8_died 1 = .ok (.iconst 0, 1) := by decide +kernel
theorem dX8_died_2 : decode cX8_died 2 = .ok (.putfield 74, 3) := by decide +kernel
theorem dX8_died_5 : decode cX8_died 5 = .ok (.aload_n 0, 1) := by decide +kernel
theorem dX8_died_6 : decode cX8_died 6 = .ok (.aload_n 0, 1) := by decide +kernel
theorem dX8_died_7 : decode cX8_died 7 = .ok (.iload_n 1, 1) := by decide +kernel
theorem dX8_died_8 : decode cX8_died 8 = .ok (.invokevirtual 184, 3) := by decide +kernel
theorem dX8_died_11 : decode cX8_died 11 = .ok (.ifCond .eq 11, 3) := by decide +kernel
theorem dX8_died_14 : decode cX8_died 14 = .ok (.aload_n 0, 1) := by decide +kernel
theorem dX8_died_15 : decode cX8_died 15 = .ok (.iload_n 2, 1) := by decide +kernel
theorem dX8_died_16 : decode cX8_died 16 = .ok (.invokevirtual 184, 3) := by decide +kernel
theorem dX8_died_19 : decode cX8_died 19 = .ok (.ifCond .ne 7, 3) := by decide +kernel
theorem dX8_died_22 : decode cX8_died 22 = .ok (.iconst 1, 1) := by decide +kernel
theorem dX8_died_23 : decode cX8_died 23 = .ok (.goto 4, 3) := by decide +kernel
theorem dX8_died_26 : decode cX8_died 26 = .ok (.iconst 0, 1) := by decide +kernel
theorem dX8_died_27 : decode cX8_died 27 = .ok (.iconst 1, 1) := by decide +kernel
theorem dX8_died_28 : decode cX8_died 28 = .ok (.invokevirtual 78, 3) := by decide +kernel
theorem dX8_died_31 : decode cX8_died 31 = .ok (.ifCond .ne 52, 3) := by decide +kernel
theorem dX8_died_34 : decode cX8_died 34 = .ok (.aload_n 0, 1) := by decide +kernel
theorem dX8_died_35 : decode cX8_died 35 = .ok (.iload_n 1, 1) := by decide +kernel
theorem dX8_died_36 : decode cX8_died 36 = .ok (.iload_n 2, 1) := by decide +kernel
theorem dX8_died_37 : decode cX8_died 37 = .ok (.if_icmp .ne 7, 3) := by decide +kernel
theorem dX8_died_40 : decode cX8_died 40 = .ok (.iconst 1, 1) := by decide +kernel
theorem dX8_died_41 : decode cX8_died 41 = .ok (.goto 4, 3) := by decide +kernel
theorem dX8_died_44 : decode cX8_died 44 = .ok (.iconst 0, 1) := by decide +kernel
theorem dX8_died_45 : decode cX8_died 45 = .ok (.iconst 2, 1) := by decide +kernel
theorem dX8_died_46 : decode cX8_died 46 = .ok (.invokevirtual 78, 3) := by decide +kernel
theorem dX8_died_49 : decode cX8_died 49 = .ok (.ifCond .ne 34, 3) := by decide +kernel
theorem dX8_died_52 : decode cX8_died 52 = .ok (.aload_n 0, 1) := by decide +kernel
theorem dX8_died_53 : decode cX8_died 53 = .ok (.aload_n 0, 1) := by decide +kernel
theorem dX8_died_54 : decode cX8_died 54 = .ok (.getfield 17, 3) := by decide +kernel
theorem dX8_died_57 : decode cX8_died 57 = .ok (.iload_n 1, 1) := by decide +kernel
theorem dX8_died_58 : decode cX8_died 58 = .ok (.baload, 1) := by decide +kernel
theorem dX8_died_59 : decode cX8_died 59 = .ok (.ifCond .ne 12, 3) := by decide +kernel
theorem dX8_died_62 : decode cX8_died 62 = .ok (.aload_n 0, 1) := by decide +kernel
theorem dX8_died_63 : decode cX8_died 63 = .ok (.getfield 17, 3) := by decide +kernel
theorem dX8_died_66 : decode cX8_died 66 = .ok (.iload_n 2, 1) := by decide +kernel
theorem dX8_died_67 : decode cX8_died 67 = .ok (.baload, 1) := by decide +kernel
theorem dX8_died_68 : decode cX8_died 68 = .ok (.ifCond .eq 7, 3) := by decide +kernel
theorem dX8_died_71 : decode cX8_died 71 = .ok (.iconst 1, 1) := by decide +kernel
theorem dX8_died_72 : decode cX8_died 72 = .ok (.goto 4, 3) := by decide +kernel
theorem dX8_died_75 : decode cX8_died 75 = .ok (.iconst 0, 1) := by decide +kernel
theorem dX8_died_76 : decode cX8_died 76 = .ok (.iconst 3, 1) := by decide +kernel
theorem dX8_died_77 : decode cX8_died 77 = .ok (.invokevirtual 78, 3) := by decide +kernel
theorem dX8_died_80 : decode cX8_died 80 = .ok (.ifCond .eq 5, 3) := by decide +kernel
theorem dX8_died_83 : decode cX8_died 83 = .ok (.iconst 0, 1) := by decide +kernel
theorem dX8_died_84 : decode cX8_died 84 = .ok (.ireturn, 1) := by decide +kernel
theorem dX8_died_85 : decode cX8_died 85 = .ok (.aload_n 0, 1) := by decide +kernel
theorem dX8_died_86 : decode cX8_died 86 = .ok (.getfield 17, 3) := by decide +kernel
theorem dX8_died_89 : decode cX8_died 89 = .ok (.iload_n 1, 1) := by decide +kernel
theorem dX8_died_90 : decode cX8_died 90 = .ok (.iconst 1, 1) := by decide +kernel
theorem dX8_died_91 : decode cX8_died 91 = .ok (.bastore, 1) := by decide +kernel
theorem dX8_died_92 : decode cX8_died 92 = .ok (.aload_n 0, 1) := by decide +kernel
theorem dX8_died_93 : decode cX8_died 93 = .ok (.getfield 9, 3) := by decide +kernel
theorem dX8_died_96 : decode cX8_died 96 = .ok (.iload_n 2, 1) := by decide +kernel
theorem dX8_died_97 : decode cX8_died 97 = .ok (.dup2, 1) := by decide +kernel
theorem dX8_died_98 : decode cX8_died 98 = .ok (.iaload, 1) := by decide +kernel
theorem dX8_died_99 : decode cX8_died 99 = .ok (.aload_n 0, 1) := by decide +kernel
theorem dX8_died_100 : decode cX8_died 100 = .ok (.getfield 9, 3) := by decide +kernel
theorem dX8_died_103 : decode cX8_died 103 = .ok (.iload_n 1, 1) := by decide +kernel
theorem dX8_died_104 : decode cX8_died 104 = .ok (.iaload, 1) := by decide +kernel
theorem dX8_died_105 : decode cX8_died 105 = .ok (.iadd, 1) := by decide +kernel
theorem dX8_died_106 : decode cX8_died 106 = .ok (.iastore, 1) := by decide +kernel
theorem dX8_died_107 : decode cX8_died 107 = .ok (.aload_n 0, 1) := by decide +kernel
theorem dX8_died_108 : decode cX8_died 108 = .ok (.getfield 9, 3) := by decide +kernel
theorem dX8_died_111 : decode cX8_died 111 = .ok (.iload_n 1, 1) := by decide +kernel
theorem dX8_died_112 : decode cX8_died 112 = .ok (.iconst 0, 1) := by decide +kernel
theorem dX8_died_113 : decode cX8_died 113 = .ok (.iastore, 1) := by decide +kernel
theorem dX8_died_114 : decode cX8_died 114 = .ok (.iconst 0, 1) := by decide +kernel
theorem dX8_died_115 : decode cX8_died 115 = .ok (.istore_n 3, 1) := by decide +kernel
theorem dX8_died_116 : decode cX8_died 116 = .ok (.iload_n 3, 1) := by decide +kernel
theorem dX8_died_117 : decode cX8_died 117 = .ok (.aload_n 0, 1) := by decide +kernel
theorem dX8_died_118 : decode cX8_died 118 = .ok (.getfield 195, 3) := by decide +kernel
theorem dX8_died_121 : decode cX8_died 121 = .ok (.if_icmp .ge 26, 3) := by decide +kernel
theorem dX8_died_124 : decode cX8_died 124 = .ok (.aload_n 0, 1) := by decide +kernel
theorem dX8_died_125 : decode cX8_died 125 = .ok (.getfield 50, 3) := by decide +kernel
theorem dX8_died_128 : decode cX8_died 128 = .ok (.iload_n 3, 1) := by decide +kernel
theorem dX8_died_129 : decode cX8_died 129 = .ok (.iaload, 1) := by decide +kernel
theorem dX8_died_130 : decode cX8_died 130 = .ok (.iload_n 1, 1) := by decide +kernel
theorem dX8_died_131 : decode cX8_died 131 = .ok (.if_icmp .ne 10, 3) := by decide +kernel
theorem dX8_died_134 : decode cX8_died 134 = .ok (.aload_n 0, 1) := by decide +kernel
theorem dX8_died_135 : decode cX8_died 135 = .ok (.getfield 50, 3) := by decide +kernel
theorem dX8_died_138 : decode cX8_died 138 = .ok (.iload_n 3, 1) := by decide +kernel
theorem dX8_died_139 : decode cX8_died 139 = .ok (.iload_n 2, 1) := by decide +kernel
theorem dX8_died_140 : decode cX8_died 140 = .ok (.iastore, 1) := by decide +kernel
theorem dX8_died_141 : decode cX8_died 141 = .ok (.iinc 3 1, 3) := by decide +kernel
theorem dX8_died_144 : decode cX8_died 144 = .ok (.goto (-28), 3) := by decide +kernel
theorem dX8_died_147 : decode cX8_died 147 = .ok (.iconst 0, 1) := by decide +kernel
theorem dX8_died_148 : decode cX8_died 148 = .ok (.istore_n 3, 1) := by decide +kernel
theorem dX8_died_149 : decode cX8_died 149 = .ok (.iconst 0, 1) := by decide +kernel
theorem dX8_died_150 : decode cX8_died 150 = .ok (.istore 4, 2) := by decide +kernel
theorem dX8_died_152 : decode cX8_died 152 = .ok (.iload 4, 2) := by decide +kernel
theorem dX8_died_154 : decode cX8_died 154 = .ok (.aload_n 0, 1) := by decide +kernel
theorem dX8_died_155 : decode cX8_died 155 = .ok (.getfield 160, 3) := by decide +kernel
theorem dX8_died_158 : decode cX8_died 158 = .ok (.if_icmp .ge 112, 3) := by decide +kernel
theorem dX8_died_161 : decode cX8_died 161 = .ok (.aload_n 0, 1) := by decide +kernel
