theorem dX8_init_94 : decode cX8_init 94 = .ok (.aload_n 0, 1) := by decide +kernel
theorem dX8_init_95 : decode cX8_init 95 = .ok (.sipush 400, 3) := by decide +kernel
theorem dX8_init_98 : decode cX8_init 98 = .ok (.newarray .int, 2) := by decide +kernel
theorem dX8_init_100 : decode cX8_init 100 = .ok (.putfield 47, 3) := by decide +kernel
theorem dX8_init_103 : decode cX8_init 103 = .ok (.aload_n 0, 1) := by decide +kernel
theorem dX8_init_104 : decode cX8_init 104 = .ok (.bipush 30, 2) := by decide +kernel
theorem dX8_init_106 : decode cX8_init 106 = .ok (.newarray .int, 2) := by decide +kernel
theorem dX8_init_108 : decode cX8_init 108 = .ok (.putfield 50, 3) := by decide +kernel
theorem dX8_init_111 : decode cX8_init 111 = .ok (.aload_n 0, 1) := by decide +kernel
theorem dX8_init_112 : decode cX8_init 112 = .ok (.bipush 30, 2) := by decide +kernel
theorem dX8_init_114 : decode cX8_init 114 = .ok (.newarray .int, 2) := by decide +kernel
theorem dX8_init_116 : decode cX8_init 116 = .ok (.putfield 53, 3) := by decide +kernel
theorem dX8_init_119 : decode cX8_init 119 = .ok (.aload_n 0, 1) := by decide +kernel
theorem dX8_init_120 : decode cX8_init 120 = .ok (.bipush 30, 2) := by decide +kernel
theorem dX8_init_122 : decode cX8_init 122 = .ok (.newarray .int, 2) := by decide +kernel
theorem dX8_init_124 : decode cX8_init 124 = .ok (.putfield 56, 3) := by decide +kernel
theorem dX8_init_127 : decode cX8_init 127 = .ok (.aload_n 0, 1) := by decide +kernel
theorem dX8_init_128 : decode cX8_init 128 = .ok (.sipush 144, 3) := by decide +kernel
theorem dX8_init_131 : decode cX8_init 131 = .ok (.newarray .long, 2) := by decide +kernel
theorem dX8_init_133 : decode cX8_init 133 = .ok (.putfield 59, 3) := by decide +kernel
theorem dX8_init_136 : decode cX8_init 136 = .ok (.aload_n 0, 1) := by decide +kernel
theorem dX8_init_137 : decode cX8_init 137 = .ok (.bipush 12, 2) := by decide +kernel
theorem dX8_init_139 : decode cX8_init 139 = .ok (.newarray .long, 2) := by decide +kernel
theorem dX8_init_141 : decode cX8_init 141 = .ok (.putfield 62, 3) := by decide +kernel
theorem dX8_init_144 : decode cX8_init 144 = .ok (.aload_n 0, 1) := by decide +kernel
theorem dX8_init_145 : decode cX8_init 145 = .ok (.bipush 12, 2) := by decide +kernel
theorem dX8_init_147 : decode cX8_init 147 = .ok (.newarray .int, 2) := by decide +kernel
theorem dX8_init_149 : decode cX8_init 149 = .ok (.putfield 65, 3) := by decide +kernel
theorem dX8_init_152 : decode cX8_init 152 = .ok (.aload_n 0, 1) := by decide +kernel
theorem dX8_init_153 : decode cX8_init 153 = .ok (.bipush 12, 2) := by decide +kernel
theorem dX8_init_155 : decode cX8_init 155 = .ok (.newarray .boolean, 2) := by decide +kernel
theorem dX8_init_157 : decode cX8_init 157 = .ok (.putfield 68, 3) := by decide +kernel
theorem dX8_init_160 : decode cX8_init 160 = .ok (.aload_n 0, 1) := by decide +kernel
theorem dX8_init_161 : decode cX8_init 161 = .ok (.bipush 12, 2) := by decide +kernel
theorem dX8_init_163 : decode cX8_init 163 = .ok (.newarray .int, 2) := by decide +kernel
theorem dX8_init_165 : decode cX8_init 165 = .ok (.putfield 71, 3) := by decide +kernel
theorem dX8_init_168 : decode cX8_init 168 = .ok (.return_, 1) := by decide +kernel
theorem dX8_thrown_0 : decode cX8_thrown 0 = .ok (.aload_n 0, 1) := by decide +kernel
theorem dX8_thrown_1 : decode cX8_thrown 1 = .ok (.getfield 74, 3) := by decide +kernel
theorem dX8_thrown_4 : decode cX8_thrown 4 = .ok (.ireturn, 1) := by decide +kernel
theorem dX8_bad_0 : decode cX8_bad 0 = .ok (.iload_n 1, 1) := by decide +kernel
theorem dX8_bad_1 : decode cX8_bad 1 = .ok (.ifCond .eq 8, 3) := by decide +kernel
theorem dX8_bad_4 : decode cX8_bad 4 = .ok (.aload_n 0, 1) := by decide +kernel
theorem dX8_bad_5 : decode cX8_bad 5 = .ok (.iload_n 2, 1) := by decide +kernel
theorem dX8_bad_6 : decode cX8_bad 6 = .ok (.putfield 74, 3) := by decide +kernel
theorem dX8_bad_9 : decode cX8_bad 9 = .ok (.iload_n 1, 1) := by decide +kernel
theorem dX8_bad_10 : decode cX8_bad 10 = .ok (.ireturn, 1) := by decide +kernel
set_option maxRecDepth 20000 in
theorem ggX8_chief_X8_bad : GoodIn wsX8_chief wsX8_bad := goodIn_r _ [9, 1, 10, 11, 12, 13, 14, 15, 16, 17, 18, 19, 20, 21, 22, 23, 24, 25, 26, 27, 28, 29, 30, 31, 32, 33, 34, 35, 36, 37, 38, 39, 40] (by decide +kernel) (by decide +kernel)
set_option maxRecDepth 20000 in
theorem gX8_chief_X8_bad : GoodIn wsX8_chief (wsV RX8 78 RX8 yX8_bad wsX8_bad) := goodIn_app (goodIn_of _ (by decide +kernel)) ggX8_chief_X8_bad
theorem dX8_chief_0 : decode cX8_chief 0 = .ok (.aload_n 0, 1) := by decide +kernel
theorem dX8_chief_1 : decode cX8_chief 1 = .ok (.iconst 0, 1) := by decide +kernel
theorem dX8_chief_2 : decode cX8_chief 2 = .ok (.putfield 74, 3) := by decide +kernel
theorem dX8_chief_5 : decode cX8_chief 5 = .ok (.aload_n 0, 1) := by decide +kernel
theorem dX8_chief_6 : decode cX8_chief 6 = .ok (.iload_n 1, 1) := by decide +kernel
theorem dX8_chief_7 : decode cX8_chief 7 = .ok (.ifCond .lt 9, 3) := by decide +kernel
theorem dX8_chief_10 : decode cX8_chief 10 = .ok (.iload_n 1, 1) := by decide +kernel
theorem dX8_chief_11 : decode cX8_chief 11 = .ok (.ldc 77, 2) := by decide +kernel
theorem dX8_chief_13 : decode cX8_chief 13 = .ok (.if_icmp .le 7, 3) := by decide +kernel
theorem dX8_chief_16 : decode cX8_chief 16 = .ok (.iconst 1, 1) := by decide +kernel
theorem dX8_chief_17 : decode cX8_chief 17 = .ok (.goto 4, 3) := by decide +kernel
theorem dX8_chief_20 : decode cX8_chief 20 = .ok (.iconst 0, 1) := by decide +kernel
theorem dX8_chief_21 : decode cX8_chief 21 = .ok (.iconst 1, 1) := by decide +kernel
theorem dX8_chief_22 : decode cX8_chief 22 = .ok (.invokevirtual 78, 3) := by decide +kernel
theorem dX8_chief_25 : decode cX8_chief 25 = .ok (.ifCond .ne 25, 3) := by decide +kernel
theorem dX8_chief_28 : decode cX8_chief 28 = .ok (.aload_n 0, 1) := by decide +kernel
theorem dX8_chief_29 : decode cX8_chief 29 = .ok (.aload_n 0, 1) := by decide +kernel
theorem dX8_chief_30 : decode cX8_chief 30 = .ok (.getfield 82, 3) := by decide +kernel
theorem dX8_chief_33 : decode cX8_chief 33 = .ok (.bipush 12, 2) := by decide +kernel
theorem dX8_chief_35 : decode cX8_chief 35 = .ok (.if_icmp .ne 7, 3) := by decide +kernel
theorem dX8_chief_38 : decode cX8_chief 38 = .ok (.iconst 1, 1) := by decide +kernel
theorem dX8_chief_39 : decode cX8_chief 39 = .ok (.goto 4, 3) := by decide +kernel
theorem dX8_chief_42 : decode cX8_chief 42 = .ok (.iconst 0, 1) := by decide +kernel
theorem dX8_chief_43 : decode cX8_chief 43 = .ok (.iconst 2, 1) := by decide +kernel
theorem dX8_chief_44 : decode cX8_chief 44 = .ok (.invokevirtual 78, 3) := by decide +kernel
theorem dX8_chief_47 : decode cX8_chief 47 = .ok (.ifCond .eq 5, 3) := by decide +kernel
theorem dX8_chief_50 : decode cX8_chief 50 = .ok (.iconst 0, 1) := by decide +kernel
theorem dX8_chief_51 : decode cX8_chief 51 = .ok (.ireturn, 1) := by decide +kernel
theorem dX8_chief_52 : decode cX8_chief 52 = .ok (.aload_n 0, 1) := by decide +kernel
theorem dX8_chief_53 : decode cX8_chief 53 = .ok (.getfield 9, 3) := by decide +kernel
theorem dX8_chief_56 : decode cX8_chief 56 = .ok (.aload_n 0, 1) := by decide +kernel
theorem dX8_chief_57 : decode cX8_chief 57 = .ok (.getfield 82, 3) := by decide +kernel
theorem dX8_chief_60 : decode cX8_chief 60 = .ok (.iload_n 1, 1) := by decide +kernel
theorem dX8_chief_61 : decode cX8_chief 61 = .ok (.iastore, 1) := by decide +kernel
theorem dX8_chief_62 : decode cX8_chief 62 = .ok (.aload_n 0, 1) := by decide +kernel
theorem dX8_chief_63 : decode cX8_chief 63 = .ok (.dup, 1) := by decide +kernel
theorem dX8_chief_64 : decode cX8_chief 64 = .ok (.getfield 82, 3) := by decide +kernel
theorem dX8_chief_67 : decode cX8_chief 67 = .ok (.iconst 1, 1) := by decide +kernel
theorem dX8_chief_68 : decode cX8_chief 68 = .ok (.iadd, 1) := by decide +kernel
theorem dX8_chief_69 : decode cX8_chief 69 = .ok (.putfield 82, 3) := by decide +kernel
theorem dX8_chief_72 : decode cX8_chief 72 = .ok (.aload_n 0, 1) := by decide +kernel
theorem dX8_chief_73 : decode cX8_chief 73 = .ok (.getfield 82, 3) := by decide +kernel
theorem dX8_chief_76 : decode cX8_chief 76 = .ok (.iconst 1, 1) := by decide +kernel
theorem dX8_chief_77 : decode cX8_chief 77 = .ok (.isub, 1) := by decide +kernel
theorem dX8_chief_78 : decode cX8_chief 78 = .ok (.ireturn, 1) := by decide +kernel
theorem dX8_isChief_0 : decode cX8_isChief 0 = .ok (.iload_n 1, 1) := by decide +kernel
theorem dX8_isChief_1 : decode cX8_isChief 1 = .ok (.ifCond .lt 15, 3) := by decide +kernel
theorem dX8_isChief_4 : decode cX8_isChief 4 = .ok (.iload_n 1, 1) := by decide +kernel
theorem dX8_isChief_5 : decode cX8_isChief 5 = .ok (.aload_n 0, 1) := by decide +kernel
theorem dX8_isChief_6 : decode cX8_isChief 6 = .ok (.getfield 82, 3) := by decide +kernel
theorem dX8_isChief_9 : decode cX8_isChief 9 = .ok (.if_icmp .ge 7, 3) := by decide +kernel
theorem dX8_isChief_12 : decode cX8_isChief 12 = .ok (.iconst 1, 1) := by decide +kernel
theorem dX8_isChief_13 : decode cX8_isChief 13 = .ok (.goto 4, 3) := by decide +kernel
theorem dX8_isChief_16 : decode cX8_isChief 16 = .ok (.iconst 0, 1) := by decide +kernel
theorem dX8_isChief_17 : decode cX8_isChief 17 = .ok (.ireturn, 1) := by decide +kernel
theorem dX8_feed_0 : decode cX8_feed 0 = .ok (.aload_n 0, 1) := by decide +kernel
theorem dX8_feed_1 : decode cX8_feed 1 = .ok (.iconst 0, 1) := by decide +kernel
theorem dX8_feed_2 : decode cX8_feed 2 = .ok (.putfield 74, 3) := by decide +kernel
theorem dX8_feed_5 : decode cX8_feed 5 = .ok (.aload_n 0, 1) := by decide +kernel
theorem dX8_feed_6 : decode cX8_feed 6 = .ok (.getfield 85, 3) := by decide +kernel
theorem dX8_feed_9 : decode cX8_feed 9 = .ok (.bipush 20, 2) := by decide +kernel
theorem dX8_feed_11 : decode cX8_feed 11 = .ok (.iadd, 1) := by decide +kernel
theorem dX8_feed_12 : decode cX8_feed 12 = .ok (.sipush 200, 3) := by decide +kernel
theorem dX8_feed_15 : decode cX8_feed 15 = .ok (.if_icmp .le 5, 3) := by decide +kernel
theorem dX8_feed_18 : decode cX8_feed 18 = .ok (.iconst (-1), 1) := by decide +kernel
theorem dX8_feed_19 : decode cX8_feed 19 = .ok (.ireturn, 1) := by decide +kernel
theorem dX8_feed_20 : decode cX8_feed 20 = .ok (.iconst 0, 1) := by decide +kernel
theorem dX8_feed_21 : decode cX8_feed 21 = .ok (.istore 6, 2) := by decide +kernel
theorem dX8_feed_23 : decode cX8_feed 23 = .ok (.iload 6, 2) := by decide +kernel
theorem dX8_feed_25 : decode cX8_feed 25 = .ok (.iconst 5, 1) := by decide +kernel
theorem dX8_feed_26 : decode cX8_feed 26 = .ok (.if_icmp .ge 93, 3) := by decide +kernel
theorem dX8_feed_29 : decode cX8_feed 29 = .ok (.iload 6, 2) := by decide +kernel
theorem dX8_feed_31 : decode cX8_feed 31 = .ok (.ifCond .ne 7, 3) := by decide +kernel
theorem dX8_feed_34 : decode cX8_feed 34 = .ok (.iload_n 1, 1) := by decide +kernel
theorem dX8_feed_35 : decode cX8_feed 35 = .ok (.goto 36, 3) := by decide +kernel
theorem dX8_feed_38 : decode cX8_feed 38 = .ok (.iload 6, 2) := by decide +kernel
theorem dX8_feed_40 : decode cX8_feed 40 = .ok (.iconst 1, 1) := by decide +kernel
theorem dX8_feed_41 : decode cX8_feed 41 = .ok (.if_icmp .ne 7, 3) := by decide +kernel
theorem dX8_feed_44 : decode cX8_feed 44 = .ok (.iload_n 2, 1) := by decide +kernel
theorem dX8_feed_45 : decode cX8_feed 45 = .ok (.goto 26, 3) := by decide +kernel
theorem dX8_feed_48 : decode cX8_feed 48 = .ok (.iload 6, 2) := by decide +kernel
theorem dX8_feed_50 : decode cX8_feed 50 = .ok (.iconst 2, 1) := by decide +kernel
theorem dX8_feed_51 : decode cX8_feed 51 = .ok (.if_icmp .ne 7, 3) := by decide +kernel
theorem dX8_feed_54 : decode cX8_feed 54 = .ok (.iload_n 3, 1) := by decide +kernel
theorem dX8_feed_55 : decode cX8_feed 55 = .ok (.goto 16, 3) := by decide +kernel
theorem dX8_feed_58 : decode cX8_feed 58 = .ok (.iload 6, 2) := by decide +kernel
theorem dX8_feed_60 : decode cX8_feed 60 = .ok (.iconst 3, 1) := by decide +kernel
theorem dX8_feed_61 : decode cX8_feed 61 = .ok (.if_icmp .ne 8, 3) := by decide +kernel
theorem dX8_feed_64 : decode cX8_feed 64 = .ok (.iload 4, 2) := by decide +kernel
theorem dX8_feed_66 : decode cX8_feed 66 = .ok (.goto 5, 3) := by decide +kernel
theorem dX8_feed_69 : decode cX8_feed 69 = .ok (.iload 5, 2) := by decide +kernel
theorem dX8_feed_71 : decode cX8_feed 71 = .ok (.istore 7, 2) := by decide +kernel
theorem dX8_feed_73 : decode cX8_feed 73 = .ok (.bipush 24, 2) := by decide +kernel
theorem dX8_feed_75 : decode cX8_feed 75 = .ok (.istore 8, 2) := by decide +kernel
theorem dX8_feed_77 : decode cX8_feed 77 = .ok (.iload 8, 2) := by decide +kernel
theorem dX8_feed_79 : decode cX8_feed 79 = .ok (.ifCond .lt 34, 3) := by decide +kernel
theorem dX8_feed_82 : decode cX8_feed 82 = .ok (.aload_n 0, 1) := by decide +kernel
theorem dX8_feed_83 : decode cX8_feed 83 = .ok (.getfield 21, 3) := by decide +kernel
theorem dX8_feed_86 : decode cX8_feed 86 = .ok (.aload_n 0, 1) := by decide +kernel
theorem dX8_feed_87 : decode cX8_feed 87 = .ok (.getfield 85, 3) := by decide +kernel
theorem dX8_feed_90 : decode cX8_feed 90 = .ok (.iload 7, 2) := by decide +kernel
theorem dX8_feed_92 : decode cX8_feed 92 = .ok (.iload 8, 2) := by decide +kernel
theorem dX8_feed_94 : decode cX8_feed 94 = .ok (.ishr, 1) := by decide +kernel
theorem dX8_feed_95 : decode cX8_feed 95 = .ok (.i2b, 1) := by decide +kernel
theorem dX8_feed_96 : decode cX8_feed 96 = .ok (.bastore, 1) := by decide +kernel
theorem dX8_feed_97 : decode cX8_feed 97 = .ok (.aload_n 0, 1) := by decide +kernel
theorem dX8_feed_98 : decode cX8_feed 98 = .ok (.dup, 1) := by decide +kernel
theorem dX8_feed_99 : decode cX8_feed 99 = .ok (.getfield 85, 3) := by decide +kernel
theorem dX8_feed_102 : decode cX8_feed 102 = .ok (.iconst 1, 1) := by decide +kernel
theorem dX8_feed_103 : decode cX8_feed 103 = .ok (.iadd, 1) := by decide +kernel
theorem dX8_feed_104 : decode cX8_feed 104 = .ok (.putfield 85, 3) := by decide +kernel
theorem dX8_feed_107 : decode cX8_feed 107 = .ok (.iinc 8 (-8), 3) := by decide +kernel
theorem dX8_feed_110 : decode cX8_feed 110 = .ok (.goto (-33), 3) := by decide +kernel
theorem dX8_feed_113 : decode cX8_feed 113 = .ok (.iinc 6 1, 3) := by decide +kernel
theorem dX8_feed_116 : decode cX8_feed 116 = .ok (.goto (-93), 3) := by decide +kernel
theorem dX8_feed_119 : decode cX8_feed 119 = .ok (.aload_n 0, 1) := by decide +kernel
theorem dX8_feed_120 : decode cX8_feed 120 = .ok (.getfield 85, 3) := by decide +kernel
theorem dX8_feed_123 : decode cX8_feed 123 = .ok (.ireturn, 1) := by decide +kernel
theorem dX8_byteAt_0 : decode cX8_byteAt 0 = .ok (.iload_n 1, 1) := by decide +kernel
theorem dX8_byteAt_1 : decode cX8_byteAt 1 = .ok (.aload_n 0, 1) := by decide +kernel
theorem dX8_byteAt_2 : decode cX8_byteAt 2 = .ok (.getfield 88, 3) := by decide +kernel
theorem dX8_byteAt_5 : decode cX8_byteAt 5 = .ok (.if_icmp .ge 16, 3) := by decide +kernel
theorem dX8_byteAt_8 : decode cX8_byteAt 8 = .ok (.aload_n 0, 1) := by decide +kernel
theorem dX8_byteAt_9 : decode cX8_byteAt 9 = .ok (.getfield 21, 3) := by decide +kernel
theorem dX8_byteAt_12 : decode cX8_byteAt 12 = .ok (.iload_n 1, 1) := by decide +kernel
theorem dX8_byteAt_13 : decode cX8_byteAt 13 = .ok (.baload, 1) := by decide +kernel
theorem dX8_byteAt_14 : decode cX8_byteAt 14 = .ok (.sipush 255, 3) := by decide +kernel
theorem dX8_byteAt_17 : decode cX8_byteAt 17 = .ok (.iand, 1) := by decide +kernel
theorem dX8_byteAt_18 : decode cX8_byteAt 18 = .ok (.goto 4, 3) := by decide +kernel
theorem dX8_byteAt_21 : decode cX8_byteAt 21 = .ok (.iconst 0, 1) := by decide +kernel
theorem dX8_byteAt_22 : decode cX8_byteAt 22 = .ok (.ireturn, 1) := by decide +kernel
set_option maxRecDepth 20000 in
theorem ggX8_blanks_X8_byteAt : GoodIn wsX8_blanks wsX8_byteAt := goodIn_r _ [7, 2, 8, 9, 10, 11, 12, 13, 14, 15, 16, 17, 18, 19, 20, 21, 22, 23, 24, 25, 26, 27, 28, 29, 30, 31, 32, 33, 34, 35, 36, 37, 38, 39] (by decide +kernel) (by decide +kernel)
set_option maxRecDepth 20000 in
theorem gX8_blanks_X8_byteAt : GoodIn wsX8_blanks (wsV RX8 94 RX8 yX8_byteAt wsX8_byteAt) := goodIn_app (goodIn_of _ (by decide +kernel)) ggX8_blanks_X8_byteAt
theorem dX8_blanks_0 : decode cX8_blanks 0 = .ok (.aload_n 0, 1) := by decide +kernel
theorem dX8_blanks_1 : decode cX8_blanks 1 = .ok (.getfield 91, 3) := by decide +kernel
theorem dX8_blanks_4 : decode cX8_blanks 4 = .ok (.aload_n 0, 1) := by decide +kernel
theorem dX8_blanks_5 : decode cX8_blanks 5 = .ok (.getfield 88, 3) := by decide +kernel
theorem dX8_blanks_8 : decode cX8_blanks 8 = .ok (.if_icmp .ge 29, 3) := by decide +kernel
theorem dX8_blanks_11 : decode cX8_blanks 11 = .ok (.aload_n 0, 1) := by decide +kernel
theorem dX8_blanks_12 : decode cX8_blanks 12 = .ok (.aload_n 0, 1) := by decide +kernel
theorem dX8_blanks_13 : decode cX8_blanks 13 = .ok (.getfield 91, 3) := by decide +kernel
theorem dX8_blanks_16 : decode cX8_blanks 16 = .ok (.invokevirtual 94, 3) := by decide +kernel
theorem dX8_blanks_19 : decode cX8_blanks 19 = .ok (.bipush 32, 2) := by decide +kernel
theorem dX8_blanks_21 : decode cX8_blanks 21 = .ok (.if_icmp .ne 16, 3) := by decide +kernel
theorem dX8_blanks_24 : decode cX8_blanks 24 = .ok (.aload_n 0, 1) := by decide +kernel
theorem dX8_blanks_25 : decode cX8_blanks 25 = .ok (.dup, 1) := by decide +kernel
theorem dX8_blanks_26 : decode cX8_blanks 26 = .ok (.getfield 91, 3) := by decide +kernel
theorem dX8_blanks_29 : decode cX8_blanks 29 = .ok (.iconst 1, 1) := by decide +kernel
theorem dX8_blanks_30 : decode cX8_blanks 30 = .ok (.iadd, 1) := by decide +kernel
theorem dX8_blanks_31 : decode cX8_blanks 31 = .ok (.putfield 91, 3) := by decide +kernel
theorem dX8_blanks_34 : decode cX8_blanks 34 = .ok (.goto (-34), 3) := by decide +kernel
theorem dX8_blanks_37 : decode cX8_blanks 37 = .ok (.return_, 1) := by decide +kernel
theorem dX8_isSmall_0 : decode cX8_isSmall 0 = .ok (.iload_n 0, 1) := by decide +kernel
theorem dX8_isSmall_1 : decode cX8_isSmall 1 = .ok (.bipush 97, 2) := by decide +kernel
theorem dX8_isSmall_3 : decode cX8_isSmall 3 = .ok (.if_icmp .lt 13, 3) := by decide +kernel
theorem dX8_isSmall_6 : decode cX8_isSmall 6 = .ok (.iload_n 0, 1) := by decide +kernel
theorem dX8_isSmall_7 : decode cX8_isSmall 7 = .ok (.bipush 122, 2) := by decide +kernel
theorem dX8_isSmall_9 : decode cX8_isSmall 9 = .ok (.if_icmp .gt 7, 3) := by decide +kernel
theorem dX8_isSmall_12 : decode cX8_isSmall 12 = .ok (.iconst 1, 1) := by decide +kernel
theorem dX8_isSmall_13 : decode cX8_isSmall 13 = .ok (.goto 4, 3) := by decide +kernel
theorem dX8_isSmall_16 : decode cX8_isSmall 16 = .ok (.iconst 0, 1) := by decide +kernel
theorem dX8_isSmall_17 : decode cX8_isSmall 17 = .ok (.ireturn, 1) := by decide +kernel
theorem dX8_isDigit_0 : decode cX8_isDigit 0 = .ok (.iload_n 0, 1) := by decide +kernel
theorem dX8_isDigit_1 : decode cX8_isDigit 1 = .ok (.bipush 48, 2) := by decide +kernel
theorem dX8_isDigit_3 : decode cX8_isDigit 3 = .ok (.if_icmp .lt 13, 3) := by decide +kernel
theorem dX8_isDigit_6 : decode cX8_isDigit 6 = .ok (.iload_n 0, 1) := by decide +kernel
theorem dX8_isDigit_7 : decode cX8_isDigit 7 = .ok (.bipush 57, 2) := by decide +kernel
theorem dX8_isDigit_9 : decode cX8_isDigit 9 = .ok (.if_icmp .gt 7, 3) := by decide +kernel
theorem dX8_isDigit_12 : decode cX8_isDigit 12 = .ok (.iconst 1, 1) := by decide +kernel
theorem dX8_isDigit_13 : decode cX8_isDigit 13 = .ok (.goto 4, 3) := by decide +kernel
theorem dX8_isDigit_16 : decode cX8_isDigit 16 = .ok (.iconst 0, 1) := by decide +kernel
theorem dX8_isDigit_17 : decode cX8_isDigit 17 = .ok (.ireturn, 1) := by decide +kernel
theorem dX8_wrong_0 : decode cX8_wrong 0 = .ok (.aload_n 0, 1) := by decide +kernel
theorem dX8_wrong_1 : decode cX8_wrong 1 = .ok (.getfield 98, 3) := by decide +kernel
theorem dX8_wrong_4 : decode cX8_wrong 4 = .ok (.ifCond .le 4, 3) := by decide +kernel
theorem dX8_wrong_7 : decode cX8_wrong 7 = .ok (.return_, 1) := by decide +kernel
theorem dX8_wrong_8 : decode cX8_wrong 8 = .ok (.aload_n 0, 1) := by decide +kernel
theorem dX8_wrong_9 : decode cX8_wrong 9 = .ok (.iload_n 1, 1) := by decide +kernel
theorem dX8_wrong_10 : decode cX8_wrong 10 = .ok (.putfield 98, 3) := by decide +kernel
theorem dX8_wrong_13 : decode cX8_wrong 13 = .ok (.aload_n 0, 1) := by decide +kernel
theorem dX8_wrong_14 : decode cX8_wrong 14 = .ok (.iload_n 2, 1) := by decide +kernel
theorem dX8_wrong_15 : decode cX8_wrong 15 = .ok (.putfield 25, 3) := by decide +kernel
theorem dX8_wrong_18 : decode cX8_wrong 18 = .ok (.return_, 1) := by decide +kernel
set_option maxRecDepth 20000 in
theorem ggX8_isWord_X8_blanks : GoodIn wsX8_isWord wsX8_blanks := goodIn_r _ [6, 1, 7, 8, 9, 10, 5, 11, 12, 65, 66, 67, 68, 69, 70, 71, 72, 73, 74, 75, 76, 77, 78, 79, 80, 81, 82, 83, 84, 85, 86, 87, 88, 89, 90, 91, 92, 93, 94, 95] (by decide +kernel) (by decide +kernel)
set_option maxRecDepth 20000 in
theorem gX8_isWord_X8_blanks : GoodIn wsX8_isWord (wsV RX8 101 RX8 yX8_blanks wsX8_blanks) := goodIn_app (goodIn_of _ (by decide +kernel)) ggX8_isWord_X8_blanks
set_option maxRecDepth 20000 in
theorem ggX8_isWord_J0_length_8abf5 : GoodIn wsX8_isWord wsJ0_length_8abf5 := goodIn_r _ [17, 18, 19, 20, 21, 16, 22, 23, 24] (by decide +kernel) (by decide +kernel)
set_option maxRecDepth 20000 in
theorem gX8_isWord_J0_length_8abf5 : GoodIn wsX8_isWord (wsV RX8 104 RJ0 yJ0_length_8abf5 wsJ0_length_8abf5) := goodIn_app (goodIn_of _ (by decide +kernel)) ggX8_isWord_J0_length_8abf5
set_option maxRecDepth 20000 in
theorem ggX8_isWord_X8_byteAt : GoodIn wsX8_isWord wsX8_byteAt := goodIn_r _ [11, 7, 12, 65, 66, 67, 68, 69, 70, 71, 72, 73, 74, 75, 76, 77, 78, 79, 80, 81, 82, 83, 84, 85, 86, 87, 88, 89, 90, 91, 92, 93, 94, 95] (by decide +kernel) (by decide +kernel)
set_option maxRecDepth 20000 in
theorem gX8_isWord_X8_byteAt : GoodIn wsX8_isWord (wsV RX8 94 RX8 yX8_byteAt wsX8_byteAt) := goodIn_app (goodIn_of _ (by decide +kernel)) ggX8_isWord_X8_byteAt
set_option maxRecDepth 20000 in
theorem ggX8_isWord_J0_charAt_5068e : GoodIn wsX8_isWord wsJ0_charAt_5068e := goodIn_r _ [28, 18, 29, 30, 31, 16, 32, 23, 24, 33, 34, 35, 36, 37, 38, 39, 40, 41, 42, 43, 44, 45, 46, 47, 48, 49, 50, 51, 52, 53, 54, 55, 56, 57, 58, 59, 60, 61] (by decide +kernel) (by decide +kernel)
set_option maxRecDepth 20000 in
theorem gX8_isWord_J0_charAt_5068e : GoodIn wsX8_isWord (wsV RX8 110 RJ0 yJ0_charAt_5068e wsJ0_charAt_5068e) := goodIn_app (goodIn_of _ (by decide +kernel)) ggX8_isWord_J0_charAt_5068e
set_option maxRecDepth 20000 in
theorem ggX8_isWord_X8_isSmall : GoodIn wsX8_isWord wsX8_isSmall := goodIn_r _ [64] (by decide +kernel) (by decide +kernel)
set_option maxRecDepth 20000 in
theorem gX8_isWord_X8_isSmall : GoodIn wsX8_isWord (va_wsS RX8 114 yX8_isSmall wsX8_isSmall) := goodIn_app (goodIn_of _ (by decide +kernel)) ggX8_isWord_X8_isSmall
theorem dX8_isWord_0 : decode cX8_isWord 0 = .ok (.aload_n 0, 1) := by decide +kernel
theorem dX8_isWord_1 : decode cX8_isWord 1 = .ok (.invokevirtual 101, 3) := by decide +kernel
theorem dX8_isWord_4 : decode cX8_isWord 4 = .ok (.iconst 0, 1) := by decide +kernel
theorem dX8_isWord_5 : decode cX8_isWord 5 = .ok (.istore_n 2, 1) := by decide +kernel
theorem dX8_isWord_6 : decode cX8_isWord 6 = .ok (.iload_n 2, 1) := by decide +kernel
theorem dX8_isWord_7 : decode cX8_isWord 7 = .ok (.aload_n 1, 1) := by decide +kernel
theorem dX8_isWord_8 : decode cX8_isWord 8 = .ok (.invokevirtual 104, 3) := by decide +kernel
theorem dX8_isWord_11 : decode cX8_isWord 11 = .ok (.if_icmp .ge 29, 3) := by decide +kernel
theorem dX8_isWord_14 : decode cX8_isWord 14 = .ok (.aload_n 0, 1) := by decide +kernel
theorem dX8_isWord_15 : decode cX8_isWord 15 = .ok (.aload_n 0, 1) := by decide +kernel
theorem dX8_isWord_16 : decode cX8_isWord 16 = .ok (.getfield 91, 3) := by decide +kernel
theorem dX8_isWord_19 : decode cX8_isWord 19 = .ok (.iload_n 2, 1) := by decide +kernel
theorem dX8_isWord_20 : decode cX8_isWord 20 = .ok (.iadd, 1) := by decide +kernel
theorem dX8_isWord_21 : decode cX8_isWord 21 = .ok (.invokevirtual 94, 3) := by decide +kernel
theorem dX8_isWord_24 : decode cX8_isWord 24 = .ok (.aload_n 1, 1) := by decide +kernel
theorem dX8_isWord_25 : decode cX8_isWord 25 = .ok (.iload_n 2, 1) := by decide +kernel
theorem dX8_isWord_26 : decode cX8_isWord 26 = .ok (.invokevirtual 110, 3) := by decide +kernel
theorem dX8_isWord_29 : decode cX8_isWord 29 = .ok (.if_icmp .eq 5, 3) := by decide +kernel
theorem dX8_isWord_32 : decode cX8_isWord 32 = .ok (.iconst 0, 1) := by decide +kernel
theorem dX8_isWord_33 : decode cX8_isWord 33 = .ok (.ireturn, 1) := by decide +kernel
theorem dX8_isWord_34 : decode cX8_isWord 34 = .ok (.iinc 2 1, 3) := by decide +kernel
theorem dX8_isWord_37 : decode cX8_isWord 37 = .ok (.goto (-31), 3) := by decide +kernel
theorem dX8_isWord_40 : decode cX8_isWord 40 = .ok (.aload_n 0, 1) := by decide +kernel
theorem dX8_isWord_41 : decode cX8_isWord 41 = .ok (.aload_n 0, 1) := by decide +kernel
theorem dX8_isWord_42 : decode cX8_isWord 42 = .ok (.getfield 91, 3) := by decide +kernel
theorem dX8_isWord_45 : decode cX8_isWord 45 = .ok (.aload_n 1, 1) := by decide +kernel
theorem dX8_isWord_46 : decode cX8_isWord 46 = .ok (.invokevirtual 104, 3) := by decide +kernel
theorem dX8_isWord_49 : decode cX8_isWord 49 = .ok (.iadd, 1) := by decide +kernel
theorem dX8_isWord_50 : decode cX8_isWord 50 = .ok (.invokevirtual 94, 3) := by decide +kernel
theorem dX8_isWord_53 : decode cX8_isWord 53 = .ok (.invokestatic 114, 3) := by decide +kernel
theorem dX8_isWord_56 : decode cX8_isWord 56 = .ok (.ifCond .ne 7, 3) := by decide +kernel
theorem dX8_isWord_59 : decode cX8_isWord 59 = .ok (.iconst 1, 1) := by decide +kernel
theorem dX8_isWord_60 : decode cX8_isWord 60 = .ok (.goto 4, 3) := by decide +kernel
theorem dX8_isWord_63 : decode cX8_isWord 63 = .ok (.iconst 0, 1) := by decide +kernel
theorem dX8_isWord_64 : decode cX8_isWord 64 = .ok (.ireturn, 1) := by decide +kernel
set_option maxRecDepth 20000 in
theorem ggX8_need_X8_isWord : GoodIn wsX8_need wsX8_isWord := goodIn_r _ [7, 2, 8, 9, 10, 6, 11, 12, 13, 14, 15, 16, 17, 18, 19, 20, 21, 22, 23, 24, 25, 26, 27, 28, 29, 30, 31, 32, 33, 34, 35, 36, 37, 38, 39, 40, 41, 42, 43, 44, 45, 46, 47, 48, 49, 50, 51, 52, 53, 54, 55, 56, 57, 58, 59, 60, 61, 62, 63, 64, 65, 66, 67, 68, 69, 75, 76, 77, 78, 79, 80, 81, 82, 83, 84, 85, 86, 87, 88, 89, 90, 91, 92, 93, 94, 95, 96, 97, 98, 99, 100, 101, 102, 103, 104, 105] (by decide +kernel) (by decide +kernel)
set_option maxRecDepth 20000 in
theorem gX8_need_X8_isWord : GoodIn wsX8_need (wsV RX8 118 RX8 yX8_isWord wsX8_isWord) := goodIn_app (goodIn_of _ (by decide +kernel)) ggX8_need_X8_isWord
set_option maxRecDepth 20000 in
theorem ggX8_need_J0_length_8abf5 : GoodIn wsX8_need wsJ0_length_8abf5 := goodIn_r _ [22, 23, 24, 25, 26, 21, 27, 28, 29] (by decide +kernel) (by decide +kernel)
set_option maxRecDepth 20000 in
theorem gX8_need_J0_length_8abf5 : GoodIn wsX8_need (wsV RX8 104 RJ0 yJ0_length_8abf5 wsJ0_length_8abf5) := goodIn_app (goodIn_of _ (by decide +kernel)) ggX8_need_J0_length_8abf5
set_option maxRecDepth 20000 in
theorem ggX8_need_X8_wrong : GoodIn wsX8_need wsX8_wrong := goodIn_r _ [73, 1, 74, 75, 76, 77, 78, 79, 80, 81, 82, 83, 84, 85, 86, 87, 88, 89, 90, 91, 92, 93, 94, 95, 96, 97, 98, 99, 100, 101, 102, 103, 104, 105] (by decide +kernel) (by decide +kernel)
set_option maxRecDepth 20000 in
theorem gX8_need_X8_wrong : GoodIn wsX8_need (wsV RX8 122 RX8 yX8_wrong wsX8_wrong) := goodIn_app (goodIn_of _ (by decide +kernel)) ggX8_need_X8_wrong
theorem dX8_need_0 : decode cX8_need 0 = .ok (.aload_n 0, 1) := by decide +kernel
theorem dX8_need_1 : decode cX8_need 1 = .ok (.getfield 98, 3) := by decide +kernel
theorem dX8_need_4 : decode cX8_need 4 = .ok (.ifCond .le 4, 3) := by decide +kernel
theorem dX8_need_7 : decode cX8_need 7 = .ok (.return_, 1) := by decide +kernel
theorem dX8_need_8 : decode cX8_need 8 = .ok (.aload_n 0, 1) := by decide +kernel
theorem dX8_need_9 : decode cX8_need 9 = .ok (.aload_n 1, 1) := by decide +kernel
theorem dX8_need_10 : decode cX8_need 10 = .ok (.invokevirtual 118, 3) := by decide +kernel
theorem dX8_need_13 : decode cX8_need 13 = .ok (.ifCond .eq 19, 3) := by decide +kernel
theorem dX8_need_16 : decode cX8_need 16 = .ok (.aload_n 0, 1) := by decide +kernel
theorem dX8_need_17 : decode cX8_need 17 = .ok (.dup, 1) := by decide +kernel
theorem dX8_need_18 : decode cX8_need 18 = .ok (.getfield 91, 3) := by decide +kernel
theorem dX8_need_21 : decode cX8_need 21 = .ok (.aload_n 1, 1) := by decide +kernel
theorem dX8_need_22 : decode cX8_need 22 = .ok (.invokevirtual 104, 3) := by decide +kernel
theorem dX8_need_25 : decode cX8_need 25 = .ok (.iadd, 1) := by decide +kernel
theorem dX8_need_26 : decode cX8_need 26 = .ok (.putfield 91, 3) := by decide +kernel
theorem dX8_need_29 : decode cX8_need 29 = .ok (.goto 12, 3) := by decide +kernel
theorem dX8_need_32 : decode cX8_need 32 = .ok (.aload_n 0, 1) := by decide +kernel
theorem dX8_need_33 : decode cX8_need 33 = .ok (.iconst 1, 1) := by decide +kernel
theorem dX8_need_34 : decode cX8_need 34 = .ok (.aload_n 0, 1) := by decide +kernel
theorem dX8_need_35 : decode cX8_need 35 = .ok (.getfield 91, 3) := by decide +kernel
theorem dX8_need_38 : decode cX8_need 38 = .ok (.invokevirtual 122, 3) := by decide +kernel
theorem dX8_need_41 : decode cX8_need 41 = .ok (.return_, 1) := by decide +kernel
set_option maxRecDepth 20000 in
theorem ggX8_sign_X8_blanks : GoodIn wsX8_sign wsX8_blanks := goodIn_r _ [8, 2, 3, 9, 10, 11, 7, 12, 13, 19, 20, 21, 22, 23, 24, 25, 26, 27, 28, 29, 30, 31, 32, 33, 34, 35, 36, 37, 38, 39, 40, 41, 42, 43, 44, 45, 46, 47, 48, 49] (by decide +kernel) (by decide +kernel)
set_option maxRecDepth 20000 in
theorem gX8_sign_X8_blanks : GoodIn wsX8_sign (wsV RX8 101 RX8 yX8_blanks wsX8_blanks) := goodIn_app (goodIn_of _ (by decide +kernel)) ggX8_sign_X8_blanks
set_option maxRecDepth 20000 in
theorem ggX8_sign_X8_byteAt : GoodIn wsX8_sign wsX8_byteAt := goodIn_r _ [12, 3, 13, 19, 20, 21, 22, 23, 24, 25, 26, 27, 28, 29, 30, 31, 32, 33, 34, 35, 36, 37, 38, 39, 40, 41, 42, 43, 44, 45, 46, 47, 48, 49] (by decide +kernel) (by decide +kernel)
set_option maxRecDepth 20000 in
theorem gX8_sign_X8_byteAt : GoodIn wsX8_sign (wsV RX8 94 RX8 yX8_byteAt wsX8_byteAt) := goodIn_app (goodIn_of _ (by decide +kernel)) ggX8_sign_X8_byteAt
set_option maxRecDepth 20000 in
theorem ggX8_sign_X8_wrong : GoodIn wsX8_sign wsX8_wrong := goodIn_r _ [17, 1, 18, 19, 20, 21, 22, 23, 24, 25, 26, 27, 28, 29, 30, 31, 32, 33, 34, 35, 36, 37, 38, 39, 40, 41, 42, 43, 44, 45, 46, 47, 48, 49] (by decide +kernel) (by decide +kernel)
set_option maxRecDepth 20000 in
theorem gX8_sign_X8_wrong : GoodIn wsX8_sign (wsV RX8 122 RX8 yX8_wrong wsX8_wrong) := goodIn_app (goodIn_of _ (by decide +kernel)) ggX8_sign_X8_wrong
theorem dX8_sign_0 : decode cX8_sign 0 = .ok (.aload_n 0, 1) := by decide +kernel
theorem dX8_sign_1 : decode cX8_sign 1 = .ok (.getfield 98, 3) := by decide +kernel
theorem dX8_sign_4 : decode cX8_sign 4 = .ok (.ifCond .le 4, 3) := by decide +kernel
theorem dX8_sign_7 : decode cX8_sign 7 = .ok (.return_, 1) := by decide +kernel
theorem dX8_sign_8 : decode cX8_sign 8 = .ok (.aload_n 0, 1) := by decide +kernel
theorem dX8_sign_9 : decode cX8_sign 9 = .ok (.invokevirtual 101, 3) := by decide +kernel
theorem dX8_sign_12 : decode cX8_sign 12 = .ok (.aload_n 0, 1) := by decide +kernel
theorem dX8_sign_13 : decode cX8_sign 13 = .ok (.getfield 91, 3) := by decide +kernel
theorem dX8_sign_16 : decode cX8_sign 16 = .ok (.aload_n 0, 1) := by decide +kernel
theorem dX8_sign_17 : decode cX8_sign 17 = .ok (.getfield 88, 3) := by decide +kernel
theorem dX8_sign_20 : decode cX8_sign 20 = .ok (.if_icmp .ge 28, 3) := by decide +kernel
theorem dX8_sign_23 : decode cX8_sign 23 = .ok (.aload_n 0, 1) := by decide +kernel
theorem dX8_sign_24 : decode cX8_sign 24 = .ok (.aload_n 0, 1) := by decide +kernel
theorem dX8_sign_25 : decode cX8_sign 25 = .ok (.getfield 91, 3) := by decide +kernel
theorem dX8_sign_28 : decode cX8_sign 28 = .ok (.invokevirtual 94, 3) := by decide +kernel
theorem dX8_sign_31 : decode cX8_sign 31 = .ok (.iload_n 1, 1) := by decide +kernel
theorem dX8_sign_32 : decode cX8_sign 32 = .ok (.if_icmp .ne 16, 3) := by decide +kernel
theorem dX8_sign_35 : decode cX8_sign 35 = .ok (.aload_n 0, 1) := by decide +kernel
theorem dX8_sign_36 : decode cX8_sign 36 = .ok (.dup, 1) := by decide +kernel
theorem dX8_sign_37 : decode cX8_sign 37 = .ok (.getfield 91, 3) := by decide +kernel
theorem dX8_sign_40 : decode cX8_sign 40 = .ok (.iconst 1, 1) := by decide +kernel
theorem dX8_sign_41 : decode cX8_sign 41 = .ok (.iadd, 1) := by decide +kernel
theorem dX8_sign_42 : decode cX8_sign 42 = .ok (.putfield 91, 3) := by decide +kernel
theorem dX8_sign_45 : decode cX8_sign 45 = .ok (.goto 12, 3) := by decide +kernel
theorem dX8_sign_48 : decode cX8_sign 48 = .ok (.aload_n 0, 1) := by decide +kernel
theorem dX8_sign_49 : decode cX8_sign 49 = .ok (.iconst 1, 1) := by decide +kernel
theorem dX8_sign_50 : decode cX8_sign 50 = .ok (.aload_n 0, 1) := by decide +kernel
theorem dX8_sign_51 : decode cX8_sign 51 = .ok (.getfield 91, 3) := by decide +kernel
theorem dX8_sign_54 : decode cX8_sign 54 = .ok (.invokevirtual 122, 3) := by decide +kernel
theorem dX8_sign_57 : decode cX8_sign 57 = .ok (.return_, 1) := by decide +kernel
set_option maxRecDepth 20000 in
theorem ggX8_number_X8_blanks : GoodIn wsX8_number wsX8_blanks := goodIn_r _ [7, 2, 8, 9, 10, 11, 6, 12, 13, 22, 23, 24, 25, 26, 27, 28, 29, 30, 31, 32, 33, 34, 35, 36, 37, 38, 39, 40, 41, 42, 43, 44, 45, 46, 47, 48, 49, 50, 51, 52] (by decide +kernel) (by decide +kernel)
set_option maxRecDepth 20000 in
theorem gX8_number_X8_blanks : GoodIn wsX8_number (wsV RX8 101 RX8 yX8_blanks wsX8_blanks) := goodIn_app (goodIn_of _ (by decide +kernel)) ggX8_number_X8_blanks
set_option maxRecDepth 20000 in
theorem ggX8_number_X8_byteAt : GoodIn wsX8_number wsX8_byteAt := goodIn_r _ [12, 8, 13, 22, 23, 24, 25, 26, 27, 28, 29, 30, 31, 32, 33, 34, 35, 36, 37, 38, 39, 40, 41, 42, 43, 44, 45, 46, 47, 48, 49, 50, 51, 52] (by decide +kernel) (by decide +kernel)
set_option maxRecDepth 20000 in
theorem gX8_number_X8_byteAt : GoodIn wsX8_number (wsV RX8 94 RX8 yX8_byteAt wsX8_byteAt) := goodIn_app (goodIn_of _ (by decide +kernel)) ggX8_number_X8_byteAt
set_option maxRecDepth 20000 in
theorem ggX8_number_X8_isDigit : GoodIn wsX8_number wsX8_isDigit := goodIn_r _ [16] (by decide +kernel) (by decide +kernel)
set_option maxRecDepth 20000 in
theorem gX8_number_X8_isDigit : GoodIn wsX8_number (va_wsS RX8 126 yX8_isDigit wsX8_isDigit) := goodIn_app (goodIn_of _ (by decide +kernel)) ggX8_number_X8_isDigit
set_option maxRecDepth 20000 in
theorem ggX8_number_X8_wrong : GoodIn wsX8_number wsX8_wrong := goodIn_r _ [20, 1, 21, 22, 23, 24, 25, 26, 27, 28, 29, 30, 31, 32, 33, 34, 35, 36, 37, 38, 39, 40, 41, 42, 43, 44, 45, 46, 47, 48, 49, 50, 51, 52] (by decide +kernel) (by decide +kernel)
set_option maxRecDepth 20000 in
theorem gX8_number_X8_wrong : GoodIn wsX8_number (wsV RX8 122 RX8 yX8_wrong wsX8_wrong) := goodIn_app (goodIn_of _ (by decide +kernel)) ggX8_number_X8_wrong
theorem dX8_number_0 : decode cX8_number 0 = .ok (.aload_n 0, 1) := by decide +kernel
theorem dX8_number_1 : decode cX8_number 1 = .ok (.getfield 98, 3) := by decide +kernel
theorem dX8_number_4 : decode cX8_number 4 = .ok (.ifCond .le 5, 3) := by decide +kernel
theorem dX8_number_7 : decode cX8_number 7 = .ok (.iconst 0, 1) := by decide +kernel
theorem dX8_number_8 : decode cX8_number 8 = .ok (.ireturn, 1) := by decide +kernel
theorem dX8_number_9 : decode cX8_number 9 = .ok (.aload_n 0, 1) := by decide +kernel
theorem dX8_number_10 : decode cX8_number 10 = .ok (.invokevirtual 101, 3) := by decide +kernel
theorem dX8_number_13 : decode cX8_number 13 = .ok (.aload_n 0, 1) := by decide +kernel
theorem dX8_number_14 : decode cX8_number 14 = .ok (.getfield 91, 3) := by decide +kernel
theorem dX8_number_17 : decode cX8_number 17 = .ok (.istore_n 2, 1) := by decide +kernel
theorem dX8_number_18 : decode cX8_number 18 = .ok (.aload_n 0, 1) := by decide +kernel
theorem dX8_number_19 : decode cX8_number 19 = .ok (.aload_n 0, 1) := by decide +kernel
theorem dX8_number_20 : decode cX8_number 20 = .ok (.getfield 91, 3) := by decide +kernel
theorem dX8_number_23 : decode cX8_number 23 = .ok (.invokevirtual 94, 3) := by decide +kernel
theorem dX8_number_26 : decode cX8_number 26 = .ok (.invokestatic 126, 3) := by decide +kernel
theorem dX8_number_29 : decode cX8_number 29 = .ok (.ifCond .ne 14, 3) := by decide +kernel
theorem dX8_number_32 : decode cX8_number 32 = .ok (.aload_n 0, 1) := by decide +kernel
theorem dX8_number_33 : decode cX8_number 33 = .ok (.iconst 1, 1) := by decide +kernel
theorem dX8_number_34 : decode cX8_number 34 = .ok (.aload_n 0, 1) := by decide +kernel
theorem dX8_number_35 : decode cX8_number 35 = .ok (.getfield 91, 3) := by decide +kernel
theorem dX8_number_38 : decode cX8_number 38 = .ok (.invokevirtual 122, 3) := by decide +kernel
theorem dX8_number_41 : decode cX8_number 41 = .ok (.iconst 0, 1) := by decide +kernel
theorem dX8_number_42 : decode cX8_number 42 = .ok (.ireturn, 1) := by decide +kernel
theorem dX8_number_43 : decode cX8_number 43 = .ok (.iconst 0, 1) := by decide +kernel
theorem dX8_number_44 : decode cX8_number 44 = .ok (.istore_n 3, 1) := by decide +kernel
theorem dX8_number_45 : decode cX8_number 45 = .ok (.aload_n 0, 1) := by decide +kernel
theorem dX8_number_46 : decode cX8_number 46 = .ok (.aload_n 0, 1) := by decide +kernel
theorem dX8_number_47 : decode cX8_number 47 = .ok (.getfield 91, 3) := by decide +kernel
theorem dX8_number_50 : decode cX8_number 50 = .ok (.invokevirtual 94, 3) := by decide +kernel
theorem dX8_number_53 : decode cX8_number 53 = .ok (.invokestatic 126, 3) := by decide +kernel
theorem dX8_number_56 : decode cX8_number 56 = .ok (.ifCond .eq 44, 3) := by decide +kernel
theorem dX8_number_59 : decode cX8_number 59 = .ok (.iload_n 3, 1) := by decide +kernel
theorem dX8_number_60 : decode cX8_number 60 = .ok (.sipush 10000, 3) := by decide +kernel
theorem dX8_number_63 : decode cX8_number 63 = .ok (.if_icmp .le 7, 3) := by decide +kernel
theorem dX8_number_66 : decode cX8_number 66 = .ok (.iload_n 3, 1) := by decide +kernel
theorem dX8_number_67 : decode cX8_number 67 = .ok (.goto 19, 3) := by decide +kernel
theorem dX8_number_70 : decode cX8_number 70 = .ok (.bipush 10, 2) := by decide +kernel
theorem dX8_number_72 : decode cX8_number 72 = .ok (.iload_n 3, 1) := by decide +kernel
theorem dX8_number_73 : decode cX8_number 73 = .ok (.imul, 1) := by decide +kernel
theorem dX8_number_74 : decode cX8_number 74 = .ok (.aload_n 0, 1) := by decide +kernel
theorem dX8_number_75 : decode cX8_number 75 = .ok (.aload_n 0, 1) := by decide +kernel
theorem dX8_number_76 : decode cX8_number 76 = .ok (.getfield 91, 3) := by decide +kernel
theorem dX8_number_79 : decode cX8_number 79 = .ok (.invokevirtual 94, 3) := by decide +kernel
theorem dX8_number_82 : decode cX8_number 82 = .ok (.iadd, 1) := by decide +kernel
theorem dX8_number_83 : decode cX8_number 83 = .ok (.bipush 48, 2) := by decide +kernel
theorem dX8_number_85 : decode cX8_number 85 = .ok (.isub, 1) := by decide +kernel
theorem dX8_number_86 : decode cX8_number 86 = .ok (.istore_n 3, 1) := by decide +kernel
theorem dX8_number_87 : decode cX8_number 87 = .ok (.aload_n 0, 1) := by decide +kernel
theorem dX8_number_88 : decode cX8_number 88 = .ok (.dup, 1) := by decide +kernel
theorem dX8_number_89 : decode cX8_number 89 = .ok (.getfield 91, 3) := by decide +kernel
theorem dX8_number_92 : decode cX8_number 92 = .ok (.iconst 1, 1) := by decide +kernel
theorem dX8_number_93 : decode cX8_number 93 = .ok (.iadd, 1) := by decide +kernel
theorem dX8_number_94 : decode cX8_number 94 = .ok (.putfield 91, 3) := by decide +kernel
theorem dX8_number_97 : decode cX8_number 97 = .ok (.goto (-52), 3) := by decide +kernel
theorem dX8_number_100 : decode cX8_number 100 = .ok (.iload_n 3, 1) := by decide +kernel
theorem dX8_number_101 : decode cX8_number 101 = .ok (.iload_n 1, 1) := by decide +kernel
theorem dX8_number_102 : decode cX8_number 102 = .ok (.if_icmp .lt 10, 3) := by decide +kernel
theorem dX8_number_105 : decode cX8_number 105 = .ok (.iload_n 3, 1) := by decide +kernel
theorem dX8_number_106 : decode cX8_number 106 = .ok (.sipush 1000, 3) := by decide +kernel
theorem dX8_number_109 : decode cX8_number 109 = .ok (.if_icmp .le 9, 3) := by decide +kernel
theorem dX8_number_112 : decode cX8_number 112 = .ok (.aload_n 0, 1) := by decide +kernel
theorem dX8_number_113 : decode cX8_number 113 = .ok (.iconst 2, 1) := by decide +kernel
theorem dX8_number_114 : decode cX8_number 114 = .ok (.iload_n 2, 1) := by decide +kernel
theorem dX8_number_115 : decode cX8_number 115 = .ok (.invokevirtual 122, 3) := by decide +kernel
theorem dX8_number_118 : decode cX8_number 118 = .ok (.iload_n 3, 1) := by decide +kernel
theorem dX8_number_119 : decode cX8_number 119 = .ok (.ireturn, 1) := by decide +kernel
set_option maxRecDepth 20000 in
theorem ggX8_clause_X8_isWord : GoodIn wsX8_clause wsX8_isWord := goodIn_r _ [6, 7, 8, 9, 10, 5, 11, 12, 13, 14, 15, 16, 17, 18, 19, 20, 21, 22, 23, 24, 25, 26, 27, 28, 29, 30, 31, 32, 33, 34, 35, 36, 37, 38, 39, 40, 41, 42, 43, 44, 45, 46, 47, 48, 49, 50, 51, 52, 53, 54, 55, 56, 57, 58, 59, 60, 61, 62, 63, 64, 65, 66, 67, 68, 69, 91, 92, 93, 94, 95, 96, 97, 98, 99, 100, 101, 102, 103, 104, 105, 106, 107, 108, 109, 110, 111, 112, 113, 114, 115, 116, 117, 118, 119, 120, 121] (by decide +kernel) (by decide +kernel)
set_option maxRecDepth 20000 in
theorem gX8_clause_X8_isWord : GoodIn wsX8_clause (wsV RX8 118 RX8 yX8_isWord wsX8_isWord) := goodIn_app (goodIn_of _ (by decide +kernel)) ggX8_clause_X8_isWord
set_option maxRecDepth 20000 in
theorem ggX8_clause_X8_need : GoodIn wsX8_clause wsX8_need := goodIn_r _ [73, 74, 7, 2, 3, 4, 5, 6, 8, 9, 10, 11, 12, 13, 14, 15, 16, 17, 18, 19, 20, 21, 22, 23, 24, 25, 26, 27, 28, 29, 30, 31, 32, 33, 34, 35, 36, 37, 38, 39, 40, 41, 42, 43, 44, 45, 46, 47, 48, 49, 50, 51, 52, 53, 54, 55, 56, 57, 58, 59, 60, 61, 62, 63, 64, 65, 66, 67, 68, 69, 75, 76, 77, 78, 79, 91, 92, 93, 94, 95, 96, 97, 98, 99, 100, 101, 102, 103, 104, 105, 106, 107, 108, 109, 110, 111, 112, 113, 114, 115, 116, 117, 118, 119, 120, 121] (by decide +kernel) (by decide +kernel)
set_option maxRecDepth 20000 in
theorem gX8_clause_X8_need : GoodIn wsX8_clause (wsV RX8 131 RX8 yX8_need wsX8_need) := goodIn_app (goodIn_of _ (by decide +kernel)) ggX8_clause_X8_need
set_option maxRecDepth 20000 in
theorem ggX8_clause_X8_number : GoodIn wsX8_clause wsX8_number := goodIn_r _ [83, 74, 7, 8, 9, 10, 5, 11, 12, 13, 14, 15, 16, 17, 84, 85, 86, 75, 76, 77, 78, 79, 91, 92, 93, 94, 95, 96, 97, 98, 99, 100, 101, 102, 103, 104, 105, 106, 107, 108, 109, 110, 111, 112, 113, 114, 115, 116, 117, 118, 119, 120, 121] (by decide +kernel) (by decide +kernel)
set_option maxRecDepth 20000 in
theorem gX8_clause_X8_number : GoodIn wsX8_clause (wsV RX8 135 RX8 yX8_number wsX8_number) := goodIn_app (goodIn_of _ (by decide +kernel)) ggX8_clause_X8_number
set_option maxRecDepth 20000 in
theorem ggX8_clause_X8_sign : GoodIn wsX8_clause wsX8_sign := goodIn_r _ [90, 74, 7, 12, 8, 9, 10, 5, 11, 13, 14, 15, 16, 17, 75, 76, 77, 78, 79, 91, 92, 93, 94, 95, 96, 97, 98, 99, 100, 101, 102, 103, 104, 105, 106, 107, 108, 109, 110, 111, 112, 113, 114, 115, 116, 117, 118, 119, 120, 121] (by decide +kernel) (by decide +kernel)
set_option maxRecDepth 20000 in
theorem gX8_clause_X8_sign : GoodIn wsX8_clause (wsV RX8 138 RX8 yX8_sign wsX8_sign) := goodIn_app (goodIn_of _ (by decide +kernel)) ggX8_clause_X8_sign
theorem dX8_clause_0 : decode cX8_clause 0 = .ok (.aload_n 0, 1) := by decide +kernel
theorem dX8_clause_1 : decode cX8_clause 1 = .ok (.ldc 129, 2) := by decide +kernel
theorem dX8_clause_3 : decode cX8_clause 3 = .ok (.invokevirtual 118, 3) := by decide +kernel
theorem dX8_clause_6 : decode cX8_clause 6 = .ok (.ifCond .eq 69, 3) := by decide +kernel
theorem dX8_clause_9 : decode cX8_clause 9 = .ok (.aload_n 0, 1) := by decide +kernel
theorem dX8_clause_10 : decode cX8_clause 10 = .ok (.ldc 129, 2) := by decide +kernel
theorem dX8_clause_12 : decode cX8_clause 12 = .ok (.invokevirtual 131, 3) := by decide +kernel
theorem dX8_clause_15 : decode cX8_clause 15 = .ok (.aload_n 0, 1) := by decide +kernel
theorem dX8_clause_16 : decode cX8_clause 16 = .ok (.iconst 0, 1) := by decide +kernel
theorem dX8_clause_17 : decode cX8_clause 17 = .ok (.invokevirtual 135, 3) := by decide +kernel
theorem dX8_clause_20 : decode cX8_clause 20 = .ok (.istore_n 2, 1) := by decide +kernel
theorem dX8_clause_21 : decode cX8_clause 21 = .ok (.aload_n 0, 1) := by decide +kernel
theorem dX8_clause_22 : decode cX8_clause 22 = .ok (.bipush 47, 2) := by decide +kernel
theorem dX8_clause_24 : decode cX8_clause 24 = .ok (.invokevirtual 138, 3) := by decide +kernel
theorem dX8_clause_27 : decode cX8_clause 27 = .ok (.aload_n 0, 1) := by decide +kernel
theorem dX8_clause_28 : decode cX8_clause 28 = .ok (.iconst 1, 1) := by decide +kernel
theorem dX8_clause_29 : decode cX8_clause 29 = .ok (.invokevirtual 135, 3) := by decide +kernel
theorem dX8_clause_32 : decode cX8_clause 32 = .ok (.istore_n 3, 1) := by decide +kernel
theorem dX8_clause_33 : decode cX8_clause 33 = .ok (.aload_n 0, 1) := by decide +kernel
theorem dX8_clause_34 : decode cX8_clause 34 = .ok (.ldc 142, 2) := by decide +kernel
theorem dX8_clause_36 : decode cX8_clause 36 = .ok (.invokevirtual 131, 3) := by decide +kernel
theorem dX8_clause_39 : decode cX8_clause 39 = .ok (.aload_n 0, 1) := by decide +kernel
theorem dX8_clause_40 : decode cX8_clause 40 = .ok (.iconst 0, 1) := by decide +kernel
theorem dX8_clause_41 : decode cX8_clause 41 = .ok (.invokevirtual 135, 3) := by decide +kernel
theorem dX8_clause_44 : decode cX8_clause 44 = .ok (.istore 4, 2) := by decide +kernel
theorem dX8_clause_46 : decode cX8_clause 46 = .ok (.aload_n 0, 1) := by decide +kernel
theorem dX8_clause_47 : decode cX8_clause 47 = .ok (.getfield 32, 3) := by decide +kernel
theorem dX8_clause_50 : decode cX8_clause 50 = .ok (.iload_n 1, 1) := by decide +kernel
theorem dX8_clause_51 : decode cX8_clause 51 = .ok (.iload_n 2, 1) := by decide +kernel
theorem dX8_clause_52 : decode cX8_clause 52 = .ok (.iastore, 1) := by decide +kernel
theorem dX8_clause_53 : decode cX8_clause 53 = .ok (.aload_n 0, 1) := by decide +kernel
theorem dX8_clause_54 : decode cX8_clause 54 = .ok (.getfield 32, 3) := by decide +kernel
theorem dX8_clause_57 : decode cX8_clause 57 = .ok (.iload_n 1, 1) := by decide +kernel
theorem dX8_clause_58 : decode cX8_clause 58 = .ok (.iconst 1, 1) := by decide +kernel
theorem dX8_clause_59 : decode cX8_clause 59 = .ok (.iadd, 1) := by decide +kernel
theorem dX8_clause_60 : decode cX8_clause 60 = .ok (.iload_n 3, 1) := by decide +kernel
theorem dX8_clause_61 : decode cX8_clause 61 = .ok (.iastore, 1) := by decide +kernel
theorem dX8_clause_62 : decode cX8_clause 62 = .ok (.aload_n 0, 1) := by decide +kernel
theorem dX8_clause_63 : decode cX8_clause 63 = .ok (.getfield 32, 3) := by decide +kernel
theorem dX8_clause_66 : decode cX8_clause 66 = .ok (.iload_n 1, 1) := by decide +kernel
theorem dX8_clause_67 : decode cX8_clause 67 = .ok (.iconst 2, 1) := by decide +kernel
theorem dX8_clause_68 : decode cX8_clause 68 = .ok (.iadd, 1) := by decide +kernel
theorem dX8_clause_69 : decode cX8_clause 69 = .ok (.iload 4, 2) := by decide +kernel
theorem dX8_clause_71 : decode cX8_clause 71 = .ok (.iastore, 1) := by decide +kernel
theorem dX8_clause_72 : decode cX8_clause 72 = .ok (.goto 76, 3) := by decide +kernel
theorem dX8_clause_75 : decode cX8_clause 75 = .ok (.aload_n 0, 1) := by decide +kernel
theorem dX8_clause_76 : decode cX8_clause 76 = .ok (.ldc 144, 2) := by decide +kernel
theorem dX8_clause_78 : decode cX8_clause 78 = .ok (.invokevirtual 118, 3) := by decide +kernel
theorem dX8_clause_81 : decode cX8_clause 81 = .ok (.ifCond .eq 48, 3) := by decide +kernel
theorem dX8_clause_84 : decode cX8_clause 84 = .ok (.aload_n 0, 1) := by decide +kernel
theorem dX8_clause_85 : decode cX8_clause 85 = .ok (.ldc 144, 2) := by decide +kernel
theorem dX8_clause_87 : decode cX8_clause 87 = .ok (.invokevirtual 131, 3) := by decide +kernel
theorem dX8_clause_90 : decode cX8_clause 90 = .ok (.aload_n 0, 1) := by decide +kernel
theorem dX8_clause_91 : decode cX8_clause 91 = .ok (.iconst 0, 1) := by decide +kernel
theorem dX8_clause_92 : decode cX8_clause 92 = .ok (.invokevirtual 135, 3) := by decide +kernel
theorem dX8_clause_95 : decode cX8_clause 95 = .ok (.istore_n 2, 1) := by decide +kernel
theorem dX8_clause_96 : decode cX8_clause 96 = .ok (.aload_n 0, 1) := by decide +kernel
theorem dX8_clause_97 : decode cX8_clause 97 = .ok (.bipush 47, 2) := by decide +kernel
theorem dX8_clause_99 : decode cX8_clause 99 = .ok (.invokevirtual 138, 3) := by decide +kernel
theorem dX8_clause_102 : decode cX8_clause 102 = .ok (.aload_n 0, 1) := by decide +kernel
theorem dX8_clause_103 : decode cX8_clause 103 = .ok (.iconst 1, 1) := by decide +kernel
theorem dX8_clause_104 : decode cX8_clause 104 = .ok (.invokevirtual 135, 3) := by decide +kernel
theorem dX8_clause_107 : decode cX8_clause 107 = .ok (.istore_n 3, 1) := by decide +kernel
theorem dX8_clause_108 : decode cX8_clause 108 = .ok (.aload_n 0, 1) := by decide +kernel
theorem dX8_clause_109 : decode cX8_clause 109 = .ok (.getfield 32, 3) := by decide +kernel
theorem dX8_clause_112 : decode cX8_clause 112 = .ok (.iload_n 1, 1) := by decide +kernel
theorem dX8_clause_113 : decode cX8_clause 113 = .ok (.iconst 3, 1) := by decide +kernel
theorem dX8_clause_114 : decode cX8_clause 114 = .ok (.iadd, 1) := by decide +kernel
theorem dX8_clause_115 : decode cX8_clause 115 = .ok (.iload_n 2, 1) := by decide +kernel
theorem dX8_clause_116 : decode cX8_clause 116 = .ok (.iastore, 1) := by decide +kernel
theorem dX8_clause_117 : decode cX8_clause 117 = .ok (.aload_n 0, 1) := by decide +kernel
theorem dX8_clause_118 : decode cX8_clause 118 = .ok (.getfield 32, 3) := by decide +kernel
theorem dX8_clause_121 : decode cX8_clause 121 = .ok (.iload_n 1, 1) := by decide +kernel
theorem dX8_clause_122 : decode cX8_clause 122 = .ok (.iconst 4, 1) := by decide +kernel
theorem dX8_clause_123 : decode cX8_clause 123 = .ok (.iadd, 1) := by decide +kernel
theorem dX8_clause_124 : decode cX8_clause 124 = .ok (.iload_n 3, 1) := by decide +kernel
theorem dX8_clause_125 : decode cX8_clause 125 = .ok (.iastore, 1) := by decide +kernel
theorem dX8_clause_126 : decode cX8_clause 126 = .ok (.goto 22, 3) := by decide +kernel
theorem dX8_clause_129 : decode cX8_clause 129 = .ok (.aload_n 0, 1) := by decide +kernel
theorem dX8_clause_130 : decode cX8_clause 130 = .ok (.ldc 146, 2) := by decide +kernel
theorem dX8_clause_132 : decode cX8_clause 132 = .ok (.invokevirtual 131, 3) := by decide +kernel
theorem dX8_clause_135 : decode cX8_clause 135 = .ok (.aload_n 0, 1) := by decide +kernel
theorem dX8_clause_136 : decode cX8_clause 136 = .ok (.getfield 32, 3) := by decide +kernel
theorem dX8_clause_139 : decode cX8_clause 139 = .ok (.iload_n 1, 1) := by decide +kernel
theorem dX8_clause_140 : decode cX8_clause 140 = .ok (.iconst 5, 1) := by decide +kernel
theorem dX8_clause_141 : decode cX8_clause 141 = .ok (.iadd, 1) := by decide +kernel
theorem dX8_clause_142 : decode cX8_clause 142 = .ok (.aload_n 0, 1) := by decide +kernel
theorem dX8_clause_143 : decode cX8_clause 143 = .ok (.iconst 0, 1) := by decide +kernel
theorem dX8_clause_144 : decode cX8_clause 144 = .ok (.invokevirtual 135, 3) := by decide +kernel
theorem dX8_clause_147 : decode cX8_clause 147 = .ok (.iastore, 1) := by decide +kernel
theorem dX8_clause_148 : decode cX8_clause 148 = .ok (.aload_n 0, 1) := by decide +kernel
theorem dX8_clause_149 : decode cX8_clause 149 = .ok (.bipush 59, 2) := by decide +kernel
theorem dX8_clause_151 : decode cX8_clause 151 = .ok (.invokevirtual 138, 3) := by decide +kernel
theorem dX8_clause_154 : decode cX8_clause 154 = .ok (.return_, 1) := by decide +kernel
set_option maxRecDepth 20000 in
theorem ggX8_custom_X8_bad : GoodIn wsX8_custom wsX8_bad := goodIn_r _ [14, 1, 103, 104, 105, 106, 107, 108, 109, 110, 111, 112, 113, 114, 115, 116, 117, 118, 119, 120, 121, 122, 123, 124, 125, 126, 127, 128, 129, 130, 131, 132, 133] (by decide +kernel) (by decide +kernel)
set_option maxRecDepth 20000 in
theorem gX8_custom_X8_bad : GoodIn wsX8_custom (wsV RX8 78 RX8 yX8_bad wsX8_bad) := goodIn_app (goodIn_of _ (by decide +kernel)) ggX8_custom_X8_bad
set_option maxRecDepth 20000 in
theorem ggX8_custom_X8_blanks : GoodIn wsX8_custom wsX8_blanks := goodIn_r _ [18, 5, 4, 19, 20, 21, 13, 22, 23, 103, 104, 105, 106, 107, 108, 109, 110, 111, 112, 113, 114, 115, 116, 117, 118, 119, 120, 121, 122, 123, 124, 125, 126, 127, 128, 129, 130, 131, 132, 133] (by decide +kernel) (by decide +kernel)
set_option maxRecDepth 20000 in
theorem gX8_custom_X8_blanks : GoodIn wsX8_custom (wsV RX8 101 RX8 yX8_blanks wsX8_blanks) := goodIn_app (goodIn_of _ (by decide +kernel)) ggX8_custom_X8_blanks
set_option maxRecDepth 20000 in
theorem ggX8_custom_X8_isWord : GoodIn wsX8_custom wsX8_isWord := goodIn_r _ [27, 5, 15, 16, 17, 13, 18, 4, 19, 20, 21, 22, 23, 28, 29, 30, 31, 32, 33, 34, 35, 36, 37, 38, 39, 40, 41, 42, 43, 44, 45, 46, 47, 48, 49, 50, 51, 52, 53, 54, 55, 56, 57, 58, 59, 60, 61, 62, 63, 64, 65, 66, 67, 68, 69, 70, 71, 72, 73, 74, 75, 76, 77, 78, 79, 103, 104, 105, 106, 107, 108, 109, 110, 111, 112, 113, 114, 115, 116, 117, 118, 119, 120, 121, 122, 123, 124, 125, 126, 127, 128, 129, 130, 131, 132, 133] (by decide +kernel) (by decide +kernel)
set_option maxRecDepth 20000 in
theorem gX8_custom_X8_isWord : GoodIn wsX8_custom (wsV RX8 118 RX8 yX8_isWord wsX8_isWord) := goodIn_app (goodIn_of _ (by decide +kernel)) ggX8_custom_X8_isWord
set_option maxRecDepth 20000 in
theorem ggX8_custom_X8_wrong : GoodIn wsX8_custom wsX8_wrong := goodIn_r _ [83, 6, 7, 103, 104, 105, 106, 107, 108, 109, 110, 111, 112, 113, 114, 115, 116, 117, 118, 119, 120, 121, 122, 123, 124, 125, 126, 127, 128, 129, 130, 131, 132, 133] (by decide +kernel) (by decide +kernel)
set_option maxRecDepth 20000 in
theorem gX8_custom_X8_wrong : GoodIn wsX8_custom (wsV RX8 122 RX8 yX8_wrong wsX8_wrong) := goodIn_app (goodIn_of _ (by decide +kernel)) ggX8_custom_X8_wrong
set_option maxRecDepth 20000 in
theorem ggX8_custom_X8_clause : GoodIn wsX8_custom wsX8_clause := goodIn_r _ [87, 8, 24, 25, 26, 13, 27, 5, 15, 16, 17, 18, 4, 19, 20, 21, 22, 23, 28, 29, 30, 31, 32, 33, 34, 35, 36, 37, 38, 39, 40, 41, 42, 43, 44, 45, 46, 47, 48, 49, 50, 51, 52, 53, 54, 55, 56, 57, 58, 59, 60, 61, 62, 63, 64, 65, 66, 67, 68, 69, 70, 71, 72, 73, 74, 75, 76, 77, 78, 79, 88, 89, 90, 91, 6, 80, 81, 82, 83, 7, 92, 93, 94, 95, 96, 97, 98, 99, 100, 101, 102, 103, 104, 105, 106, 107, 108, 109, 110, 111, 112, 113, 114, 115, 116, 117, 118, 119, 120, 121, 122, 123, 124, 125, 126, 127, 128, 129, 130, 131, 132, 133] (by decide +kernel) (by decide +kernel)
set_option maxRecDepth 20000 in
theorem gX8_custom_X8_clause : GoodIn wsX8_custom (wsV RX8 151 RX8 yX8_clause wsX8_clause) := goodIn_app (goodIn_of _ (by decide +kernel)) ggX8_custom_X8_clause
theorem dX8_custom_0 : decode cX8_custom 0 = .ok (.aload_n 0, 1) := by decide +kernel
theorem dX8_custom_1 : decode cX8_custom 1 = .ok (.iconst 0, 1) := by decide +kernel
theorem dX8_custom_2 : decode cX8_custom 2 = .ok (.putfield 74, 3) := by decide +kernel
theorem dX8_custom_5 : decode cX8_custom 5 = .ok (.aload_n 0, 1) := by decide +kernel
theorem dX8_custom_6 : decode cX8_custom 6 = .ok (.iload_n 1, 1) := by decide +kernel
theorem dX8_custom_7 : decode cX8_custom 7 = .ok (.ifCond .lt 22, 3) := by decide +kernel
theorem dX8_custom_10 : decode cX8_custom 10 = .ok (.iload_n 1, 1) := by decide +kernel
theorem dX8_custom_11 : decode cX8_custom 11 = .ok (.aload_n 0, 1) := by decide +kernel
theorem dX8_custom_12 : decode cX8_custom 12 = .ok (.getfield 85, 3) := by decide +kernel
theorem dX8_custom_15 : decode cX8_custom 15 = .ok (.if_icmp .gt 14, 3) := by decide +kernel
theorem dX8_custom_18 : decode cX8_custom 18 = .ok (.iload_n 2, 1) := by decide +kernel
theorem dX8_custom_19 : decode cX8_custom 19 = .ok (.ifCond .lt 10, 3) := by decide +kernel
theorem dX8_custom_22 : decode cX8_custom 22 = .ok (.iload_n 2, 1) := by decide +kernel
theorem dX8_custom_23 : decode cX8_custom 23 = .ok (.sipush 1000, 3) := by decide +kernel
theorem dX8_custom_26 : decode cX8_custom 26 = .ok (.if_icmp .le 7, 3) := by decide +kernel
theorem dX8_custom_29 : decode cX8_custom 29 = .ok (.iconst 1, 1) := by decide +kernel
theorem dX8_custom_30 : decode cX8_custom 30 = .ok (.goto 4, 3) := by decide +kernel
theorem dX8_custom_33 : decode cX8_custom 33 = .ok (.iconst 0, 1) := by decide +kernel
theorem dX8_custom_34 : decode cX8_custom 34 = .ok (.iconst 1, 1) := by decide +kernel
theorem dX8_custom_35 : decode cX8_custom 35 = .ok (.invokevirtual 78, 3) := by decide +kernel
theorem dX8_custom_38 : decode cX8_custom 38 = .ok (.ifCond .ne 25, 3) := by decide +kernel
theorem dX8_custom_41 : decode cX8_custom 41 = .ok (.aload_n 0, 1) := by decide +kernel
theorem dX8_custom_42 : decode cX8_custom 42 = .ok (.aload_n 0, 1) := by decide +kernel
theorem dX8_custom_43 : decode cX8_custom 43 = .ok (.getfield 148, 3) := by decide +kernel
theorem dX8_custom_46 : decode cX8_custom 46 = .ok (.bipush 20, 2) := by decide +kernel
theorem dX8_custom_48 : decode cX8_custom 48 = .ok (.if_icmp .ne 7, 3) := by decide +kernel
theorem dX8_custom_51 : decode cX8_custom 51 = .ok (.iconst 1, 1) := by decide +kernel
theorem dX8_custom_52 : decode cX8_custom 52 = .ok (.goto 4, 3) := by decide +kernel
theorem dX8_custom_55 : decode cX8_custom 55 = .ok (.iconst 0, 1) := by decide +kernel
theorem dX8_custom_56 : decode cX8_custom 56 = .ok (.iconst 2, 1) := by decide +kernel
theorem dX8_custom_57 : decode cX8_custom 57 = .ok (.invokevirtual 78, 3) := by decide +kernel
theorem dX8_custom_60 : decode cX8_custom 60 = .ok (.ifCond .eq 5, 3) := by decide +kernel
theorem dX8_custom_63 : decode cX8_custom 63 = .ok (.iconst 0, 1) := by decide +kernel
theorem dX8_custom_64 : decode cX8_custom 64 = .ok (.ireturn, 1) := by decide +kernel
theorem dX8_custom_65 : decode cX8_custom 65 = .ok (.aload_n 0, 1) := by decide +kernel
theorem dX8_custom_66 : decode cX8_custom 66 = .ok (.iload_n 1, 1) := by decide +kernel
theorem dX8_custom_67 : decode cX8_custom 67 = .ok (.putfield 88, 3) := by decide +kernel
theorem dX8_custom_70 : decode cX8_custom 70 = .ok (.aload_n 0, 1) := by decide +kernel
theorem dX8_custom_71 : decode cX8_custom 71 = .ok (.iconst 0, 1) := by decide +kernel
theorem dX8_custom_72 : decode cX8_custom 72 = .ok (.putfield 85, 3) := by decide +kernel
theorem dX8_custom_75 : decode cX8_custom 75 = .ok (.aload_n 0, 1) := by decide +kernel
theorem dX8_custom_76 : decode cX8_custom 76 = .ok (.iconst 0, 1) := by decide +kernel
theorem dX8_custom_77 : decode cX8_custom 77 = .ok (.putfield 91, 3) := by decide +kernel
theorem dX8_custom_80 : decode cX8_custom 80 = .ok (.aload_n 0, 1) := by decide +kernel
theorem dX8_custom_81 : decode cX8_custom 81 = .ok (.iconst 0, 1) := by decide +kernel
theorem dX8_custom_82 : decode cX8_custom 82 = .ok (.putfield 98, 3) := by decide +kernel
theorem dX8_custom_85 : decode cX8_custom 85 = .ok (.aload_n 0, 1) := by decide +kernel
theorem dX8_custom_86 : decode cX8_custom 86 = .ok (.iconst (-1), 1) := by decide +kernel
theorem dX8_custom_87 : decode cX8_custom 87 = .ok (.putfield 25, 3) := by decide +kernel
theorem dX8_custom_90 : decode cX8_custom 90 = .ok (.bipush 6, 2) := by decide +kernel
theorem dX8_custom_92 : decode cX8_custom 92 = .ok (.aload_n 0, 1) := by decide +kernel
theorem dX8_custom_93 : decode cX8_custom 93 = .ok (.getfield 148, 3) := by decide +kernel
theorem dX8_custom_96 : decode cX8_custom 96 = .ok (.imul, 1) := by decide +kernel
theorem dX8_custom_97 : decode cX8_custom 97 = .ok (.istore_n 3, 1) := by decide +kernel
theorem dX8_custom_98 : decode cX8_custom 98 = .ok (.iconst 0, 1) := by decide +kernel
theorem dX8_custom_99 : decode cX8_custom 99 = .ok (.istore 4, 2) := by decide +kernel
theorem dX8_custom_101 : decode cX8_custom 101 = .ok (.iload 4, 2) := by decide +kernel
theorem dX8_custom_103 : decode cX8_custom 103 = .ok (.bipush 6, 2) := by decide +kernel
theorem dX8_custom_105 : decode cX8_custom 105 = .ok (.if_icmp .ge 19, 3) := by decide +kernel
theorem dX8_custom_108 : decode cX8_custom 108 = .ok (.aload_n 0, 1) := by decide +kernel
theorem dX8_custom_109 : decode cX8_custom 109 = .ok (.getfield 32, 3) := by decide +kernel
theorem dX8_custom_112 : decode cX8_custom 112 = .ok (.iload_n 3, 1) := by decide +kernel
theorem dX8_custom_113 : decode cX8_custom 113 = .ok (.iload 4, 2) := by decide +kernel
theorem dX8_custom_115 : decode cX8_custom 115 = .ok (.iadd, 1) := by decide +kernel
theorem dX8_custom_116 : decode cX8_custom 116 = .ok (.iconst 0, 1) := by decide +kernel
theorem dX8_custom_117 : decode cX8_custom 117 = .ok (.iastore, 1) := by decide +kernel
theorem dX8_custom_118 : decode cX8_custom 118 = .ok (.iinc 4 1, 3) := by decide +kernel
theorem dX8_custom_121 : decode cX8_custom 121 = .ok (.goto (-20), 3) := by decide +kernel
theorem dX8_custom_124 : decode cX8_custom 124 = .ok (.iconst 0, 1) := by decide +kernel
theorem dX8_custom_125 : decode cX8_custom 125 = .ok (.istore 4, 2) := by decide +kernel
theorem dX8_custom_127 : decode cX8_custom 127 = .ok (.aload_n 0, 1) := by decide +kernel
theorem dX8_custom_128 : decode cX8_custom 128 = .ok (.invokevirtual 101, 3) := by decide +kernel
theorem dX8_custom_131 : decode cX8_custom 131 = .ok (.aload_n 0, 1) := by decide +kernel
theorem dX8_custom_132 : decode cX8_custom 132 = .ok (.getfield 98, 3) := by decide +kernel
theorem dX8_custom_135 : decode cX8_custom 135 = .ok (.ifCond .ne 91, 3) := by decide +kernel
theorem dX8_custom_138 : decode cX8_custom 138 = .ok (.aload_n 0, 1) := by decide +kernel
theorem dX8_custom_139 : decode cX8_custom 139 = .ok (.getfield 91, 3) := by decide +kernel
theorem dX8_custom_142 : decode cX8_custom 142 = .ok (.aload_n 0, 1) := by decide +kernel
theorem dX8_custom_143 : decode cX8_custom 143 = .ok (.getfield 88, 3) := by decide +kernel
theorem dX8_custom_146 : decode cX8_custom 146 = .ok (.if_icmp .ge 80, 3) := by decide +kernel
theorem dX8_custom_149 : decode cX8_custom 149 = .ok (.aload_n 0, 1) := by decide +kernel
theorem dX8_custom_150 : decode cX8_custom 150 = .ok (.ldc 129, 2) := by decide +kernel
theorem dX8_custom_152 : decode cX8_custom 152 = .ok (.invokevirtual 118, 3) := by decide +kernel
theorem dX8_custom_155 : decode cX8_custom 155 = .ok (.ifCond .ne 21, 3) := by decide +kernel
theorem dX8_custom_158 : decode cX8_custom 158 = .ok (.aload_n 0, 1) := by decide +kernel
theorem dX8_custom_159 : decode cX8_custom 159 = .ok (.ldc 144, 2) := by decide +kernel
theorem dX8_custom_161 : decode cX8_custom 161 = .ok (.invokevirtual 118, 3) := by decide +kernel
theorem dX8_custom_164 : decode cX8_custom 164 = .ok (.ifCond .ne 12, 3) := by decide +kernel
theorem dX8_custom_167 : decode cX8_custom 167 = .ok (.aload_n 0, 1) := by decide +kernel
theorem dX8_custom_168 : decode cX8_custom 168 = .ok (.ldc 146, 2) := by decide +kernel
theorem dX8_custom_170 : decode cX8_custom 170 = .ok (.invokevirtual 118, 3) := by decide +kernel
theorem dX8_custom_173 : decode cX8_custom 173 = .ok (.ifCond .eq 7, 3) := by decide +kernel
theorem dX8_custom_176 : decode cX8_custom 176 = .ok (.iconst 1, 1) := by decide +kernel
theorem dX8_custom_177 : decode cX8_custom 177 = .ok (.goto 4, 3) := by decide +kernel
theorem dX8_custom_180 : decode cX8_custom 180 = .ok (.iconst 0, 1) := by decide +kernel
theorem dX8_custom_181 : decode cX8_custom 181 = .ok (.istore 5, 2) := by decide +kernel
theorem dX8_custom_183 : decode cX8_custom 183 = .ok (.iload 4, 2) := by decide +kernel
theorem dX8_custom_185 : decode cX8_custom 185 = .ok (.bipush 8, 2) := by decide +kernel
theorem dX8_custom_187 : decode cX8_custom 187 = .ok (.if_icmp .ne 24, 3) := by decide +kernel
theorem dX8_custom_190 : decode cX8_custom 190 = .ok (.aload_n 0, 1) := by decide +kernel
theorem dX8_custom_191 : decode cX8_custom 191 = .ok (.iload 5, 2) := by decide +kernel
theorem dX8_custom_193 : decode cX8_custom 193 = .ok (.ifCond .eq 7, 3) := by decide +kernel
theorem dX8_custom_196 : decode cX8_custom 196 = .ok (.iconst 3, 1) := by decide +kernel
theorem dX8_custom_197 : decode cX8_custom 197 = .ok (.goto 4, 3) := by decide +kernel
theorem dX8_custom_200 : decode cX8_custom 200 = .ok (.iconst 1, 1) := by decide +kernel
theorem dX8_custom_201 : decode cX8_custom 201 = .ok (.aload_n 0, 1) := by decide +kernel
theorem dX8_custom_202 : decode cX8_custom 202 = .ok (.getfield 91, 3) := by decide +kernel
theorem dX8_custom_205 : decode cX8_custom 205 = .ok (.invokevirtual 122, 3) := by decide +kernel
theorem dX8_custom_208 : decode cX8_custom 208 = .ok (.goto 15, 3) := by decide +kernel
theorem dX8_custom_211 : decode cX8_custom 211 = .ok (.aload_n 0, 1) := by decide +kernel
theorem dX8_custom_212 : decode cX8_custom 212 = .ok (.iload_n 3, 1) := by decide +kernel
theorem dX8_custom_213 : decode cX8_custom 213 = .ok (.invokevirtual 151, 3) := by decide +kernel
theorem dX8_custom_216 : decode cX8_custom 216 = .ok (.iinc 4 1, 3) := by decide +kernel
theorem dX8_custom_219 : decode cX8_custom 219 = .ok (.aload_n 0, 1) := by decide +kernel
theorem dX8_custom_220 : decode cX8_custom 220 = .ok (.invokevirtual 101, 3) := by decide +kernel
theorem dX8_custom_223 : decode cX8_custom 223 = .ok (.goto (-92), 3) := by decide +kernel
theorem dX8_custom_226 : decode cX8_custom 226 = .ok (.aload_n 0, 1) := by decide +kernel
theorem dX8_custom_227 : decode cX8_custom 227 = .ok (.getfield 98, 3) := by decide +kernel
theorem dX8_custom_230 : decode cX8_custom 230 = .ok (.ifCond .le 11, 3) := by decide +kernel
theorem dX8_custom_233 : decode cX8_custom 233 = .ok (.aload_n 0, 1) := by decide +kernel
theorem dX8_custom_234 : decode cX8_custom 234 = .ok (.getfield 98, 3) := by decide +kernel
theorem dX8_custom_237 : decode cX8_custom 237 = .ok (.bipush 10, 2) := by decide +kernel
theorem dX8_custom_239 : decode cX8_custom 239 = .ok (.isub, 1) := by decide +kernel
theorem dX8_custom_240 : decode cX8_custom 240 = .ok (.ireturn, 1) := by decide +kernel
theorem dX8_custom_241 : decode cX8_custom 241 = .ok (.aload_n 0, 1) := by decide +kernel
theorem dX8_custom_242 : decode cX8_custom 242 = .ok (.getfield 29, 3) := by decide +kernel
theorem dX8_custom_245 : decode cX8_custom 245 = .ok (.aload_n 0, 1) := by decide +kernel
theorem dX8_custom_246 : decode cX8_custom 246 = .ok (.getfield 148, 3) := by decide +kernel
theorem dX8_custom_249 : decode cX8_custom 249 = .ok (.iload_n 2, 1) := by decide +kernel
theorem dX8_custom_250 : decode cX8_custom 250 = .ok (.iastore, 1) := by decide +kernel
theorem dX8_custom_251 : decode cX8_custom 251 = .ok (.aload_n 0, 1) := by decide +kernel
theorem dX8_custom_252 : decode cX8_custom 252 = .ok (.dup, 1) := by decide +kernel
theorem dX8_custom_253 : decode cX8_custom 253 = .ok (.getfield 148, 3) := by decide +kernel
theorem dX8_custom_256 : decode cX8_custom 256 = .ok (.iconst 1, 1) := by decide +kernel
theorem dX8_custom_257 : decode cX8_custom 257 = .ok (.iadd, 1) := by decide +kernel
theorem dX8_custom_258 : decode cX8_custom 258 = .ok (.putfield 148, 3) := by decide +kernel
theorem dX8_custom_261 : decode cX8_custom 261 = .ok (.aload_n 0, 1) := by decide +kernel
theorem dX8_custom_262 : decode cX8_custom 262 = .ok (.getfield 148, 3) := by decide +kernel
theorem dX8_custom_265 : decode cX8_custom 265 = .ok (.iconst 1, 1) := by decide +kernel
theorem dX8_custom_266 : decode cX8_custom 266 = .ok (.isub, 1) := by decide +kernel
theorem dX8_custom_267 : decode cX8_custom 267 = .ok (.ireturn, 1) := by decide +kernel
theorem dX8_fault_0 : decode cX8_fault 0 = .ok (.aload_n 0, 1) := by decide +kernel
theorem dX8_fault_1 : decode cX8_fault 1 = .ok (.iconst 0, 1) := by decide +kernel
theorem dX8_fault_2 : decode cX8_fault 2 = .ok (.putfield 74, 3) := by decide +kernel
theorem dX8_fault_5 : decode cX8_fault 5 = .ok (.aload_n 0, 1) := by decide +kernel
theorem dX8_fault_6 : decode cX8_fault 6 = .ok (.getfield 25, 3) := by decide +kernel
theorem dX8_fault_9 : decode cX8_fault 9 = .ok (.ireturn, 1) := by decide +kernel
theorem dX8_forceOf_0 : decode cX8_forceOf 0 = .ok (.iconst (-1), 1) := by decide +kernel
theorem dX8_forceOf_1 : decode cX8_forceOf 1 = .ok (.istore_n 2, 1) := by decide +kernel
theorem dX8_forceOf_2 : decode cX8_forceOf 2 = .ok (.iconst 0, 1) := by decide +kernel
theorem dX8_forceOf_3 : decode cX8_forceOf 3 = .ok (.istore_n 3, 1) := by decide +kernel
theorem dX8_forceOf_4 : decode cX8_forceOf 4 = .ok (.iload_n 3, 1) := by decide +kernel
theorem dX8_forceOf_5 : decode cX8_forceOf 5 = .ok (.aload_n 0, 1) := by decide +kernel
theorem dX8_forceOf_6 : decode cX8_forceOf 6 = .ok (.getfield 148, 3) := by decide +kernel
theorem dX8_forceOf_9 : decode cX8_forceOf 9 = .ok (.if_icmp .ge 40, 3) := by decide +kernel
theorem dX8_forceOf_12 : decode cX8_forceOf 12 = .ok (.aload_n 0, 1) := by decide +kernel
theorem dX8_forceOf_13 : decode cX8_forceOf 13 = .ok (.getfield 29, 3) := by decide +kernel
theorem dX8_forceOf_16 : decode cX8_forceOf 16 = .ok (.iload_n 3, 1) := by decide +kernel
theorem dX8_forceOf_17 : decode cX8_forceOf 17 = .ok (.iaload, 1) := by decide +kernel
theorem dX8_forceOf_18 : decode cX8_forceOf 18 = .ok (.iload_n 1, 1) := by decide +kernel
theorem dX8_forceOf_19 : decode cX8_forceOf 19 = .ok (.if_icmp .gt 24, 3) := by decide +kernel
theorem dX8_forceOf_22 : decode cX8_forceOf 22 = .ok (.iload_n 2, 1) := by decide +kernel
theorem dX8_forceOf_23 : decode cX8_forceOf 23 = .ok (.ifCond .lt 18, 3) := by decide +kernel
theorem dX8_forceOf_26 : decode cX8_forceOf 26 = .ok (.aload_n 0, 1) := by decide +kernel
theorem dX8_forceOf_27 : decode cX8_forceOf 27 = .ok (.getfield 29, 3) := by decide +kernel
theorem dX8_forceOf_30 : decode cX8_forceOf 30 = .ok (.iload_n 3, 1) := by decide +kernel
theorem dX8_forceOf_31 : decode cX8_forceOf 31 = .ok (.iaload, 1) := by decide +kernel
theorem dX8_forceOf_32 : decode cX8_forceOf 32 = .ok (.aload_n 0, 1) := by decide +kernel
theorem dX8_forceOf_33 : decode cX8_forceOf 33 = .ok (.getfield 29, 3) := by decide +kernel
theorem dX8_forceOf_36 : decode cX8_forceOf 36 = .ok (.iload_n 2, 1) := by decide +kernel
theorem dX8_forceOf_37 : decode cX8_forceOf 37 = .ok (.iaload, 1) := by decide +kernel
theorem dX8_forceOf_38 : decode cX8_forceOf 38 = .ok (.if_icmp .lt 5, 3) := by decide +kernel
theorem dX8_forceOf_41 : decode cX8_forceOf 41 = .ok (.iload_n 3, 1) := by decide +kernel
theorem dX8_forceOf_42 : decode cX8_forceOf 42 = .ok (.istore_n 2, 1) := by decide +kernel
theorem dX8_forceOf_43 : decode cX8_forceOf 43 = .ok (.iinc 3 1, 3) := by decide +kernel
theorem dX8_forceOf_46 : decode cX8_forceOf 46 = .ok (.goto (-42), 3) := by decide +kernel
theorem dX8_forceOf_49 : decode cX8_forceOf 49 = .ok (.iload_n 2, 1) := by decide +kernel
theorem dX8_forceOf_50 : decode cX8_forceOf 50 = .ok (.ireturn, 1) := by decide +kernel
set_option maxRecDepth 20000 in
theorem ggX8_force_X8_forceOf : GoodIn wsX8_force wsX8_forceOf := goodIn_r _ [6, 7, 8, 9, 10, 11, 12, 13, 14, 15, 16, 17, 18, 19, 20, 21, 22, 23, 24, 25, 26, 27, 28, 29, 30, 31, 32, 33, 34, 35, 36, 37, 38, 39] (by decide +kernel) (by decide +kernel)
set_option maxRecDepth 20000 in
theorem gX8_force_X8_forceOf : GoodIn wsX8_force (wsV RX8 154 RX8 yX8_forceOf wsX8_forceOf) := goodIn_app (goodIn_of _ (by decide +kernel)) ggX8_force_X8_forceOf
theorem dX8_force_0 : decode cX8_force 0 = .ok (.aload_n 0, 1) := by decide +kernel
theorem dX8_force_1 : decode cX8_force 1 = .ok (.iconst 0, 1) := by decide +kernel
theorem dX8_force_2 : decode cX8_force 2 = .ok (.putfield 74, 3) := by decide +kernel
theorem dX8_force_5 : decode cX8_force 5 = .ok (.aload_n 0, 1) := by decide +kernel
theorem dX8_force_6 : decode cX8_force 6 = .ok (.iload_n 1, 1) := by decide +kernel
theorem dX8_force_7 : decode cX8_force 7 = .ok (.invokevirtual 154, 3) := by decide +kernel
theorem dX8_force_10 : decode cX8_force 10 = .ok (.ireturn, 1) := by decide +kernel
set_option maxRecDepth 20000 in
theorem ggX8_term_X8_forceOf : GoodIn wsX8_term wsX8_forceOf := goodIn_r _ [7, 8, 9, 10, 11, 12, 13, 14, 15, 16, 17, 18, 19, 20, 21, 22, 23, 24, 25, 26, 27, 28, 29, 30, 31, 32, 33, 34, 35, 36, 37, 38, 39, 40] (by decide +kernel) (by decide +kernel)
set_option maxRecDepth 20000 in
theorem gX8_term_X8_forceOf : GoodIn wsX8_term (wsV RX8 154 RX8 yX8_forceOf wsX8_forceOf) := goodIn_app (goodIn_of _ (by decide +kernel)) ggX8_term_X8_forceOf
theorem dX8_term_0 : decode cX8_term 0 = .ok (.aload_n 0, 1) := by decide +kernel
theorem dX8_term_1 : decode cX8_term 1 = .ok (.aload_n 0, 1) := by decide +kernel
theorem dX8_term_2 : decode cX8_term 2 = .ok (.getfield 157, 3) := by decide +kernel
theorem dX8_term_5 : decode cX8_term 5 = .ok (.invokevirtual 154, 3) := by decide +kernel
theorem dX8_term_8 : decode cX8_term 8 = .ok (.istore_n 2, 1) := by decide +kernel
theorem dX8_term_9 : decode cX8_term 9 = .ok (.iload_n 2, 1) := by decide +kernel
theorem dX8_term_10 : decode cX8_term 10 = .ok (.ifCond .ge 7, 3) := by decide +kernel
theorem dX8_term_13 : decode cX8_term 13 = .ok (.iconst 0, 1) := by decide +kernel
theorem dX8_term_14 : decode cX8_term 14 = .ok (.goto 14, 3) := by decide +kernel
theorem dX8_term_17 : decode cX8_term 17 = .ok (.aload_n 0, 1) := by decide +kernel
theorem dX8_term_18 : decode cX8_term 18 = .ok (.getfield 32, 3) := by decide +kernel
theorem dX8_term_21 : decode cX8_term 21 = .ok (.bipush 6, 2) := by decide +kernel
theorem dX8_term_23 : decode cX8_term 23 = .ok (.iload_n 2, 1) := by decide +kernel
theorem dX8_term_24 : decode cX8_term 24 = .ok (.imul, 1) := by decide +kernel
theorem dX8_term_25 : decode cX8_term 25 = .ok (.iload_n 1, 1) := by decide +kernel
theorem dX8_term_26 : decode cX8_term 26 = .ok (.iadd, 1) := by decide +kernel
theorem dX8_term_27 : decode cX8_term 27 = .ok (.iaload, 1) := by decide +kernel
theorem dX8_term_28 : decode cX8_term 28 = .ok (.ireturn, 1) := by decide +kernel
theorem dX8_owe_0 : decode cX8_owe 0 = .ok (.aload_n 0, 1) := by decide +kernel
theorem dX8_owe_1 : decode cX8_owe 1 = .ok (.getfield 35, 3) := by decide +kernel
theorem dX8_owe_4 : decode cX8_owe 4 = .ok (.aload_n 0, 1) := by decide +kernel
theorem dX8_owe_5 : decode cX8_owe 5 = .ok (.getfield 160, 3) := by decide +kernel
theorem dX8_owe_8 : decode cX8_owe 8 = .ok (.iload_n 1, 1) := by decide +kernel
theorem dX8_owe_9 : decode cX8_owe 9 = .ok (.iastore, 1) := by decide +kernel
theorem dX8_owe_10 : decode cX8_owe 10 = .ok (.aload_n 0, 1) := by decide +kernel
theorem dX8_owe_11 : decode cX8_owe 11 = .ok (.getfield 38, 3) := by decide +kernel
theorem dX8_owe_14 : decode cX8_owe 14 = .ok (.aload_n 0, 1) := by decide +kernel
theorem dX8_owe_15 : decode cX8_owe 15 = .ok (.getfield 160, 3) := by decide +kernel
theorem dX8_owe_18 : decode cX8_owe 18 = .ok (.iload_n 2, 1) := by decide +kernel
theorem dX8_owe_19 : decode cX8_owe 19 = .ok (.iastore, 1) := by decide +kernel
theorem dX8_owe_20 : decode cX8_owe 20 = .ok (.aload_n 0, 1) := by decide +kernel
theorem dX8_owe_21 : decode cX8_owe 21 = .ok (.getfield 41, 3) := by decide +kernel
theorem dX8_owe_24 : decode cX8_owe 24 = .ok (.aload_n 0, 1) := by decide +kernel
theorem dX8_owe_25 : decode cX8_owe 25 = .ok (.getfield 160, 3) := by decide +kernel
theorem dX8_owe_28 : decode cX8_owe 28 = .ok (.lload_n 3, 1) := by decide +kernel
theorem dX8_owe_29 : decode cX8_owe 29 = .ok (.lastore, 1) := by decide +kernel
theorem dX8_owe_30 : decode cX8_owe 30 = .ok (.aload_n 0, 1) := by decide +kernel
theorem dX8_owe_31 : decode cX8_owe 31 = .ok (.getfield 44, 3) := by decide +kernel
theorem dX8_owe_34 : decode cX8_owe 34 = .ok (.aload_n 0, 1) := by decide +kernel
theorem dX8_owe_35 : decode cX8_owe 35 = .ok (.getfield 160, 3) := by decide +kernel
theorem dX8_owe_38 : decode cX8_owe 38 = .ok (.iload 5, 2) := by decide +kernel
theorem dX8_owe_40 : decode cX8_owe 40 = .ok (.bastore, 1) := by decide +kernel
theorem dX8_owe_41 : decode cX8_owe 41 = .ok (.aload_n 0, 1) := by decide +kernel
theorem dX8_owe_42 : decode cX8_owe 42 = .ok (.getfield 47, 3) := by decide +kernel
theorem dX8_owe_45 : decode cX8_owe 45 = .ok (.aload_n 0, 1) := by decide +kernel
theorem dX8_owe_46 : decode cX8_owe 46 = .ok (.getfield 160, 3) := by decide +kernel
theorem dX8_owe_49 : decode cX8_owe 49 = .ok (.iload 5, 2) := by decide +kernel
theorem dX8_owe_51 : decode cX8_owe 51 = .ok (.ifCond .eq 7, 3) := by decide +kernel
theorem dX8_owe_54 : decode cX8_owe 54 = .ok (.iconst (-1), 1) := by decide +kernel
theorem dX8_owe_55 : decode cX8_owe 55 = .ok (.goto 5, 3) := by decide +kernel
theorem dX8_owe_58 : decode cX8_owe 58 = .ok (.iload 6, 2) := by decide +kernel
theorem dX8_owe_60 : decode cX8_owe 60 = .ok (.iastore, 1) := by decide +kernel
theorem dX8_owe_61 : decode cX8_owe 61 = .ok (.aload_n 0, 1) := by decide +kernel
theorem dX8_owe_62 : decode cX8_owe 62 = .ok (.dup, 1) := by decide +kernel
theorem dX8_owe_63 : decode cX8_owe 63 = .ok (.getfield 160, 3) := by decide +kernel
theorem dX8_owe_66 : decode cX8_owe 66 = .ok (.iconst 1, 1) := by decide +kernel
theorem dX8_owe_67 : decode cX8_owe 67 = .ok (.iadd, 1) := by decide +kernel
theorem dX8_owe_68 : decode cX8_owe 68 = .ok (.putfield 160, 3) := by decide +kernel
theorem dX8_owe_71 : decode cX8_owe 71 = .ok (.return_, 1) := by decide +kernel
theorem dX8_allOwed_0 : decode cX8_allOwed 0 = .ok (.lconst 0, 1) := by decide +kernel
theorem dX8_allOwed_1 : decode cX8_allOwed 1 = .ok (.lstore_n 3, 1) := by decide +kernel
theorem dX8_allOwed_2 : decode cX8_allOwed 2 = .ok (.iconst 0, 1) := by decide +kernel
theorem dX8_allOwed_3 : decode cX8_allOwed 3 = .ok (.istore 5, 2) := by decide +kernel
theorem dX8_allOwed_5 : decode cX8_allOwed 5 = .ok (.iload 5, 2) := by decide +kernel
theorem dX8_allOwed_7 : decode cX8_allOwed 7 = .ok (.aload_n 0, 1) := by decide +kernel
theorem dX8_allOwed_8 : decode cX8_allOwed 8 = .ok (.getfield 160, 3) := by decide +kernel
theorem dX8_allOwed_11 : decode cX8_allOwed 11 = .ok (.if_icmp .ge 45, 3) := by decide +kernel
theorem dX8_allOwed_14 : decode cX8_allOwed 14 = .ok (.lload_n 3, 1) := by decide +kernel
theorem dX8_allOwed_15 : decode cX8_allOwed 15 = .ok (.aload_n 0, 1) := by decide +kernel
theorem dX8_allOwed_16 : decode cX8_allOwed 16 = .ok (.getfield 35, 3) := by decide +kernel
theorem dX8_allOwed_19 : decode cX8_allOwed 19 = .ok (.iload 5, 2) := by decide +kernel
theorem dX8_allOwed_21 : decode cX8_allOwed 21 = .ok (.iaload, 1) := by decide +kernel
theorem dX8_allOwed_22 : decode cX8_allOwed 22 = .ok (.iload_n 1, 1) := by decide +kernel
theorem dX8_allOwed_23 : decode cX8_allOwed 23 = .ok (.if_icmp .ne 24, 3) := by decide +kernel
theorem dX8_allOwed_26 : decode cX8_allOwed 26 = .ok (.aload_n 0, 1) := by decide +kernel
theorem dX8_allOwed_27 : decode cX8_allOwed 27 = .ok (.getfield 38, 3) := by decide +kernel
theorem dX8_allOwed_30 : decode cX8_allOwed 30 = .ok (.iload 5, 2) := by decide +kernel
theorem dX8_allOwed_32 : decode cX8_allOwed 32 = .ok (.iaload, 1) := by decide +kernel
theorem dX8_allOwed_33 : decode cX8_allOwed 33 = .ok (.iload_n 2, 1) := by decide +kernel
theorem dX8_allOwed_34 : decode cX8_allOwed 34 = .ok (.if_icmp .ne 13, 3) := by decide +kernel
theorem dX8_allOwed_37 : decode cX8_allOwed 37 = .ok (.aload_n 0, 1) := by decide +kernel
theorem dX8_allOwed_38 : decode cX8_allOwed 38 = .ok (.getfield 41, 3) := by decide +kernel
theorem dX8_allOwed_41 : decode cX8_allOwed 41 = .ok (.iload 5, 2) := by decide +kernel
theorem dX8_allOwed_43 : decode cX8_allOwed 43 = .ok (.laload, 1) := by decide +kernel
theorem dX8_allOwed_44 : decode cX8_allOwed 44 = .ok (.goto 4, 3) := by decide +kernel
theorem dX8_allOwed_47 : decode cX8_allOwed 47 = .ok (.lconst 0, 1) := by decide +kernel
theorem dX8_allOwed_48 : decode cX8_allOwed 48 = .ok (.ladd, 1) := by decide +kernel
theorem dX8_allOwed_49 : decode cX8_allOwed 49 = .ok (.lstore_n 3, 1) := by decide +kernel
theorem dX8_allOwed_50 : decode cX8_allOwed 50 = .ok (.iinc 5 1, 3) := by decide +kernel
theorem dX8_allOwed_53 : decode cX8_allOwed 53 = .ok (.goto (-48), 3) := by decide +kernel
theorem dX8_allOwed_56 : decode cX8_allOwed 56 = .ok (.lload_n 3, 1) := by decide +kernel
theorem dX8_allOwed_57 : decode cX8_allOwed 57 = .ok (.lreturn, 1) := by decide +kernel
set_option maxRecDepth 20000 in
theorem ggX8_madeOf_X8_allOwed : GoodIn wsX8_madeOf wsX8_allOwed := goodIn_r _ [6, 7, 8, 9, 10, 23, 24, 25, 26, 27, 28, 29, 30, 31, 32, 33, 34, 35, 36, 37, 38, 39, 40, 41, 42, 43, 44, 45, 46, 47, 48, 49, 50, 51, 52, 53] (by decide +kernel) (by decide +kernel)
set_option maxRecDepth 20000 in
theorem gX8_madeOf_X8_allOwed : GoodIn wsX8_madeOf (wsV RX8 163 RX8 yX8_allOwed wsX8_allOwed) := goodIn_app (goodIn_of _ (by decide +kernel)) ggX8_madeOf_X8_allOwed
set_option maxRecDepth 20000 in
theorem ggX8_madeOf_X8_term : GoodIn wsX8_madeOf wsX8_term := goodIn_r _ [14, 15, 16, 17, 18, 19, 5, 20, 21, 22, 23, 24, 25, 26, 27, 28, 29, 30, 31, 32, 33, 34, 35, 36, 37, 38, 39, 40, 41, 42, 43, 44, 45, 46, 47, 48, 49, 50, 51, 52, 53] (by decide +kernel) (by decide +kernel)
set_option maxRecDepth 20000 in
theorem gX8_madeOf_X8_term : GoodIn wsX8_madeOf (wsV RX8 167 RX8 yX8_term wsX8_term) := goodIn_app (goodIn_of _ (by decide +kernel)) ggX8_madeOf_X8_term
theorem dX8_madeOf_0 : decode cX8_madeOf 0 = .ok (.lload_n 3, 1) := by decide +kernel
theorem dX8_madeOf_1 : decode cX8_madeOf 1 = .ok (.aload_n 0, 1) := by decide +kernel
theorem dX8_madeOf_2 : decode cX8_madeOf 2 = .ok (.iload_n 1, 1) := by decide +kernel
theorem dX8_madeOf_3 : decode cX8_madeOf 3 = .ok (.iload_n 2, 1) := by decide +kernel
theorem dX8_madeOf_4 : decode cX8_madeOf 4 = .ok (.invokevirtual 163, 3) := by decide +kernel
theorem dX8_madeOf_7 : decode cX8_madeOf 7 = .ok (.lsub, 1) := by decide +kernel
theorem dX8_madeOf_8 : decode cX8_madeOf 8 = .ok (.lstore 5, 2) := by decide +kernel
theorem dX8_madeOf_10 : decode cX8_madeOf 10 = .ok (.aload_n 0, 1) := by decide +kernel
theorem dX8_madeOf_11 : decode cX8_madeOf 11 = .ok (.iconst 0, 1) := by decide +kernel
theorem dX8_madeOf_12 : decode cX8_madeOf 12 = .ok (.invokevirtual 167, 3) := by decide +kernel
theorem dX8_madeOf_15 : decode cX8_madeOf 15 = .ok (.istore 7, 2) := by decide +kernel
theorem dX8_madeOf_17 : decode cX8_madeOf 17 = .ok (.aload_n 0, 1) := by decide +kernel
theorem dX8_madeOf_18 : decode cX8_madeOf 18 = .ok (.iconst 1, 1) := by decide +kernel
theorem dX8_madeOf_19 : decode cX8_madeOf 19 = .ok (.invokevirtual 167, 3) := by decide +kernel
theorem dX8_madeOf_22 : decode cX8_madeOf 22 = .ok (.istore 8, 2) := by decide +kernel
theorem dX8_madeOf_24 : decode cX8_madeOf 24 = .ok (.lload 5, 2) := by decide +kernel
theorem dX8_madeOf_26 : decode cX8_madeOf 26 = .ok (.lconst 0, 1) := by decide +kernel
theorem dX8_madeOf_27 : decode cX8_madeOf 27 = .ok (.lcmp, 1) := by decide +kernel
theorem dX8_madeOf_28 : decode cX8_madeOf 28 = .ok (.ifCond .le 8, 3) := by decide +kernel
theorem dX8_madeOf_31 : decode cX8_madeOf 31 = .ok (.iload 8, 2) := by decide +kernel
theorem dX8_madeOf_33 : decode cX8_madeOf 33 = .ok (.ifCond .ne 5, 3) := by decide +kernel
theorem dX8_madeOf_36 : decode cX8_madeOf 36 = .ok (.lconst 0, 1) := by decide +kernel
theorem dX8_madeOf_37 : decode cX8_madeOf 37 = .ok (.lreturn, 1) := by decide +kernel
theorem dX8_madeOf_38 : decode cX8_madeOf 38 = .ok (.lload 5, 2) := by decide +kernel
theorem dX8_madeOf_40 : decode cX8_madeOf 40 = .ok (.iload 7, 2) := by decide +kernel
theorem dX8_madeOf_42 : decode cX8_madeOf 42 = .ok (.i2l, 1) := by decide +kernel
theorem dX8_madeOf_43 : decode cX8_madeOf 43 = .ok (.lmul, 1) := by decide +kernel
theorem dX8_madeOf_44 : decode cX8_madeOf 44 = .ok (.iload 8, 2) := by decide +kernel
theorem dX8_madeOf_46 : decode cX8_madeOf 46 = .ok (.i2l, 1) := by decide +kernel
theorem dX8_madeOf_47 : decode cX8_madeOf 47 = .ok (.ladd, 1) := by decide +kernel
theorem dX8_madeOf_48 : decode cX8_madeOf 48 = .ok (.lconst 1, 1) := by decide +kernel
theorem dX8_madeOf_49 : decode cX8_madeOf 49 = .ok (.lsub, 1) := by decide +kernel
theorem dX8_madeOf_50 : decode cX8_madeOf 50 = .ok (.iload 8, 2) := by decide +kernel
theorem dX8_madeOf_52 : decode cX8_madeOf 52 = .ok (.i2l, 1) := by decide +kernel
theorem dX8_madeOf_53 : decode cX8_madeOf 53 = .ok (.ldiv, 1) := by decide +kernel
theorem dX8_madeOf_54 : decode cX8_madeOf 54 = .ok (.lstore 9, 2) := by decide +kernel
theorem dX8_madeOf_56 : decode cX8_madeOf 56 = .ok (.lload 9, 2) := by decide +kernel
theorem dX8_madeOf_58 : decode cX8_madeOf 58 = .ok (.ldc2_w 170, 3) := by decide +kernel
theorem dX8_madeOf_61 : decode cX8_madeOf 61 = .ok (.lcmp, 1) := by decide +kernel
theorem dX8_madeOf_62 : decode cX8_madeOf 62 = .ok (.ifCond .le 9, 3) := by decide +kernel
theorem dX8_madeOf_65 : decode cX8_madeOf 65 = .ok (.ldc2_w 170, 3) := by decide +kernel
theorem dX8_madeOf_68 : decode cX8_madeOf 68 = .ok (.goto 5, 3) := by decide +kernel
theorem dX8_madeOf_71 : decode cX8_madeOf 71 = .ok (.lload 9, 2) := by decide +kernel
theorem dX8_madeOf_73 : decode cX8_madeOf 73 = .ok (.lreturn, 1) := by decide +kernel
theorem dX8_next_0 : decode cX8_next 0 = .ok (.iconst (-1), 1) := by decide +kernel
theorem dX8_next_1 : decode cX8_next 1 = .ok (.istore_n 3, 1) := by decide +kernel
theorem dX8_next_2 : decode cX8_next 2 = .ok (.iconst 0, 1) := by decide +kernel
theorem dX8_next_3 : decode cX8_next 3 = .ok (.istore 4, 2) := by decide +kernel
theorem dX8_next_5 : decode cX8_next 5 = .ok (.iload 4, 2) := by decide +kernel
theorem dX8_next_7 : decode cX8_next 7 = .ok (.aload_n 0, 1) := by decide +kernel
theorem dX8_next_8 : decode cX8_next 8 = .ok (.getfield 160, 3) := by decide +kernel
theorem dX8_next_11 : decode cX8_next 11 = .ok (.if_icmp .ge 88, 3) := by decide +kernel
theorem dX8_next_14 : decode cX8_next 14 = .ok (.aload_n 0, 1) := by decide +kernel
theorem dX8_next_15 : decode cX8_next 15 = .ok (.getfield 35, 3) := by decide +kernel
theorem dX8_next_18 : decode cX8_next 18 = .ok (.iload 4, 2) := by decide +kernel
theorem dX8_next_20 : decode cX8_next 20 = .ok (.iaload, 1) := by decide +kernel
theorem dX8_next_21 : decode cX8_next 21 = .ok (.iload_n 1, 1) := by decide +kernel
theorem dX8_next_22 : decode cX8_next 22 = .ok (.if_icmp .ne 71, 3) := by decide +kernel
theorem dX8_next_25 : decode cX8_next 25 = .ok (.aload_n 0, 1) := by decide +kernel
theorem dX8_next_26 : decode cX8_next 26 = .ok (.getfield 38, 3) := by decide +kernel
theorem dX8_next_29 : decode cX8_next 29 = .ok (.iload 4, 2) := by decide +kernel
theorem dX8_next_31 : decode cX8_next 31 = .ok (.iaload, 1) := by decide +kernel
theorem dX8_next_32 : decode cX8_next 32 = .ok (.iload_n 2, 1) := by decide +kernel
theorem dX8_next_33 : decode cX8_next 33 = .ok (.if_icmp .ne 60, 3) := by decide +kernel
theorem dX8_next_36 : decode cX8_next 36 = .ok (.aload_n 0, 1) := by decide +kernel
theorem dX8_next_37 : decode cX8_next 37 = .ok (.getfield 41, 3) := by decide +kernel
theorem dX8_next_40 : decode cX8_next 40 = .ok (.iload 4, 2) := by decide +kernel
theorem dX8_next_42 : decode cX8_next 42 = .ok (.laload, 1) := by decide +kernel
theorem dX8_next_43 : decode cX8_next 43 = .ok (.lconst 0, 1) := by decide +kernel
theorem dX8_next_44 : decode cX8_next 44 = .ok (.lcmp, 1) := by decide +kernel
theorem dX8_next_45 : decode cX8_next 45 = .ok (.ifCond .ne 6, 3) := by decide +kernel
theorem dX8_next_48 : decode cX8_next 48 = .ok (.goto 45, 3) := by decide +kernel
theorem dX8_next_51 : decode cX8_next 51 = .ok (.iload_n 3, 1) := by decide +kernel
theorem dX8_next_52 : decode cX8_next 52 = .ok (.ifCond .lt 38, 3) := by decide +kernel
theorem dX8_next_55 : decode cX8_next 55 = .ok (.aload_n 0, 1) := by decide +kernel
theorem dX8_next_56 : decode cX8_next 56 = .ok (.getfield 44, 3) := by decide +kernel
theorem dX8_next_59 : decode cX8_next 59 = .ok (.iload 4, 2) := by decide +kernel
theorem dX8_next_61 : decode cX8_next 61 = .ok (.baload, 1) := by decide +kernel
theorem dX8_next_62 : decode cX8_next 62 = .ok (.ifCond .ne 31, 3) := by decide +kernel
theorem dX8_next_65 : decode cX8_next 65 = .ok (.aload_n 0, 1) := by decide +kernel
theorem dX8_next_66 : decode cX8_next 66 = .ok (.getfield 44, 3) := by decide +kernel
theorem dX8_next_69 : decode cX8_next 69 = .ok (.iload_n 3, 1) := by decide +kernel
theorem dX8_next_70 : decode cX8_next 70 = .ok (.baload, 1) := by decide +kernel
theorem dX8_next_71 : decode cX8_next 71 = .ok (.ifCond .ne 19, 3) := by decide +kernel
theorem dX8_next_74 : decode cX8_next 74 = .ok (.aload_n 0, 1) := by decide +kernel
theorem dX8_next_75 : decode cX8_next 75 = .ok (.getfield 47, 3) := by decide +kernel
theorem dX8_next_78 : decode cX8_next 78 = .ok (.iload 4, 2) := by decide +kernel
theorem dX8_next_80 : decode cX8_next 80 = .ok (.iaload, 1) := by decide +kernel
