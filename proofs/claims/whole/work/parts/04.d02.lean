theorem dX4_side_21 : decode cX4_side 21 = .ok (.iload_n 2, 1) := by decide +kernel
theorem dX4_side_22 : decode cX4_side 22 = .ok (.ishl, 1) := by decide +kernel
theorem dX4_side_23 : decode cX4_side 23 = .ok (.goto 4, 3) := by decide +kernel
theorem dX4_side_26 : decode cX4_side 26 = .ok (.iconst 0, 1) := by decide +kernel
theorem dX4_side_27 : decode cX4_side 27 = .ok (.ior, 1) := by decide +kernel
theorem dX4_side_28 : decode cX4_side 28 = .ok (.istore_n 1, 1) := by decide +kernel
theorem dX4_side_29 : decode cX4_side 29 = .ok (.iinc 2 1, 3) := by decide +kernel
theorem dX4_side_32 : decode cX4_side 32 = .ok (.goto (-28), 3) := by decide +kernel
theorem dX4_side_35 : decode cX4_side 35 = .ok (.iload_n 1, 1) := by decide +kernel
theorem dX4_side_36 : decode cX4_side 36 = .ok (.ireturn, 1) := by decide +kernel
theorem dX4_nearestGiver_0 : decode cX4_nearestGiver 0 = .ok (.iconst 0, 1) := by decide +kernel
theorem dX4_nearestGiver_1 : decode cX4_nearestGiver 1 = .ok (.istore_n 2, 1) := by decide +kernel
theorem dX4_nearestGiver_2 : decode cX4_nearestGiver 2 = .ok (.iload_n 2, 1) := by decide +kernel
theorem dX4_nearestGiver_3 : decode cX4_nearestGiver 3 = .ok (.bipush 12, 2) := by decide +kernel
theorem dX4_nearestGiver_5 : decode cX4_nearestGiver 5 = .ok (.if_icmp .ge 25, 3) := by decide +kernel
theorem dX4_nearestGiver_8 : decode cX4_nearestGiver 8 = .ok (.aload_n 0, 1) := by decide +kernel
theorem dX4_nearestGiver_9 : decode cX4_nearestGiver 9 = .ok (.getfield 20, 3) := by decide +kernel
theorem dX4_nearestGiver_12 : decode cX4_nearestGiver 12 = .ok (.iload_n 2, 1) := by decide +kernel
theorem dX4_nearestGiver_13 : decode cX4_nearestGiver 13 = .ok (.iload_n 2, 1) := by decide +kernel
theorem dX4_nearestGiver_14 : decode cX4_nearestGiver 14 = .ok (.iload_n 1, 1) := by decide +kernel
theorem dX4_nearestGiver_15 : decode cX4_nearestGiver 15 = .ok (.if_icmp .ne 7, 3) := by decide +kernel
theorem dX4_nearestGiver_18 : decode cX4_nearestGiver 18 = .ok (.iconst 1, 1) := by decide +kernel
theorem dX4_nearestGiver_19 : decode cX4_nearestGiver 19 = .ok (.goto 4, 3) := by decide +kernel
theorem dX4_nearestGiver_22 : decode cX4_nearestGiver 22 = .ok (.iconst 0, 1) := by decide +kernel
theorem dX4_nearestGiver_23 : decode cX4_nearestGiver 23 = .ok (.bastore, 1) := by decide +kernel
theorem dX4_nearestGiver_24 : decode cX4_nearestGiver 24 = .ok (.iinc 2 1, 3) := by decide +kernel
theorem dX4_nearestGiver_27 : decode cX4_nearestGiver 27 = .ok (.goto (-25), 3) := by decide +kernel
theorem dX4_nearestGiver_30 : decode cX4_nearestGiver 30 = .ok (.aload_n 0, 1) := by decide +kernel
theorem dX4_nearestGiver_31 : decode cX4_nearestGiver 31 = .ok (.getfield 28, 3) := by decide +kernel
theorem dX4_nearestGiver_34 : decode cX4_nearestGiver 34 = .ok (.iconst 0, 1) := by decide +kernel
theorem dX4_nearestGiver_35 : decode cX4_nearestGiver 35 = .ok (.iload_n 1, 1) := by decide +kernel
theorem dX4_nearestGiver_36 : decode cX4_nearestGiver 36 = .ok (.iastore, 1) := by decide +kernel
theorem dX4_nearestGiver_37 : decode cX4_nearestGiver 37 = .ok (.iconst 1, 1) := by decide +kernel
theorem dX4_nearestGiver_38 : decode cX4_nearestGiver 38 = .ok (.istore_n 2, 1) := by decide +kernel
theorem dX4_nearestGiver_39 : decode cX4_nearestGiver 39 = .ok (.iconst 0, 1) := by decide +kernel
theorem dX4_nearestGiver_40 : decode cX4_nearestGiver 40 = .ok (.istore_n 3, 1) := by decide +kernel
theorem dX4_nearestGiver_41 : decode cX4_nearestGiver 41 = .ok (.iload_n 3, 1) := by decide +kernel
theorem dX4_nearestGiver_42 : decode cX4_nearestGiver 42 = .ok (.bipush 12, 2) := by decide +kernel
theorem dX4_nearestGiver_44 : decode cX4_nearestGiver 44 = .ok (.if_icmp .ge 106, 3) := by decide +kernel
theorem dX4_nearestGiver_47 : decode cX4_nearestGiver 47 = .ok (.iload_n 3, 1) := by decide +kernel
theorem dX4_nearestGiver_48 : decode cX4_nearestGiver 48 = .ok (.iload_n 2, 1) := by decide +kernel
theorem dX4_nearestGiver_49 : decode cX4_nearestGiver 49 = .ok (.if_icmp .ge 101, 3) := by decide +kernel
theorem dX4_nearestGiver_52 : decode cX4_nearestGiver 52 = .ok (.aload_n 0, 1) := by decide +kernel
theorem dX4_nearestGiver_53 : decode cX4_nearestGiver 53 = .ok (.getfield 28, 3) := by decide +kernel
theorem dX4_nearestGiver_56 : decode cX4_nearestGiver 56 = .ok (.iload_n 3, 1) := by decide +kernel
theorem dX4_nearestGiver_57 : decode cX4_nearestGiver 57 = .ok (.iaload, 1) := by decide +kernel
theorem dX4_nearestGiver_58 : decode cX4_nearestGiver 58 = .ok (.istore 4, 2) := by decide +kernel
theorem dX4_nearestGiver_60 : decode cX4_nearestGiver 60 = .ok (.aload_n 0, 1) := by decide +kernel
theorem dX4_nearestGiver_61 : decode cX4_nearestGiver 61 = .ok (.getfield 9, 3) := by decide +kernel
theorem dX4_nearestGiver_64 : decode cX4_nearestGiver 64 = .ok (.iload 4, 2) := by decide +kernel
theorem dX4_nearestGiver_66 : decode cX4_nearestGiver 66 = .ok (.laload, 1) := by decide +kernel
theorem dX4_nearestGiver_67 : decode cX4_nearestGiver 67 = .ok (.lconst 0, 1) := by decide +kernel
theorem dX4_nearestGiver_68 : decode cX4_nearestGiver 68 = .ok (.lcmp, 1) := by decide +kernel
theorem dX4_nearestGiver_69 : decode cX4_nearestGiver 69 = .ok (.ifCond .le 6, 3) := by decide +kernel
theorem dX4_nearestGiver_72 : decode cX4_nearestGiver 72 = .ok (.iload 4, 2) := by decide +kernel
theorem dX4_nearestGiver_74 : decode cX4_nearestGiver 74 = .ok (.ireturn, 1) := by decide +kernel
theorem dX4_nearestGiver_75 : decode cX4_nearestGiver 75 = .ok (.iconst 0, 1) := by decide +kernel
theorem dX4_nearestGiver_76 : decode cX4_nearestGiver 76 = .ok (.istore 5, 2) := by decide +kernel
theorem dX4_nearestGiver_78 : decode cX4_nearestGiver 78 = .ok (.iload 5, 2) := by decide +kernel
theorem dX4_nearestGiver_80 : decode cX4_nearestGiver 80 = .ok (.bipush 12, 2) := by decide +kernel
theorem dX4_nearestGiver_82 : decode cX4_nearestGiver 82 = .ok (.if_icmp .ge 62, 3) := by decide +kernel
theorem dX4_nearestGiver_85 : decode cX4_nearestGiver 85 = .ok (.aload_n 0, 1) := by decide +kernel
theorem dX4_nearestGiver_86 : decode cX4_nearestGiver 86 = .ok (.getfield 20, 3) := by decide +kernel
theorem dX4_nearestGiver_89 : decode cX4_nearestGiver 89 = .ok (.iload 5, 2) := by decide +kernel
theorem dX4_nearestGiver_91 : decode cX4_nearestGiver 91 = .ok (.baload, 1) := by decide +kernel
theorem dX4_nearestGiver_92 : decode cX4_nearestGiver 92 = .ok (.ifCond .ne 46, 3) := by decide +kernel
theorem dX4_nearestGiver_95 : decode cX4_nearestGiver 95 = .ok (.aload_n 0, 1) := by decide +kernel
theorem dX4_nearestGiver_96 : decode cX4_nearestGiver 96 = .ok (.getfield 17, 3) := by decide +kernel
theorem dX4_nearestGiver_99 : decode cX4_nearestGiver 99 = .ok (.iload 5, 2) := by decide +kernel
theorem dX4_nearestGiver_101 : decode cX4_nearestGiver 101 = .ok (.aaload, 1) := by decide +kernel
theorem dX4_nearestGiver_102 : decode cX4_nearestGiver 102 = .ok (.iload 4, 2) := by decide +kernel
theorem dX4_nearestGiver_104 : decode cX4_nearestGiver 104 = .ok (.laload, 1) := by decide +kernel
theorem dX4_nearestGiver_105 : decode cX4_nearestGiver 105 = .ok (.lconst 0, 1) := by decide +kernel
theorem dX4_nearestGiver_106 : decode cX4_nearestGiver 106 = .ok (.lcmp, 1) := by decide +kernel
theorem dX4_nearestGiver_107 : decode cX4_nearestGiver 107 = .ok (.ifCond .le 31, 3) := by decide +kernel
theorem dX4_nearestGiver_110 : decode cX4_nearestGiver 110 = .ok (.aload_n 0, 1) := by decide +kernel
theorem dX4_nearestGiver_111 : decode cX4_nearestGiver 111 = .ok (.getfield 20, 3) := by decide +kernel
theorem dX4_nearestGiver_114 : decode cX4_nearestGiver 114 = .ok (.iload 5, 2) := by decide +kernel
theorem dX4_nearestGiver_116 : decode cX4_nearestGiver 116 = .ok (.iconst 1, 1) := by decide +kernel
theorem dX4_nearestGiver_117 : decode cX4_nearestGiver 117 = .ok (.bastore, 1) := by decide +kernel
theorem dX4_nearestGiver_118 : decode cX4_nearestGiver 118 = .ok (.aload_n 0, 1) := by decide +kernel
theorem dX4_nearestGiver_119 : decode cX4_nearestGiver 119 = .ok (.getfield 24, 3) := by decide +kernel
theorem dX4_nearestGiver_122 : decode cX4_nearestGiver 122 = .ok (.iload 5, 2) := by decide +kernel
theorem dX4_nearestGiver_124 : decode cX4_nearestGiver 124 = .ok (.iload 4, 2) := by decide +kernel
theorem dX4_nearestGiver_126 : decode cX4_nearestGiver 126 = .ok (.iastore, 1) := by decide +kernel
theorem dX4_nearestGiver_127 : decode cX4_nearestGiver 127 = .ok (.aload_n 0, 1) := by decide +kernel
theorem dX4_nearestGiver_128 : decode cX4_nearestGiver 128 = .ok (.getfield 28, 3) := by decide +kernel
theorem dX4_nearestGiver_131 : decode cX4_nearestGiver 131 = .ok (.iload_n 2, 1) := by decide +kernel
theorem dX4_nearestGiver_132 : decode cX4_nearestGiver 132 = .ok (.iload 5, 2) := by decide +kernel
theorem dX4_nearestGiver_134 : decode cX4_nearestGiver 134 = .ok (.iastore, 1) := by decide +kernel
theorem dX4_nearestGiver_135 : decode cX4_nearestGiver 135 = .ok (.iinc 2 1, 3) := by decide +kernel
theorem dX4_nearestGiver_138 : decode cX4_nearestGiver 138 = .ok (.iinc 5 1, 3) := by decide +kernel
theorem dX4_nearestGiver_141 : decode cX4_nearestGiver 141 = .ok (.goto (-63), 3) := by decide +kernel
theorem dX4_nearestGiver_144 : decode cX4_nearestGiver 144 = .ok (.iinc 3 1, 3) := by decide +kernel
theorem dX4_nearestGiver_147 : decode cX4_nearestGiver 147 = .ok (.goto (-106), 3) := by decide +kernel
theorem dX4_nearestGiver_150 : decode cX4_nearestGiver 150 = .ok (.iconst (-1), 1) := by decide +kernel
theorem dX4_nearestGiver_151 : decode cX4_nearestGiver 151 = .ok (.ireturn, 1) := by decide +kernel
theorem dX4_handOn_0 : decode cX4_handOn 0 = .ok (.aload_n 0, 1) := by decide +kernel
theorem dX4_handOn_1 : decode cX4_handOn 1 = .ok (.getfield 9, 3) := by decide +kernel
theorem dX4_handOn_4 : decode cX4_handOn 4 = .ok (.iload_n 1, 1) := by decide +kernel
theorem dX4_handOn_5 : decode cX4_handOn 5 = .ok (.laload, 1) := by decide +kernel
theorem dX4_handOn_6 : decode cX4_handOn 6 = .ok (.lstore_n 3, 1) := by decide +kernel
theorem dX4_handOn_7 : decode cX4_handOn 7 = .ok (.iload_n 1, 1) := by decide +kernel
theorem dX4_handOn_8 : decode cX4_handOn 8 = .ok (.istore 5, 2) := by decide +kernel
theorem dX4_handOn_10 : decode cX4_handOn 10 = .ok (.iconst 0, 1) := by decide +kernel
theorem dX4_handOn_11 : decode cX4_handOn 11 = .ok (.istore 6, 2) := by decide +kernel
theorem dX4_handOn_13 : decode cX4_handOn 13 = .ok (.iload 6, 2) := by decide +kernel
theorem dX4_handOn_15 : decode cX4_handOn 15 = .ok (.bipush 12, 2) := by decide +kernel
theorem dX4_handOn_17 : decode cX4_handOn 17 = .ok (.if_icmp .ge 44, 3) := by decide +kernel
theorem dX4_handOn_20 : decode cX4_handOn 20 = .ok (.iload 5, 2) := by decide +kernel
theorem dX4_handOn_22 : decode cX4_handOn 22 = .ok (.iload_n 2, 1) := by decide +kernel
theorem dX4_handOn_23 : decode cX4_handOn 23 = .ok (.if_icmp .eq 38, 3) := by decide +kernel
theorem dX4_handOn_26 : decode cX4_handOn 26 = .ok (.lload_n 3, 1) := by decide +kernel
theorem dX4_handOn_27 : decode cX4_handOn 27 = .ok (.aload_n 0, 1) := by decide +kernel
theorem dX4_handOn_28 : decode cX4_handOn 28 = .ok (.getfield 17, 3) := by decide +kernel
theorem dX4_handOn_31 : decode cX4_handOn 31 = .ok (.iload 5, 2) := by decide +kernel
theorem dX4_handOn_33 : decode cX4_handOn 33 = .ok (.aaload, 1) := by decide +kernel
theorem dX4_handOn_34 : decode cX4_handOn 34 = .ok (.aload_n 0, 1) := by decide +kernel
theorem dX4_handOn_35 : decode cX4_handOn 35 = .ok (.getfield 24, 3) := by decide +kernel
theorem dX4_handOn_38 : decode cX4_handOn 38 = .ok (.iload 5, 2) := by decide +kernel
theorem dX4_handOn_40 : decode cX4_handOn 40 = .ok (.iaload, 1) := by decide +kernel
theorem dX4_handOn_41 : decode cX4_handOn 41 = .ok (.laload, 1) := by decide +kernel
theorem dX4_handOn_42 : decode cX4_handOn 42 = .ok (.invokestatic 66, 3) := by decide +kernel
theorem dX4_handOn_45 : decode cX4_handOn 45 = .ok (.lstore_n 3, 1) := by decide +kernel
theorem dX4_handOn_46 : decode cX4_handOn 46 = .ok (.aload_n 0, 1) := by decide +kernel
theorem dX4_handOn_47 : decode cX4_handOn 47 = .ok (.getfield 24, 3) := by decide +kernel
theorem dX4_handOn_50 : decode cX4_handOn 50 = .ok (.iload 5, 2) := by decide +kernel
theorem dX4_handOn_52 : decode cX4_handOn 52 = .ok (.iaload, 1) := by decide +kernel
theorem dX4_handOn_53 : decode cX4_handOn 53 = .ok (.istore 5, 2) := by decide +kernel
theorem dX4_handOn_55 : decode cX4_handOn 55 = .ok (.iinc 6 1, 3) := by decide +kernel
theorem dX4_handOn_58 : decode cX4_handOn 58 = .ok (.goto (-45), 3) := by decide +kernel
theorem dX4_handOn_61 : decode cX4_handOn 61 = .ok (.aload_n 0, 1) := by decide +kernel
theorem dX4_handOn_62 : decode cX4_handOn 62 = .ok (.getfield 9, 3) := by decide +kernel
theorem dX4_handOn_65 : decode cX4_handOn 65 = .ok (.iload_n 1, 1) := by decide +kernel
theorem dX4_handOn_66 : decode cX4_handOn 66 = .ok (.dup2, 1) := by decide +kernel
theorem dX4_handOn_67 : decode cX4_handOn 67 = .ok (.laload, 1) := by decide +kernel
theorem dX4_handOn_68 : decode cX4_handOn 68 = .ok (.lload_n 3, 1) := by decide +kernel
theorem dX4_handOn_69 : decode cX4_handOn 69 = .ok (.lsub, 1) := by decide +kernel
theorem dX4_handOn_70 : decode cX4_handOn 70 = .ok (.lastore, 1) := by decide +kernel
theorem dX4_handOn_71 : decode cX4_handOn 71 = .ok (.iload_n 1, 1) := by decide +kernel
theorem dX4_handOn_72 : decode cX4_handOn 72 = .ok (.istore 5, 2) := by decide +kernel
theorem dX4_handOn_74 : decode cX4_handOn 74 = .ok (.iconst 0, 1) := by decide +kernel
theorem dX4_handOn_75 : decode cX4_handOn 75 = .ok (.istore 6, 2) := by decide +kernel
theorem dX4_handOn_77 : decode cX4_handOn 77 = .ok (.iload 6, 2) := by decide +kernel
theorem dX4_handOn_79 : decode cX4_handOn 79 = .ok (.bipush 12, 2) := by decide +kernel
theorem dX4_handOn_81 : decode cX4_handOn 81 = .ok (.if_icmp .ge 62, 3) := by decide +kernel
theorem dX4_handOn_84 : decode cX4_handOn 84 = .ok (.iload 5, 2) := by decide +kernel
theorem dX4_handOn_86 : decode cX4_handOn 86 = .ok (.iload_n 2, 1) := by decide +kernel
theorem dX4_handOn_87 : decode cX4_handOn 87 = .ok (.if_icmp .eq 56, 3) := by decide +kernel
theorem dX4_handOn_90 : decode cX4_handOn 90 = .ok (.aload_n 0, 1) := by decide +kernel
theorem dX4_handOn_91 : decode cX4_handOn 91 = .ok (.getfield 17, 3) := by decide +kernel
theorem dX4_handOn_94 : decode cX4_handOn 94 = .ok (.iload 5, 2) := by decide +kernel
theorem dX4_handOn_96 : decode cX4_handOn 96 = .ok (.aaload, 1) := by decide +kernel
theorem dX4_handOn_97 : decode cX4_handOn 97 = .ok (.aload_n 0, 1) := by decide +kernel
theorem dX4_handOn_98 : decode cX4_handOn 98 = .ok (.getfield 24, 3) := by decide +kernel
theorem dX4_handOn_101 : decode cX4_handOn 101 = .ok (.iload 5, 2) := by decide +kernel
theorem dX4_handOn_103 : decode cX4_handOn 103 = .ok (.iaload, 1) := by decide +kernel
theorem dX4_handOn_104 : decode cX4_handOn 104 = .ok (.dup2, 1) := by decide +kernel
theorem dX4_handOn_105 : decode cX4_handOn 105 = .ok (.laload, 1) := by decide +kernel
theorem dX4_handOn_106 : decode cX4_handOn 106 = .ok (.lload_n 3, 1) := by decide +kernel
theorem dX4_handOn_107 : decode cX4_handOn 107 = .ok (.lsub, 1) := by decide +kernel
theorem dX4_handOn_108 : decode cX4_handOn 108 = .ok (.lastore, 1) := by decide +kernel
theorem dX4_handOn_109 : decode cX4_handOn 109 = .ok (.aload_n 0, 1) := by decide +kernel
theorem dX4_handOn_110 : decode cX4_handOn 110 = .ok (.getfield 17, 3) := by decide +kernel
theorem dX4_handOn_113 : decode cX4_handOn 113 = .ok (.aload_n 0, 1) := by decide +kernel
theorem dX4_handOn_114 : decode cX4_handOn 114 = .ok (.getfield 24, 3) := by decide +kernel
theorem dX4_handOn_117 : decode cX4_handOn 117 = .ok (.iload 5, 2) := by decide +kernel
theorem dX4_handOn_119 : decode cX4_handOn 119 = .ok (.iaload, 1) := by decide +kernel
theorem dX4_handOn_120 : decode cX4_handOn 120 = .ok (.aaload, 1) := by decide +kernel
theorem dX4_handOn_121 : decode cX4_handOn 121 = .ok (.iload 5, 2) := by decide +kernel
theorem dX4_handOn_123 : decode cX4_handOn 123 = .ok (.dup2, 1) := by decide +kernel
theorem dX4_handOn_124 : decode cX4_handOn 124 = .ok (.laload, 1) := by decide +kernel
theorem dX4_handOn_125 : decode cX4_handOn 125 = .ok (.lload_n 3, 1) := by decide +kernel
theorem dX4_handOn_126 : decode cX4_handOn 126 = .ok (.ladd, 1) := by decide +kernel
theorem dX4_handOn_127 : decode cX4_handOn 127 = .ok (.lastore, 1) := by decide +kernel
theorem dX4_handOn_128 : decode cX4_handOn 128 = .ok (.aload_n 0, 1) := by decide +kernel
theorem dX4_handOn_129 : decode cX4_handOn 129 = .ok (.getfield 24, 3) := by decide +kernel
theorem dX4_handOn_132 : decode cX4_handOn 132 = .ok (.iload 5, 2) := by decide +kernel
theorem dX4_handOn_134 : decode cX4_handOn 134 = .ok (.iaload, 1) := by decide +kernel
theorem dX4_handOn_135 : decode cX4_handOn 135 = .ok (.istore 5, 2) := by decide +kernel
theorem dX4_handOn_137 : decode cX4_handOn 137 = .ok (.iinc 6 1, 3) := by decide +kernel
theorem dX4_handOn_140 : decode cX4_handOn 140 = .ok (.goto (-63), 3) := by decide +kernel
theorem dX4_handOn_143 : decode cX4_handOn 143 = .ok (.lload_n 3, 1) := by decide +kernel
theorem dX4_handOn_144 : decode cX4_handOn 144 = .ok (.lreturn, 1) := by decide +kernel
theorem dX5_init_0 : decode cX5_init 0 = .ok (.aload_n 0, 1) := by decide +kernel
theorem dX5_init_1 : decode cX5_init 1 = .ok (.invokespecial 3, 3) := by decide +kernel
theorem dX5_init_4 : decode cX5_init 4 = .ok (.aload_n 0, 1) := by decide +kernel
theorem dX5_init_5 : decode cX5_init 5 = .ok (.sipush 200, 3) := by decide +kernel
theorem dX5_init_8 : decode cX5_init 8 = .ok (.newarray .byte, 2) := by decide +kernel
theorem dX5_init_10 : decode cX5_init 10 = .ok (.putfield 9, 3) := by decide +kernel
theorem dX5_init_13 : decode cX5_init 13 = .ok (.aload_n 0, 1) := by decide +kernel
theorem dX5_init_14 : decode cX5_init 14 = .ok (.iconst 0, 1) := by decide +kernel
theorem dX5_init_15 : decode cX5_init 15 = .ok (.putfield 15, 3) := by decide +kernel
theorem dX5_init_18 : decode cX5_init 18 = .ok (.return_, 1) := by decide +kernel
theorem dX5_append_0 : decode cX5_append 0 = .ok (.bipush 24, 2) := by decide +kernel
theorem dX5_append_2 : decode cX5_append 2 = .ok (.istore_n 2, 1) := by decide +kernel
theorem dX5_append_3 : decode cX5_append 3 = .ok (.iload_n 2, 1) := by decide +kernel
theorem dX5_append_4 : decode cX5_append 4 = .ok (.ifCond .lt 32, 3) := by decide +kernel
theorem dX5_append_7 : decode cX5_append 7 = .ok (.aload_n 0, 1) := by decide +kernel
theorem dX5_append_8 : decode cX5_append 8 = .ok (.getfield 9, 3) := by decide +kernel
theorem dX5_append_11 : decode cX5_append 11 = .ok (.aload_n 0, 1) := by decide +kernel
theorem dX5_append_12 : decode cX5_append 12 = .ok (.getfield 15, 3) := by decide +kernel
theorem dX5_append_15 : decode cX5_append 15 = .ok (.iload_n 1, 1) := by decide +kernel
theorem dX5_append_16 : decode cX5_append 16 = .ok (.iload_n 2, 1) := by decide +kernel
theorem dX5_append_17 : decode cX5_append 17 = .ok (.ishr, 1) := by decide +kernel
theorem dX5_append_18 : decode cX5_append 18 = .ok (.i2b, 1) := by decide +kernel
theorem dX5_append_19 : decode cX5_append 19 = .ok (.bastore, 1) := by decide +kernel
theorem dX5_append_20 : decode cX5_append 20 = .ok (.aload_n 0, 1) := by decide +kernel
theorem dX5_append_21 : decode cX5_append 21 = .ok (.dup, 1) := by decide +kernel
theorem dX5_append_22 : decode cX5_append 22 = .ok (.getfield 15, 3) := by decide +kernel
theorem dX5_append_25 : decode cX5_append 25 = .ok (.iconst 1, 1) := by decide +kernel
theorem dX5_append_26 : decode cX5_append 26 = .ok (.iadd, 1) := by decide +kernel
theorem dX5_append_27 : decode cX5_append 27 = .ok (.putfield 15, 3) := by decide +kernel
theorem dX5_append_30 : decode cX5_append 30 = .ok (.iinc 2 (-8), 3) := by decide +kernel
theorem dX5_append_33 : decode cX5_append 33 = .ok (.goto (-30), 3) := by decide +kernel
theorem dX5_append_36 : decode cX5_append 36 = .ok (.return_, 1) := by decide +kernel
theorem dX6_init_0 : decode cX6_init 0 = .ok (.aload_n 0, 1) := by decide +kernel
theorem dX6_init_1 : decode cX6_init 1 = .ok (.invokespecial 3, 3) := by decide +kernel
theorem dX6_init_4 : decode cX6_init 4 = .ok (.aload_n 0, 1) := by decide +kernel
theorem dX6_init_5 : decode cX6_init 5 = .ok (.sipush 200, 3) := by decide +kernel
theorem dX6_init_8 : decode cX6_init 8 = .ok (.newarray .byte, 2) := by decide +kernel
theorem dX6_init_10 : decode cX6_init 10 = .ok (.putfield 9, 3) := by decide +kernel
theorem dX6_init_13 : decode cX6_init 13 = .ok (.return_, 1) := by decide +kernel
set_option maxRecDepth 20000 in
theorem ggX6_read_X6_skipBlanks : GoodIn wsX6_read wsX6_skipBlanks := goodIn_r _ [17, 7, 6, 1, 110, 111, 112, 113, 114, 115, 116, 117, 118, 119, 120] (by decide +kernel) (by decide +kernel)
set_option maxRecDepth 20000 in
theorem gX6_read_X6_skipBlanks : GoodIn wsX6_read (wsV RX6 43 RX6 yX6_skipBlanks wsX6_skipBlanks) := goodIn_app (goodIn_of _ (by decide +kernel)) ggX6_read_X6_skipBlanks
set_option maxRecDepth 20000 in
theorem ggX6_read_X6_readClause : GoodIn wsX6_read wsX6_readClause := goodIn_r _ [21, 7, 12, 22, 23, 24, 16, 25, 6, 1, 26, 27, 28, 29, 30, 31, 32, 33, 34, 35, 36, 37, 38, 39, 40, 41, 42, 43, 44, 45, 46, 47, 48, 49, 50, 51, 52, 53, 54, 55, 56, 57, 58, 59, 60, 61, 62, 63, 64, 65, 66, 67, 68, 69, 70, 71, 72, 73, 74, 75, 76, 77, 78, 79, 80, 81, 82, 8, 9, 83, 84, 85, 86, 87, 10, 88, 89, 90, 91, 92, 93, 94, 95, 96, 13, 14, 15, 17, 97, 98, 99, 100, 101, 102, 103, 104, 105, 106, 107, 108, 109, 11, 110, 111, 112, 113, 114, 115, 116, 117, 118, 119, 120] (by decide +kernel) (by decide +kernel)
set_option maxRecDepth 20000 in
theorem gX6_read_X6_readClause : GoodIn wsX6_read (wsV RX6 46 RX6 yX6_readClause wsX6_readClause) := goodIn_app (goodIn_of _ (by decide +kernel)) ggX6_read_X6_readClause
theorem dX6_read_0 : decode cX6_read 0 = .ok (.aload_n 1, 1) := by decide +kernel
theorem dX6_read_1 : decode cX6_read 1 = .ok (.iconst 0, 1) := by decide +kernel
theorem dX6_read_2 : decode cX6_read 2 = .ok (.aload_n 0, 1) := by decide +kernel
theorem dX6_read_3 : decode cX6_read 3 = .ok (.getfield 9, 3) := by decide +kernel
theorem dX6_read_6 : decode cX6_read 6 = .ok (.iconst 0, 1) := by decide +kernel
theorem dX6_read_7 : decode cX6_read 7 = .ok (.iload_n 2, 1) := by decide +kernel
theorem dX6_read_8 : decode cX6_read 8 = .ok (.invokestatic 15, 3) := by decide +kernel
theorem dX6_read_11 : decode cX6_read 11 = .ok (.aload_n 0, 1) := by decide +kernel
theorem dX6_read_12 : decode cX6_read 12 = .ok (.iload_n 2, 1) := by decide +kernel
theorem dX6_read_13 : decode cX6_read 13 = .ok (.putfield 21, 3) := by decide +kernel
theorem dX6_read_16 : decode cX6_read 16 = .ok (.aload_n 0, 1) := by decide +kernel
theorem dX6_read_17 : decode cX6_read 17 = .ok (.iconst 0, 1) := by decide +kernel
theorem dX6_read_18 : decode cX6_read 18 = .ok (.putfield 25, 3) := by decide +kernel
theorem dX6_read_21 : decode cX6_read 21 = .ok (.aload_n 0, 1) := by decide +kernel
theorem dX6_read_22 : decode cX6_read 22 = .ok (.iconst 0, 1) := by decide +kernel
theorem dX6_read_23 : decode cX6_read 23 = .ok (.putfield 28, 3) := by decide +kernel
theorem dX6_read_26 : decode cX6_read 26 = .ok (.aload_n 0, 1) := by decide +kernel
theorem dX6_read_27 : decode cX6_read 27 = .ok (.iconst (-1), 1) := by decide +kernel
theorem dX6_read_28 : decode cX6_read 28 = .ok (.putfield 31, 3) := by decide +kernel
theorem dX6_read_31 : decode cX6_read 31 = .ok (.aload_n 0, 1) := by decide +kernel
theorem dX6_read_32 : decode cX6_read 32 = .ok (.iconst 0, 1) := by decide +kernel
theorem dX6_read_33 : decode cX6_read 33 = .ok (.putfield 34, 3) := by decide +kernel
theorem dX6_read_36 : decode cX6_read 36 = .ok (.aload_n 0, 1) := by decide +kernel
theorem dX6_read_37 : decode cX6_read 37 = .ok (.iconst 0, 1) := by decide +kernel
theorem dX6_read_38 : decode cX6_read 38 = .ok (.putfield 37, 3) := by decide +kernel
theorem dX6_read_41 : decode cX6_read 41 = .ok (.aload_n 0, 1) := by decide +kernel
theorem dX6_read_42 : decode cX6_read 42 = .ok (.iconst 0, 1) := by decide +kernel
theorem dX6_read_43 : decode cX6_read 43 = .ok (.putfield 40, 3) := by decide +kernel
theorem dX6_read_46 : decode cX6_read 46 = .ok (.aload_n 0, 1) := by decide +kernel
theorem dX6_read_47 : decode cX6_read 47 = .ok (.invokevirtual 43, 3) := by decide +kernel
theorem dX6_read_50 : decode cX6_read 50 = .ok (.iconst 0, 1) := by decide +kernel
theorem dX6_read_51 : decode cX6_read 51 = .ok (.istore_n 3, 1) := by decide +kernel
theorem dX6_read_52 : decode cX6_read 52 = .ok (.iload_n 3, 1) := by decide +kernel
theorem dX6_read_53 : decode cX6_read 53 = .ok (.bipush 8, 2) := by decide +kernel
theorem dX6_read_55 : decode cX6_read 55 = .ok (.if_icmp .gt 37, 3) := by decide +kernel
theorem dX6_read_58 : decode cX6_read 58 = .ok (.aload_n 0, 1) := by decide +kernel
theorem dX6_read_59 : decode cX6_read 59 = .ok (.getfield 25, 3) := by decide +kernel
theorem dX6_read_62 : decode cX6_read 62 = .ok (.aload_n 0, 1) := by decide +kernel
theorem dX6_read_63 : decode cX6_read 63 = .ok (.getfield 21, 3) := by decide +kernel
theorem dX6_read_66 : decode cX6_read 66 = .ok (.if_icmp .ge 26, 3) := by decide +kernel
theorem dX6_read_69 : decode cX6_read 69 = .ok (.aload_n 0, 1) := by decide +kernel
theorem dX6_read_70 : decode cX6_read 70 = .ok (.iload_n 3, 1) := by decide +kernel
theorem dX6_read_71 : decode cX6_read 71 = .ok (.invokevirtual 46, 3) := by decide +kernel
theorem dX6_read_74 : decode cX6_read 74 = .ok (.aload_n 0, 1) := by decide +kernel
theorem dX6_read_75 : decode cX6_read 75 = .ok (.getfield 28, 3) := by decide +kernel
theorem dX6_read_78 : decode cX6_read 78 = .ok (.ifCond .eq 4, 3) := by decide +kernel
theorem dX6_read_81 : decode cX6_read 81 = .ok (.return_, 1) := by decide +kernel
theorem dX6_read_82 : decode cX6_read 82 = .ok (.aload_n 0, 1) := by decide +kernel
theorem dX6_read_83 : decode cX6_read 83 = .ok (.invokevirtual 43, 3) := by decide +kernel
theorem dX6_read_86 : decode cX6_read 86 = .ok (.iinc 3 1, 3) := by decide +kernel
theorem dX6_read_89 : decode cX6_read 89 = .ok (.goto (-37), 3) := by decide +kernel
theorem dX6_read_92 : decode cX6_read 92 = .ok (.return_, 1) := by decide +kernel
set_option maxRecDepth 20000 in
theorem ggX6_readClause_X6_skipLetters : GoodIn wsX6_readClause wsX6_skipLetters := goodIn_r _ [7, 1, 8, 9, 102, 103, 104, 105, 106, 107, 108, 109, 110, 111, 112] (by decide +kernel) (by decide +kernel)
set_option maxRecDepth 20000 in
theorem gX6_readClause_X6_skipLetters : GoodIn wsX6_readClause (wsV RX6 50 RX6 yX6_skipLetters wsX6_skipLetters) := goodIn_app (goodIn_of _ (by decide +kernel)) ggX6_readClause_X6_skipLetters
set_option maxRecDepth 20000 in
theorem ggX6_readClause_X6_spells : GoodIn wsX6_readClause wsX6_spells := goodIn_r _ [13, 1, 9, 14, 15, 16, 17, 18, 19, 20, 21, 22, 23, 24, 25, 26, 27, 28, 29, 30, 31, 32, 33, 34, 35, 36, 37, 38, 39, 40, 41, 42, 43, 44, 45, 46, 47, 48, 49, 50, 51, 52, 53, 54, 55, 56, 57, 58, 59, 60, 61, 62, 102, 103, 104, 105, 106, 107, 108, 109, 110, 111, 112] (by decide +kernel) (by decide +kernel)
set_option maxRecDepth 20000 in
theorem gX6_readClause_X6_spells : GoodIn wsX6_readClause (wsV RX6 55 RX6 yX6_spells wsX6_spells) := goodIn_app (goodIn_of _ (by decide +kernel)) ggX6_readClause_X6_spells
set_option maxRecDepth 20000 in
theorem ggX6_readClause_X6_mark : GoodIn wsX6_readClause wsX6_mark := goodIn_r _ [66, 67, 68, 102, 103, 104, 105, 106, 107, 108, 109, 110, 111, 112] (by decide +kernel) (by decide +kernel)
set_option maxRecDepth 20000 in
theorem gX6_readClause_X6_mark : GoodIn wsX6_readClause (wsV RX6 62 RX6 yX6_mark wsX6_mark) := goodIn_app (goodIn_of _ (by decide +kernel)) ggX6_readClause_X6_mark
set_option maxRecDepth 20000 in
theorem ggX6_readClause_X6_readReturn : GoodIn wsX6_readClause wsX6_readReturn := goodIn_r _ [72, 73, 74, 75, 76, 77, 78, 6, 79, 1, 8, 9, 80, 81, 82, 83, 84, 85, 86, 87, 63, 64, 65, 66, 67, 68, 88, 89, 90, 91, 92, 93, 94, 95, 3, 4, 5, 7, 10, 11, 12, 13, 14, 15, 16, 17, 18, 19, 20, 21, 22, 23, 24, 25, 26, 27, 28, 29, 30, 31, 32, 33, 34, 35, 36, 37, 38, 39, 40, 41, 42, 43, 44, 45, 46, 47, 48, 49, 50, 51, 52, 53, 54, 55, 56, 57, 58, 59, 60, 61, 62, 102, 103, 104, 105, 106, 107, 108, 109, 110, 111, 112] (by decide +kernel) (by decide +kernel)
set_option maxRecDepth 20000 in
theorem gX6_readClause_X6_readReturn : GoodIn wsX6_readClause (wsV RX6 66 RX6 yX6_readReturn wsX6_readReturn) := goodIn_app (goodIn_of _ (by decide +kernel)) ggX6_readClause_X6_readReturn
set_option maxRecDepth 20000 in
theorem ggX6_readClause_X6_readLoan : GoodIn wsX6_readClause wsX6_readLoan := goodIn_r _ [99, 100, 101, 76, 77, 78, 6, 79, 1, 8, 9, 80, 81, 82, 83, 84, 85, 86, 87, 63, 64, 65, 66, 67, 68, 88, 89, 90, 91, 102, 103, 104, 105, 106, 107, 108, 109, 110, 111, 112] (by decide +kernel) (by decide +kernel)
set_option maxRecDepth 20000 in
theorem gX6_readClause_X6_readLoan : GoodIn wsX6_readClause (wsV RX6 69 RX6 yX6_readLoan wsX6_readLoan) := goodIn_app (goodIn_of _ (by decide +kernel)) ggX6_readClause_X6_readLoan
set_option maxRecDepth 20000 in
theorem ggX6_readClause_X6_readNumber : GoodIn wsX6_readClause wsX6_readNumber := goodIn_r _ [79, 1, 8, 9, 80, 81, 82, 83, 84, 85, 86, 6, 87, 63, 64, 65, 66, 67, 68, 102, 103, 104, 105, 106, 107, 108, 109, 110, 111, 112] (by decide +kernel) (by decide +kernel)
set_option maxRecDepth 20000 in
theorem gX6_readClause_X6_readNumber : GoodIn wsX6_readClause (wsV RX6 72 RX6 yX6_readNumber wsX6_readNumber) := goodIn_app (goodIn_of _ (by decide +kernel)) ggX6_readClause_X6_readNumber
set_option maxRecDepth 20000 in
theorem ggX6_readClause_X6_readSign : GoodIn wsX6_readClause wsX6_readSign := goodIn_r _ [91, 1, 8, 9, 84, 85, 86, 6, 87, 63, 64, 65, 66, 67, 68, 102, 103, 104, 105, 106, 107, 108, 109, 110, 111, 112] (by decide +kernel) (by decide +kernel)
set_option maxRecDepth 20000 in
theorem gX6_readClause_X6_readSign : GoodIn wsX6_readClause (wsV RX6 76 RX6 yX6_readSign wsX6_readSign) := goodIn_app (goodIn_of _ (by decide +kernel)) ggX6_readClause_X6_readSign
theorem dX6_readClause_0 : decode cX6_readClause 0 = .ok (.aload_n 0, 1) := by decide +kernel
theorem dX6_readClause_1 : decode cX6_readClause 1 = .ok (.getfield 25, 3) := by decide +kernel
theorem dX6_readClause_4 : decode cX6_readClause 4 = .ok (.istore_n 2, 1) := by decide +kernel
theorem dX6_readClause_5 : decode cX6_readClause 5 = .ok (.aload_n 0, 1) := by decide +kernel
theorem dX6_readClause_6 : decode cX6_readClause 6 = .ok (.invokevirtual 50, 3) := by decide +kernel
theorem dX6_readClause_9 : decode cX6_readClause 9 = .ok (.aload_n 0, 1) := by decide +kernel
theorem dX6_readClause_10 : decode cX6_readClause 10 = .ok (.iload_n 2, 1) := by decide +kernel
theorem dX6_readClause_11 : decode cX6_readClause 11 = .ok (.ldc 53, 2) := by decide +kernel
theorem dX6_readClause_13 : decode cX6_readClause 13 = .ok (.invokevirtual 55, 3) := by decide +kernel
theorem dX6_readClause_16 : decode cX6_readClause 16 = .ok (.istore_n 3, 1) := by decide +kernel
theorem dX6_readClause_17 : decode cX6_readClause 17 = .ok (.aload_n 0, 1) := by decide +kernel
theorem dX6_readClause_18 : decode cX6_readClause 18 = .ok (.iload_n 2, 1) := by decide +kernel
theorem dX6_readClause_19 : decode cX6_readClause 19 = .ok (.ldc 59, 2) := by decide +kernel
theorem dX6_readClause_21 : decode cX6_readClause 21 = .ok (.invokevirtual 55, 3) := by decide +kernel
theorem dX6_readClause_24 : decode cX6_readClause 24 = .ok (.istore 4, 2) := by decide +kernel
theorem dX6_readClause_26 : decode cX6_readClause 26 = .ok (.aload_n 0, 1) := by decide +kernel
theorem dX6_readClause_27 : decode cX6_readClause 27 = .ok (.iload_n 2, 1) := by decide +kernel
theorem dX6_readClause_28 : decode cX6_readClause 28 = .ok (.ldc 61, 2) := by decide +kernel
theorem dX6_readClause_30 : decode cX6_readClause 30 = .ok (.invokevirtual 55, 3) := by decide +kernel
theorem dX6_readClause_33 : decode cX6_readClause 33 = .ok (.istore 5, 2) := by decide +kernel
theorem dX6_readClause_35 : decode cX6_readClause 35 = .ok (.iload_n 3, 1) := by decide +kernel
theorem dX6_readClause_36 : decode cX6_readClause 36 = .ok (.ifCond .ne 20, 3) := by decide +kernel
theorem dX6_readClause_39 : decode cX6_readClause 39 = .ok (.iload 4, 2) := by decide +kernel
theorem dX6_readClause_41 : decode cX6_readClause 41 = .ok (.ifCond .ne 15, 3) := by decide +kernel
theorem dX6_readClause_44 : decode cX6_readClause 44 = .ok (.iload 5, 2) := by decide +kernel
theorem dX6_readClause_46 : decode cX6_readClause 46 = .ok (.ifCond .ne 10, 3) := by decide +kernel
theorem dX6_readClause_49 : decode cX6_readClause 49 = .ok (.aload_n 0, 1) := by decide +kernel
theorem dX6_readClause_50 : decode cX6_readClause 50 = .ok (.iconst 1, 1) := by decide +kernel
theorem dX6_readClause_51 : decode cX6_readClause 51 = .ok (.iload_n 2, 1) := by decide +kernel
theorem dX6_readClause_52 : decode cX6_readClause 52 = .ok (.invokevirtual 62, 3) := by decide +kernel
theorem dX6_readClause_55 : decode cX6_readClause 55 = .ok (.return_, 1) := by decide +kernel
theorem dX6_readClause_56 : decode cX6_readClause 56 = .ok (.iload_n 1, 1) := by decide +kernel
theorem dX6_readClause_57 : decode cX6_readClause 57 = .ok (.bipush 8, 2) := by decide +kernel
theorem dX6_readClause_59 : decode cX6_readClause 59 = .ok (.if_icmp .ne 10, 3) := by decide +kernel
theorem dX6_readClause_62 : decode cX6_readClause 62 = .ok (.aload_n 0, 1) := by decide +kernel
theorem dX6_readClause_63 : decode cX6_readClause 63 = .ok (.iconst 3, 1) := by decide +kernel
theorem dX6_readClause_64 : decode cX6_readClause 64 = .ok (.iload_n 2, 1) := by decide +kernel
theorem dX6_readClause_65 : decode cX6_readClause 65 = .ok (.invokevirtual 62, 3) := by decide +kernel
theorem dX6_readClause_68 : decode cX6_readClause 68 = .ok (.return_, 1) := by decide +kernel
theorem dX6_readClause_69 : decode cX6_readClause 69 = .ok (.iload_n 3, 1) := by decide +kernel
theorem dX6_readClause_70 : decode cX6_readClause 70 = .ok (.ifCond .eq 10, 3) := by decide +kernel
theorem dX6_readClause_73 : decode cX6_readClause 73 = .ok (.aload_n 0, 1) := by decide +kernel
theorem dX6_readClause_74 : decode cX6_readClause 74 = .ok (.invokevirtual 66, 3) := by decide +kernel
theorem dX6_readClause_77 : decode cX6_readClause 77 = .ok (.goto 24, 3) := by decide +kernel
theorem dX6_readClause_80 : decode cX6_readClause 80 = .ok (.iload 4, 2) := by decide +kernel
theorem dX6_readClause_82 : decode cX6_readClause 82 = .ok (.ifCond .eq 10, 3) := by decide +kernel
theorem dX6_readClause_85 : decode cX6_readClause 85 = .ok (.aload_n 0, 1) := by decide +kernel
theorem dX6_readClause_86 : decode cX6_readClause 86 = .ok (.invokevirtual 69, 3) := by decide +kernel
theorem dX6_readClause_89 : decode cX6_readClause 89 = .ok (.goto 12, 3) := by decide +kernel
theorem dX6_readClause_92 : decode cX6_readClause 92 = .ok (.aload_n 0, 1) := by decide +kernel
theorem dX6_readClause_93 : decode cX6_readClause 93 = .ok (.aload_n 0, 1) := by decide +kernel
theorem dX6_readClause_94 : decode cX6_readClause 94 = .ok (.iconst 0, 1) := by decide +kernel
theorem dX6_readClause_95 : decode cX6_readClause 95 = .ok (.invokevirtual 72, 3) := by decide +kernel
theorem dX6_readClause_98 : decode cX6_readClause 98 = .ok (.putfield 40, 3) := by decide +kernel
theorem dX6_readClause_101 : decode cX6_readClause 101 = .ok (.aload_n 0, 1) := by decide +kernel
theorem dX6_readClause_102 : decode cX6_readClause 102 = .ok (.bipush 59, 2) := by decide +kernel
theorem dX6_readClause_104 : decode cX6_readClause 104 = .ok (.invokevirtual 76, 3) := by decide +kernel
theorem dX6_readClause_107 : decode cX6_readClause 107 = .ok (.return_, 1) := by decide +kernel
set_option maxRecDepth 20000 in
theorem ggX6_readReturn_X6_readNumber : GoodIn wsX6_readReturn wsX6_readNumber := goodIn_r _ [8, 9, 10, 11, 12, 13, 14, 15, 16, 17, 18, 7, 19, 20, 21, 22, 23, 24, 25, 91, 92, 93, 94, 95, 96, 97, 98, 99, 100, 101] (by decide +kernel) (by decide +kernel)
set_option maxRecDepth 20000 in
theorem gX6_readReturn_X6_readNumber : GoodIn wsX6_readReturn (wsV RX6 72 RX6 yX6_readNumber wsX6_readNumber) := goodIn_app (goodIn_of _ (by decide +kernel)) ggX6_readReturn_X6_readNumber
set_option maxRecDepth 20000 in
theorem ggX6_readReturn_X6_readSign : GoodIn wsX6_readReturn wsX6_readSign := goodIn_r _ [29, 9, 10, 11, 16, 17, 18, 7, 19, 20, 21, 22, 23, 24, 25, 91, 92, 93, 94, 95, 96, 97, 98, 99, 100, 101] (by decide +kernel) (by decide +kernel)
set_option maxRecDepth 20000 in
theorem gX6_readReturn_X6_readSign : GoodIn wsX6_readReturn (wsV RX6 76 RX6 yX6_readSign wsX6_readSign) := goodIn_app (goodIn_of _ (by decide +kernel)) ggX6_readReturn_X6_readSign
set_option maxRecDepth 20000 in
theorem ggX6_readReturn_X6_readWithin : GoodIn wsX6_readReturn wsX6_readWithin := goodIn_r _ [33, 9, 16, 17, 18, 7, 19, 10, 11, 34, 35, 36, 37, 38, 39, 40, 41, 42, 43, 44, 45, 46, 47, 48, 49, 50, 51, 52, 53, 54, 55, 56, 57, 58, 59, 60, 61, 62, 63, 64, 65, 66, 67, 68, 69, 70, 71, 72, 73, 74, 75, 76, 77, 78, 79, 80, 81, 82, 83, 84, 85, 86, 87, 88, 89, 90, 20, 21, 22, 23, 24, 25, 91, 92, 93, 94, 95, 96, 97, 98, 99, 100, 101] (by decide +kernel) (by decide +kernel)
set_option maxRecDepth 20000 in
theorem gX6_readReturn_X6_readWithin : GoodIn wsX6_readReturn (wsV RX6 83 RX6 yX6_readWithin wsX6_readWithin) := goodIn_app (goodIn_of _ (by decide +kernel)) ggX6_readReturn_X6_readWithin
theorem dX6_readReturn_0 : decode cX6_readReturn 0 = .ok (.aload_n 0, 1) := by decide +kernel
theorem dX6_readReturn_1 : decode cX6_readReturn 1 = .ok (.aload_n 0, 1) := by decide +kernel
theorem dX6_readReturn_2 : decode cX6_readReturn 2 = .ok (.iconst 0, 1) := by decide +kernel
theorem dX6_readReturn_3 : decode cX6_readReturn 3 = .ok (.invokevirtual 72, 3) := by decide +kernel
theorem dX6_readReturn_6 : decode cX6_readReturn 6 = .ok (.putfield 80, 3) := by decide +kernel
theorem dX6_readReturn_9 : decode cX6_readReturn 9 = .ok (.aload_n 0, 1) := by decide +kernel
theorem dX6_readReturn_10 : decode cX6_readReturn 10 = .ok (.bipush 47, 2) := by decide +kernel
theorem dX6_readReturn_12 : decode cX6_readReturn 12 = .ok (.invokevirtual 76, 3) := by decide +kernel
theorem dX6_readReturn_15 : decode cX6_readReturn 15 = .ok (.aload_n 0, 1) := by decide +kernel
theorem dX6_readReturn_16 : decode cX6_readReturn 16 = .ok (.aload_n 0, 1) := by decide +kernel
theorem dX6_readReturn_17 : decode cX6_readReturn 17 = .ok (.iconst 1, 1) := by decide +kernel
theorem dX6_readReturn_18 : decode cX6_readReturn 18 = .ok (.invokevirtual 72, 3) := by decide +kernel
theorem dX6_readReturn_21 : decode cX6_readReturn 21 = .ok (.putfield 34, 3) := by decide +kernel
theorem dX6_readReturn_24 : decode cX6_readReturn 24 = .ok (.aload_n 0, 1) := by decide +kernel
theorem dX6_readReturn_25 : decode cX6_readReturn 25 = .ok (.invokevirtual 83, 3) := by decide +kernel
theorem dX6_readReturn_28 : decode cX6_readReturn 28 = .ok (.aload_n 0, 1) := by decide +kernel
theorem dX6_readReturn_29 : decode cX6_readReturn 29 = .ok (.aload_n 0, 1) := by decide +kernel
theorem dX6_readReturn_30 : decode cX6_readReturn 30 = .ok (.iconst 0, 1) := by decide +kernel
theorem dX6_readReturn_31 : decode cX6_readReturn 31 = .ok (.invokevirtual 72, 3) := by decide +kernel
theorem dX6_readReturn_34 : decode cX6_readReturn 34 = .ok (.putfield 86, 3) := by decide +kernel
theorem dX6_readReturn_37 : decode cX6_readReturn 37 = .ok (.return_, 1) := by decide +kernel
set_option maxRecDepth 20000 in
theorem ggX6_readLoan_X6_readNumber : GoodIn wsX6_readLoan wsX6_readNumber := goodIn_r _ [7, 8, 9, 10, 11, 12, 13, 14, 15, 16, 17, 6, 18, 19, 20, 21, 22, 23, 24, 29, 30, 31, 32, 33, 34, 35, 36, 37, 38, 39] (by decide +kernel) (by decide +kernel)
set_option maxRecDepth 20000 in
theorem gX6_readLoan_X6_readNumber : GoodIn wsX6_readLoan (wsV RX6 72 RX6 yX6_readNumber wsX6_readNumber) := goodIn_app (goodIn_of _ (by decide +kernel)) ggX6_readLoan_X6_readNumber
set_option maxRecDepth 20000 in
theorem ggX6_readLoan_X6_readSign : GoodIn wsX6_readLoan wsX6_readSign := goodIn_r _ [28, 8, 9, 10, 15, 16, 17, 6, 18, 19, 20, 21, 22, 23, 24, 29, 30, 31, 32, 33, 34, 35, 36, 37, 38, 39] (by decide +kernel) (by decide +kernel)
set_option maxRecDepth 20000 in
theorem gX6_readLoan_X6_readSign : GoodIn wsX6_readLoan (wsV RX6 76 RX6 yX6_readSign wsX6_readSign) := goodIn_app (goodIn_of _ (by decide +kernel)) ggX6_readLoan_X6_readSign
theorem dX6_readLoan_0 : decode cX6_readLoan 0 = .ok (.aload_n 0, 1) := by decide +kernel
theorem dX6_readLoan_1 : decode cX6_readLoan 1 = .ok (.aload_n 0, 1) := by decide +kernel
theorem dX6_readLoan_2 : decode cX6_readLoan 2 = .ok (.iconst 0, 1) := by decide +kernel
theorem dX6_readLoan_3 : decode cX6_readLoan 3 = .ok (.invokevirtual 72, 3) := by decide +kernel
theorem dX6_readLoan_6 : decode cX6_readLoan 6 = .ok (.putfield 89, 3) := by decide +kernel
theorem dX6_readLoan_9 : decode cX6_readLoan 9 = .ok (.aload_n 0, 1) := by decide +kernel
theorem dX6_readLoan_10 : decode cX6_readLoan 10 = .ok (.bipush 47, 2) := by decide +kernel
theorem dX6_readLoan_12 : decode cX6_readLoan 12 = .ok (.invokevirtual 76, 3) := by decide +kernel
theorem dX6_readLoan_15 : decode cX6_readLoan 15 = .ok (.aload_n 0, 1) := by decide +kernel
theorem dX6_readLoan_16 : decode cX6_readLoan 16 = .ok (.aload_n 0, 1) := by decide +kernel
theorem dX6_readLoan_17 : decode cX6_readLoan 17 = .ok (.iconst 1, 1) := by decide +kernel
theorem dX6_readLoan_18 : decode cX6_readLoan 18 = .ok (.invokevirtual 72, 3) := by decide +kernel
theorem dX6_readLoan_21 : decode cX6_readLoan 21 = .ok (.putfield 37, 3) := by decide +kernel
theorem dX6_readLoan_24 : decode cX6_readLoan 24 = .ok (.return_, 1) := by decide +kernel
set_option maxRecDepth 20000 in
theorem ggX6_readWithin_X6_skipBlanks : GoodIn wsX6_readWithin wsX6_skipBlanks := goodIn_r _ [6, 1, 7, 8, 72, 73, 74, 75, 76, 77, 78, 79, 80, 81, 82] (by decide +kernel) (by decide +kernel)
set_option maxRecDepth 20000 in
theorem gX6_readWithin_X6_skipBlanks : GoodIn wsX6_readWithin (wsV RX6 43 RX6 yX6_skipBlanks wsX6_skipBlanks) := goodIn_app (goodIn_of _ (by decide +kernel)) ggX6_readWithin_X6_skipBlanks
set_option maxRecDepth 20000 in
theorem ggX6_readWithin_X6_skipLetters : GoodIn wsX6_readWithin wsX6_skipLetters := goodIn_r _ [12, 1, 7, 8, 72, 73, 74, 75, 76, 77, 78, 79, 80, 81, 82] (by decide +kernel) (by decide +kernel)
set_option maxRecDepth 20000 in
theorem gX6_readWithin_X6_skipLetters : GoodIn wsX6_readWithin (wsV RX6 50 RX6 yX6_skipLetters wsX6_skipLetters) := goodIn_app (goodIn_of _ (by decide +kernel)) ggX6_readWithin_X6_skipLetters
set_option maxRecDepth 20000 in
theorem ggX6_readWithin_X6_spells : GoodIn wsX6_readWithin wsX6_spells := goodIn_r _ [16, 1, 8, 17, 18, 19, 20, 21, 22, 23, 24, 25, 26, 27, 28, 29, 30, 31, 32, 33, 34, 35, 36, 37, 38, 39, 40, 41, 42, 43, 44, 45, 46, 47, 48, 49, 50, 51, 52, 53, 54, 55, 56, 57, 58, 59, 60, 61, 62, 63, 64, 65, 72, 73, 74, 75, 76, 77, 78, 79, 80, 81, 82] (by decide +kernel) (by decide +kernel)
set_option maxRecDepth 20000 in
theorem gX6_readWithin_X6_spells : GoodIn wsX6_readWithin (wsV RX6 55 RX6 yX6_spells wsX6_spells) := goodIn_app (goodIn_of _ (by decide +kernel)) ggX6_readWithin_X6_spells
set_option maxRecDepth 20000 in
theorem ggX6_readWithin_X6_mark : GoodIn wsX6_readWithin wsX6_mark := goodIn_r _ [69, 70, 71, 72, 73, 74, 75, 76, 77, 78, 79, 80, 81, 82] (by decide +kernel) (by decide +kernel)
set_option maxRecDepth 20000 in
theorem gX6_readWithin_X6_mark : GoodIn wsX6_readWithin (wsV RX6 62 RX6 yX6_mark wsX6_mark) := goodIn_app (goodIn_of _ (by decide +kernel)) ggX6_readWithin_X6_mark
theorem dX6_readWithin_0 : decode cX6_readWithin 0 = .ok (.aload_n 0, 1) := by decide +kernel
theorem dX6_readWithin_1 : decode cX6_readWithin 1 = .ok (.invokevirtual 43, 3) := by decide +kernel
theorem dX6_readWithin_4 : decode cX6_readWithin 4 = .ok (.aload_n 0, 1) := by decide +kernel
theorem dX6_readWithin_5 : decode cX6_readWithin 5 = .ok (.getfield 25, 3) := by decide +kernel
theorem dX6_readWithin_8 : decode cX6_readWithin 8 = .ok (.istore_n 1, 1) := by decide +kernel
theorem dX6_readWithin_9 : decode cX6_readWithin 9 = .ok (.aload_n 0, 1) := by decide +kernel
theorem dX6_readWithin_10 : decode cX6_readWithin 10 = .ok (.invokevirtual 50, 3) := by decide +kernel
theorem dX6_readWithin_13 : decode cX6_readWithin 13 = .ok (.aload_n 0, 1) := by decide +kernel
theorem dX6_readWithin_14 : decode cX6_readWithin 14 = .ok (.iload_n 1, 1) := by decide +kernel
theorem dX6_readWithin_15 : decode cX6_readWithin 15 = .ok (.ldc 92, 2) := by decide +kernel
theorem dX6_readWithin_17 : decode cX6_readWithin 17 = .ok (.invokevirtual 55, 3) := by decide +kernel
theorem dX6_readWithin_20 : decode cX6_readWithin 20 = .ok (.ifCond .ne 9, 3) := by decide +kernel
theorem dX6_readWithin_23 : decode cX6_readWithin 23 = .ok (.aload_n 0, 1) := by decide +kernel
theorem dX6_readWithin_24 : decode cX6_readWithin 24 = .ok (.iconst 1, 1) := by decide +kernel
theorem dX6_readWithin_25 : decode cX6_readWithin 25 = .ok (.iload_n 1, 1) := by decide +kernel
theorem dX6_readWithin_26 : decode cX6_readWithin 26 = .ok (.invokevirtual 62, 3) := by decide +kernel
theorem dX6_readWithin_29 : decode cX6_readWithin 29 = .ok (.return_, 1) := by decide +kernel
set_option maxRecDepth 20000 in
theorem ggX6_readSign_X6_skipBlanks : GoodIn wsX6_readSign wsX6_skipBlanks := goodIn_r _ [8, 1, 2, 3, 15, 16, 17, 18, 19, 20, 21, 22, 23, 24, 25] (by decide +kernel) (by decide +kernel)
set_option maxRecDepth 20000 in
theorem gX6_readSign_X6_skipBlanks : GoodIn wsX6_readSign (wsV RX6 43 RX6 yX6_skipBlanks wsX6_skipBlanks) := goodIn_app (goodIn_of _ (by decide +kernel)) ggX6_readSign_X6_skipBlanks
set_option maxRecDepth 20000 in
theorem ggX6_readSign_X6_mark : GoodIn wsX6_readSign wsX6_mark := goodIn_r _ [12, 13, 14, 15, 16, 17, 18, 19, 20, 21, 22, 23, 24, 25] (by decide +kernel) (by decide +kernel)
set_option maxRecDepth 20000 in
theorem gX6_readSign_X6_mark : GoodIn wsX6_readSign (wsV RX6 62 RX6 yX6_mark wsX6_mark) := goodIn_app (goodIn_of _ (by decide +kernel)) ggX6_readSign_X6_mark
theorem dX6_readSign_0 : decode cX6_readSign 0 = .ok (.aload_n 0, 1) := by decide +kernel
theorem dX6_readSign_1 : decode cX6_readSign 1 = .ok (.invokevirtual 43, 3) := by decide +kernel
theorem dX6_readSign_4 : decode cX6_readSign 4 = .ok (.aload_n 0, 1) := by decide +kernel
theorem dX6_readSign_5 : decode cX6_readSign 5 = .ok (.getfield 25, 3) := by decide +kernel
theorem dX6_readSign_8 : decode cX6_readSign 8 = .ok (.aload_n 0, 1) := by decide +kernel
theorem dX6_readSign_9 : decode cX6_readSign 9 = .ok (.getfield 21, 3) := by decide +kernel
theorem dX6_readSign_12 : decode cX6_readSign 12 = .ok (.if_icmp .ge 29, 3) := by decide +kernel
theorem dX6_readSign_15 : decode cX6_readSign 15 = .ok (.aload_n 0, 1) := by decide +kernel
theorem dX6_readSign_16 : decode cX6_readSign 16 = .ok (.getfield 9, 3) := by decide +kernel
theorem dX6_readSign_19 : decode cX6_readSign 19 = .ok (.aload_n 0, 1) := by decide +kernel
theorem dX6_readSign_20 : decode cX6_readSign 20 = .ok (.getfield 25, 3) := by decide +kernel
theorem dX6_readSign_23 : decode cX6_readSign 23 = .ok (.baload, 1) := by decide +kernel
theorem dX6_readSign_24 : decode cX6_readSign 24 = .ok (.iload_n 1, 1) := by decide +kernel
theorem dX6_readSign_25 : decode cX6_readSign 25 = .ok (.if_icmp .ne 16, 3) := by decide +kernel
theorem dX6_readSign_28 : decode cX6_readSign 28 = .ok (.aload_n 0, 1) := by decide +kernel
theorem dX6_readSign_29 : decode cX6_readSign 29 = .ok (.dup, 1) := by decide +kernel
theorem dX6_readSign_30 : decode cX6_readSign 30 = .ok (.getfield 25, 3) := by decide +kernel
theorem dX6_readSign_33 : decode cX6_readSign 33 = .ok (.iconst 1, 1) := by decide +kernel
theorem dX6_readSign_34 : decode cX6_readSign 34 = .ok (.iadd, 1) := by decide +kernel
theorem dX6_readSign_35 : decode cX6_readSign 35 = .ok (.putfield 25, 3) := by decide +kernel
theorem dX6_readSign_38 : decode cX6_readSign 38 = .ok (.goto 12, 3) := by decide +kernel
theorem dX6_readSign_41 : decode cX6_readSign 41 = .ok (.aload_n 0, 1) := by decide +kernel
theorem dX6_readSign_42 : decode cX6_readSign 42 = .ok (.iconst 1, 1) := by decide +kernel
theorem dX6_readSign_43 : decode cX6_readSign 43 = .ok (.aload_n 0, 1) := by decide +kernel
theorem dX6_readSign_44 : decode cX6_readSign 44 = .ok (.getfield 25, 3) := by decide +kernel
theorem dX6_readSign_47 : decode cX6_readSign 47 = .ok (.invokevirtual 62, 3) := by decide +kernel
theorem dX6_readSign_50 : decode cX6_readSign 50 = .ok (.return_, 1) := by decide +kernel
set_option maxRecDepth 20000 in
theorem ggX6_readNumber_X6_skipBlanks : GoodIn wsX6_readNumber wsX6_skipBlanks := goodIn_r _ [12, 1, 2, 3, 19, 20, 21, 22, 23, 24, 25, 26, 27, 28, 29] (by decide +kernel) (by decide +kernel)
set_option maxRecDepth 20000 in
theorem gX6_readNumber_X6_skipBlanks : GoodIn wsX6_readNumber (wsV RX6 43 RX6 yX6_skipBlanks wsX6_skipBlanks) := goodIn_app (goodIn_of _ (by decide +kernel)) ggX6_readNumber_X6_skipBlanks
set_option maxRecDepth 20000 in
theorem ggX6_readNumber_X6_mark : GoodIn wsX6_readNumber wsX6_mark := goodIn_r _ [16, 17, 18, 19, 20, 21, 22, 23, 24, 25, 26, 27, 28, 29] (by decide +kernel) (by decide +kernel)
set_option maxRecDepth 20000 in
theorem gX6_readNumber_X6_mark : GoodIn wsX6_readNumber (wsV RX6 62 RX6 yX6_mark wsX6_mark) := goodIn_app (goodIn_of _ (by decide +kernel)) ggX6_readNumber_X6_mark
theorem dX6_readNumber_0 : decode cX6_readNumber 0 = .ok (.aload_n 0, 1) := by decide +kernel
theorem dX6_readNumber_1 : decode cX6_readNumber 1 = .ok (.invokevirtual 43, 3) := by decide +kernel
theorem dX6_readNumber_4 : decode cX6_readNumber 4 = .ok (.aload_n 0, 1) := by decide +kernel
theorem dX6_readNumber_5 : decode cX6_readNumber 5 = .ok (.getfield 25, 3) := by decide +kernel
theorem dX6_readNumber_8 : decode cX6_readNumber 8 = .ok (.istore_n 2, 1) := by decide +kernel
theorem dX6_readNumber_9 : decode cX6_readNumber 9 = .ok (.iconst 0, 1) := by decide +kernel
theorem dX6_readNumber_10 : decode cX6_readNumber 10 = .ok (.istore_n 3, 1) := by decide +kernel
theorem dX6_readNumber_11 : decode cX6_readNumber 11 = .ok (.aload_n 0, 1) := by decide +kernel
theorem dX6_readNumber_12 : decode cX6_readNumber 12 = .ok (.getfield 25, 3) := by decide +kernel
theorem dX6_readNumber_15 : decode cX6_readNumber 15 = .ok (.aload_n 0, 1) := by decide +kernel
theorem dX6_readNumber_16 : decode cX6_readNumber 16 = .ok (.getfield 21, 3) := by decide +kernel
theorem dX6_readNumber_19 : decode cX6_readNumber 19 = .ok (.if_icmp .ge 68, 3) := by decide +kernel
theorem dX6_readNumber_22 : decode cX6_readNumber 22 = .ok (.aload_n 0, 1) := by decide +kernel
theorem dX6_readNumber_23 : decode cX6_readNumber 23 = .ok (.getfield 9, 3) := by decide +kernel
theorem dX6_readNumber_26 : decode cX6_readNumber 26 = .ok (.aload_n 0, 1) := by decide +kernel
theorem dX6_readNumber_27 : decode cX6_readNumber 27 = .ok (.getfield 25, 3) := by decide +kernel
theorem dX6_readNumber_30 : decode cX6_readNumber 30 = .ok (.baload, 1) := by decide +kernel
theorem dX6_readNumber_31 : decode cX6_readNumber 31 = .ok (.bipush 48, 2) := by decide +kernel
theorem dX6_readNumber_33 : decode cX6_readNumber 33 = .ok (.if_icmp .lt 54, 3) := by decide +kernel
theorem dX6_readNumber_36 : decode cX6_readNumber 36 = .ok (.aload_n 0, 1) := by decide +kernel
theorem dX6_readNumber_37 : decode cX6_readNumber 37 = .ok (.getfield 9, 3) := by decide +kernel
theorem dX6_readNumber_40 : decode cX6_readNumber 40 = .ok (.aload_n 0, 1) := by decide +kernel
theorem dX6_readNumber_41 : decode cX6_readNumber 41 = .ok (.getfield 25, 3) := by decide +kernel
theorem dX6_readNumber_44 : decode cX6_readNumber 44 = .ok (.baload, 1) := by decide +kernel
theorem dX6_readNumber_45 : decode cX6_readNumber 45 = .ok (.bipush 57, 2) := by decide +kernel
theorem dX6_readNumber_47 : decode cX6_readNumber 47 = .ok (.if_icmp .gt 40, 3) := by decide +kernel
theorem dX6_readNumber_50 : decode cX6_readNumber 50 = .ok (.iload_n 3, 1) := by decide +kernel
theorem dX6_readNumber_51 : decode cX6_readNumber 51 = .ok (.bipush 10, 2) := by decide +kernel
theorem dX6_readNumber_53 : decode cX6_readNumber 53 = .ok (.imul, 1) := by decide +kernel
theorem dX6_readNumber_54 : decode cX6_readNumber 54 = .ok (.aload_n 0, 1) := by decide +kernel
theorem dX6_readNumber_55 : decode cX6_readNumber 55 = .ok (.getfield 9, 3) := by decide +kernel
theorem dX6_readNumber_58 : decode cX6_readNumber 58 = .ok (.aload_n 0, 1) := by decide +kernel
theorem dX6_readNumber_59 : decode cX6_readNumber 59 = .ok (.getfield 25, 3) := by decide +kernel
theorem dX6_readNumber_62 : decode cX6_readNumber 62 = .ok (.baload, 1) := by decide +kernel
theorem dX6_readNumber_63 : decode cX6_readNumber 63 = .ok (.iadd, 1) := by decide +kernel
theorem dX6_readNumber_64 : decode cX6_readNumber 64 = .ok (.bipush 48, 2) := by decide +kernel
theorem dX6_readNumber_66 : decode cX6_readNumber 66 = .ok (.isub, 1) := by decide +kernel
theorem dX6_readNumber_67 : decode cX6_readNumber 67 = .ok (.sipush 1001, 3) := by decide +kernel
theorem dX6_readNumber_70 : decode cX6_readNumber 70 = .ok (.invokestatic 93, 3) := by decide +kernel
theorem dX6_readNumber_73 : decode cX6_readNumber 73 = .ok (.istore_n 3, 1) := by decide +kernel
theorem dX6_readNumber_74 : decode cX6_readNumber 74 = .ok (.aload_n 0, 1) := by decide +kernel
theorem dX6_readNumber_75 : decode cX6_readNumber 75 = .ok (.dup, 1) := by decide +kernel
theorem dX6_readNumber_76 : decode cX6_readNumber 76 = .ok (.getfield 25, 3) := by decide +kernel
theorem dX6_readNumber_79 : decode cX6_readNumber 79 = .ok (.iconst 1, 1) := by decide +kernel
theorem dX6_readNumber_80 : decode cX6_readNumber 80 = .ok (.iadd, 1) := by decide +kernel
theorem dX6_readNumber_81 : decode cX6_readNumber 81 = .ok (.putfield 25, 3) := by decide +kernel
theorem dX6_readNumber_84 : decode cX6_readNumber 84 = .ok (.goto (-73), 3) := by decide +kernel
theorem dX6_readNumber_87 : decode cX6_readNumber 87 = .ok (.aload_n 0, 1) := by decide +kernel
theorem dX6_readNumber_88 : decode cX6_readNumber 88 = .ok (.getfield 25, 3) := by decide +kernel
theorem dX6_readNumber_91 : decode cX6_readNumber 91 = .ok (.iload_n 2, 1) := by decide +kernel
theorem dX6_readNumber_92 : decode cX6_readNumber 92 = .ok (.if_icmp .ne 12, 3) := by decide +kernel
theorem dX6_readNumber_95 : decode cX6_readNumber 95 = .ok (.aload_n 0, 1) := by decide +kernel
theorem dX6_readNumber_96 : decode cX6_readNumber 96 = .ok (.iconst 1, 1) := by decide +kernel
theorem dX6_readNumber_97 : decode cX6_readNumber 97 = .ok (.iload_n 2, 1) := by decide +kernel
theorem dX6_readNumber_98 : decode cX6_readNumber 98 = .ok (.invokevirtual 62, 3) := by decide +kernel
theorem dX6_readNumber_101 : decode cX6_readNumber 101 = .ok (.goto 21, 3) := by decide +kernel
theorem dX6_readNumber_104 : decode cX6_readNumber 104 = .ok (.iload_n 3, 1) := by decide +kernel
theorem dX6_readNumber_105 : decode cX6_readNumber 105 = .ok (.iload_n 1, 1) := by decide +kernel
theorem dX6_readNumber_106 : decode cX6_readNumber 106 = .ok (.if_icmp .lt 10, 3) := by decide +kernel
theorem dX6_readNumber_109 : decode cX6_readNumber 109 = .ok (.iload_n 3, 1) := by decide +kernel
theorem dX6_readNumber_110 : decode cX6_readNumber 110 = .ok (.sipush 1000, 3) := by decide +kernel
theorem dX6_readNumber_113 : decode cX6_readNumber 113 = .ok (.if_icmp .le 9, 3) := by decide +kernel
theorem dX6_readNumber_116 : decode cX6_readNumber 116 = .ok (.aload_n 0, 1) := by decide +kernel
theorem dX6_readNumber_117 : decode cX6_readNumber 117 = .ok (.iconst 2, 1) := by decide +kernel
theorem dX6_readNumber_118 : decode cX6_readNumber 118 = .ok (.iload_n 2, 1) := by decide +kernel
theorem dX6_readNumber_119 : decode cX6_readNumber 119 = .ok (.invokevirtual 62, 3) := by decide +kernel
theorem dX6_readNumber_122 : decode cX6_readNumber 122 = .ok (.iload_n 3, 1) := by decide +kernel
theorem dX6_readNumber_123 : decode cX6_readNumber 123 = .ok (.ireturn, 1) := by decide +kernel
theorem dX6_skipBlanks_0 : decode cX6_skipBlanks 0 = .ok (.aload_n 0, 1) := by decide +kernel
theorem dX6_skipBlanks_1 : decode cX6_skipBlanks 1 = .ok (.getfield 25, 3) := by decide +kernel
theorem dX6_skipBlanks_4 : decode cX6_skipBlanks 4 = .ok (.aload_n 0, 1) := by decide +kernel
theorem dX6_skipBlanks_5 : decode cX6_skipBlanks 5 = .ok (.getfield 21, 3) := by decide +kernel
theorem dX6_skipBlanks_8 : decode cX6_skipBlanks 8 = .ok (.if_icmp .ge 30, 3) := by decide +kernel
theorem dX6_skipBlanks_11 : decode cX6_skipBlanks 11 = .ok (.aload_n 0, 1) := by decide +kernel
theorem dX6_skipBlanks_12 : decode cX6_skipBlanks 12 = .ok (.getfield 9, 3) := by decide +kernel
theorem dX6_skipBlanks_15 : decode cX6_skipBlanks 15 = .ok (.aload_n 0, 1) := by decide +kernel
theorem dX6_skipBlanks_16 : decode cX6_skipBlanks 16 = .ok (.getfield 25, 3) := by decide +kernel
theorem dX6_skipBlanks_19 : decode cX6_skipBlanks 19 = .ok (.baload, 1) := by decide +kernel
theorem dX6_skipBlanks_20 : decode cX6_skipBlanks 20 = .ok (.bipush 32, 2) := by decide +kernel
theorem dX6_skipBlanks_22 : decode cX6_skipBlanks 22 = .ok (.if_icmp .ne 16, 3) := by decide +kernel
theorem dX6_skipBlanks_25 : decode cX6_skipBlanks 25 = .ok (.aload_n 0, 1) := by decide +kernel
theorem dX6_skipBlanks_26 : decode cX6_skipBlanks 26 = .ok (.dup, 1) := by decide +kernel
theorem dX6_skipBlanks_27 : decode cX6_skipBlanks 27 = .ok (.getfield 25, 3) := by decide +kernel
theorem dX6_skipBlanks_30 : decode cX6_skipBlanks 30 = .ok (.iconst 1, 1) := by decide +kernel
theorem dX6_skipBlanks_31 : decode cX6_skipBlanks 31 = .ok (.iadd, 1) := by decide +kernel
theorem dX6_skipBlanks_32 : decode cX6_skipBlanks 32 = .ok (.putfield 25, 3) := by decide +kernel
theorem dX6_skipBlanks_35 : decode cX6_skipBlanks 35 = .ok (.goto (-35), 3) := by decide +kernel
theorem dX6_skipBlanks_38 : decode cX6_skipBlanks 38 = .ok (.return_, 1) := by decide +kernel
theorem dX6_skipLetters_0 : decode cX6_skipLetters 0 = .ok (.aload_n 0, 1) := by decide +kernel
theorem dX6_skipLetters_1 : decode cX6_skipLetters 1 = .ok (.getfield 25, 3) := by decide +kernel
theorem dX6_skipLetters_4 : decode cX6_skipLetters 4 = .ok (.aload_n 0, 1) := by decide +kernel
theorem dX6_skipLetters_5 : decode cX6_skipLetters 5 = .ok (.getfield 21, 3) := by decide +kernel
theorem dX6_skipLetters_8 : decode cX6_skipLetters 8 = .ok (.if_icmp .ge 44, 3) := by decide +kernel
theorem dX6_skipLetters_11 : decode cX6_skipLetters 11 = .ok (.aload_n 0, 1) := by decide +kernel
theorem dX6_skipLetters_12 : decode cX6_skipLetters 12 = .ok (.getfield 9, 3) := by decide +kernel
theorem dX6_skipLetters_15 : decode cX6_skipLetters 15 = .ok (.aload_n 0, 1) := by decide +kernel
theorem dX6_skipLetters_16 : decode cX6_skipLetters 16 = .ok (.getfield 25, 3) := by decide +kernel
theorem dX6_skipLetters_19 : decode cX6_skipLetters 19 = .ok (.baload, 1) := by decide +kernel
theorem dX6_skipLetters_20 : decode cX6_skipLetters 20 = .ok (.bipush 97, 2) := by decide +kernel
theorem dX6_skipLetters_22 : decode cX6_skipLetters 22 = .ok (.if_icmp .lt 30, 3) := by decide +kernel
theorem dX6_skipLetters_25 : decode cX6_skipLetters 25 = .ok (.aload_n 0, 1) := by decide +kernel
theorem dX6_skipLetters_26 : decode cX6_skipLetters 26 = .ok (.getfield 9, 3) := by decide +kernel
theorem dX6_skipLetters_29 : decode cX6_skipLetters 29 = .ok (.aload_n 0, 1) := by decide +kernel
theorem dX6_skipLetters_30 : decode cX6_skipLetters 30 = .ok (.getfield 25, 3) := by decide +kernel
theorem dX6_skipLetters_33 : decode cX6_skipLetters 33 = .ok (.baload, 1) := by decide +kernel
theorem dX6_skipLetters_34 : decode cX6_skipLetters 34 = .ok (.bipush 122, 2) := by decide +kernel
theorem dX6_skipLetters_36 : decode cX6_skipLetters 36 = .ok (.if_icmp .gt 16, 3) := by decide +kernel
theorem dX6_skipLetters_39 : decode cX6_skipLetters 39 = .ok (.aload_n 0, 1) := by decide +kernel
theorem dX6_skipLetters_40 : decode cX6_skipLetters 40 = .ok (.dup, 1) := by decide +kernel
theorem dX6_skipLetters_41 : decode cX6_skipLetters 41 = .ok (.getfield 25, 3) := by decide +kernel
theorem dX6_skipLetters_44 : decode cX6_skipLetters 44 = .ok (.iconst 1, 1) := by decide +kernel
theorem dX6_skipLetters_45 : decode cX6_skipLetters 45 = .ok (.iadd, 1) := by decide +kernel
theorem dX6_skipLetters_46 : decode cX6_skipLetters 46 = .ok (.putfield 25, 3) := by decide +kernel
theorem dX6_skipLetters_49 : decode cX6_skipLetters 49 = .ok (.goto (-49), 3) := by decide +kernel
theorem dX6_skipLetters_52 : decode cX6_skipLetters 52 = .ok (.return_, 1) := by decide +kernel
set_option maxRecDepth 20000 in
theorem ggX6_spells_J0_length_8abf5 : GoodIn wsX6_spells wsJ0_length_8abf5 := goodIn_r _ [7, 8, 9, 10, 11, 6, 12, 13, 14] (by decide +kernel) (by decide +kernel)
set_option maxRecDepth 20000 in
theorem gX6_spells_J0_length_8abf5 : GoodIn wsX6_spells (wsV RX6 99 RJ0 yJ0_length_8abf5 wsJ0_length_8abf5) := goodIn_app (goodIn_of _ (by decide +kernel)) ggX6_spells_J0_length_8abf5
set_option maxRecDepth 20000 in
theorem ggX6_spells_J0_charAt_5068e : GoodIn wsX6_spells wsJ0_charAt_5068e := goodIn_r _ [18, 8, 19, 20, 21, 6, 22, 13, 14, 23, 24, 25, 26, 27, 28, 29, 30, 31, 32, 33, 34, 35, 36, 37, 38, 39, 40, 41, 42, 43, 44, 45, 46, 47, 48, 49, 50, 51] (by decide +kernel) (by decide +kernel)
set_option maxRecDepth 20000 in
theorem gX6_spells_J0_charAt_5068e : GoodIn wsX6_spells (wsV RX6 104 RJ0 yJ0_charAt_5068e wsJ0_charAt_5068e) := goodIn_app (goodIn_of _ (by decide +kernel)) ggX6_spells_J0_charAt_5068e
theorem dX6_spells_0 : decode cX6_spells 0 = .ok (.aload_n 0, 1) := by decide +kernel
theorem dX6_spells_1 : decode cX6_spells 1 = .ok (.getfield 25, 3) := by decide +kernel
theorem dX6_spells_4 : decode cX6_spells 4 = .ok (.iload_n 1, 1) := by decide +kernel
theorem dX6_spells_5 : decode cX6_spells 5 = .ok (.isub, 1) := by decide +kernel
theorem dX6_spells_6 : decode cX6_spells 6 = .ok (.aload_n 2, 1) := by decide +kernel
theorem dX6_spells_7 : decode cX6_spells 7 = .ok (.invokevirtual 99, 3) := by decide +kernel
theorem dX6_spells_10 : decode cX6_spells 10 = .ok (.if_icmp .eq 5, 3) := by decide +kernel
theorem dX6_spells_13 : decode cX6_spells 13 = .ok (.iconst 0, 1) := by decide +kernel
theorem dX6_spells_14 : decode cX6_spells 14 = .ok (.ireturn, 1) := by decide +kernel
theorem dX6_spells_15 : decode cX6_spells 15 = .ok (.iconst 0, 1) := by decide +kernel
theorem dX6_spells_16 : decode cX6_spells 16 = .ok (.istore_n 3, 1) := by decide +kernel
theorem dX6_spells_17 : decode cX6_spells 17 = .ok (.iload_n 3, 1) := by decide +kernel
theorem dX6_spells_18 : decode cX6_spells 18 = .ok (.aload_n 2, 1) := by decide +kernel
theorem dX6_spells_19 : decode cX6_spells 19 = .ok (.invokevirtual 99, 3) := by decide +kernel
theorem dX6_spells_22 : decode cX6_spells 22 = .ok (.if_icmp .ge 27, 3) := by decide +kernel
theorem dX6_spells_25 : decode cX6_spells 25 = .ok (.aload_n 0, 1) := by decide +kernel
theorem dX6_spells_26 : decode cX6_spells 26 = .ok (.getfield 9, 3) := by decide +kernel
theorem dX6_spells_29 : decode cX6_spells 29 = .ok (.iload_n 1, 1) := by decide +kernel
theorem dX6_spells_30 : decode cX6_spells 30 = .ok (.iload_n 3, 1) := by decide +kernel
theorem dX6_spells_31 : decode cX6_spells 31 = .ok (.iadd, 1) := by decide +kernel
theorem dX6_spells_32 : decode cX6_spells 32 = .ok (.baload, 1) := by decide +kernel
theorem dX6_spells_33 : decode cX6_spells 33 = .ok (.aload_n 2, 1) := by decide +kernel
theorem dX6_spells_34 : decode cX6_spells 34 = .ok (.iload_n 3, 1) := by decide +kernel
theorem dX6_spells_35 : decode cX6_spells 35 = .ok (.invokevirtual 104, 3) := by decide +kernel
theorem dX6_spells_38 : decode cX6_spells 38 = .ok (.if_icmp .eq 5, 3) := by decide +kernel
theorem dX6_spells_41 : decode cX6_spells 41 = .ok (.iconst 0, 1) := by decide +kernel
theorem dX6_spells_42 : decode cX6_spells 42 = .ok (.ireturn, 1) := by decide +kernel
theorem dX6_spells_43 : decode cX6_spells 43 = .ok (.iinc 3 1, 3) := by decide +kernel
theorem dX6_spells_46 : decode cX6_spells 46 = .ok (.goto (-29), 3) := by decide +kernel
theorem dX6_spells_49 : decode cX6_spells 49 = .ok (.iconst 1, 1) := by decide +kernel
theorem dX6_spells_50 : decode cX6_spells 50 = .ok (.ireturn, 1) := by decide +kernel
theorem dX6_mark_0 : decode cX6_mark 0 = .ok (.aload_n 0, 1) := by decide +kernel
theorem dX6_mark_1 : decode cX6_mark 1 = .ok (.getfield 28, 3) := by decide +kernel
theorem dX6_mark_4 : decode cX6_mark 4 = .ok (.ifCond .ne 13, 3) := by decide +kernel
theorem dX6_mark_7 : decode cX6_mark 7 = .ok (.aload_n 0, 1) := by decide +kernel
theorem dX6_mark_8 : decode cX6_mark 8 = .ok (.iload_n 1, 1) := by decide +kernel
theorem dX6_mark_9 : decode cX6_mark 9 = .ok (.putfield 28, 3) := by decide +kernel
theorem dX6_mark_12 : decode cX6_mark 12 = .ok (.aload_n 0, 1) := by decide +kernel
theorem dX6_mark_13 : decode cX6_mark 13 = .ok (.iload_n 2, 1) := by decide +kernel
theorem dX6_mark_14 : decode cX6_mark 14 = .ok (.putfield 31, 3) := by decide +kernel
theorem dX6_mark_17 : decode cX6_mark 17 = .ok (.return_, 1) := by decide +kernel
set_option maxRecDepth 20000 in
theorem ggX7_init_X5_init : GoodIn wsX7_init wsX5_init := goodIn_r _ [35, 36, 2, 3, 37, 38, 39, 89, 90] (by decide +kernel) (by decide +kernel)
set_option maxRecDepth 20000 in
theorem gX7_init_X5_init_n9 : GoodIn wsX7_init (wsX5_init) := ggX7_init_X5_init
set_option maxRecDepth 20000 in
theorem ggX7_init_X6_init : GoodIn wsX7_init wsX6_init := goodIn_r _ [41, 42, 2, 3, 37, 43, 100, 101, 102, 103, 104, 105, 106, 107, 108, 109, 110] (by decide +kernel) (by decide +kernel)
set_option maxRecDepth 20000 in
theorem gX7_init_X6_init_n18 : GoodIn wsX7_init (wsX6_init) := ggX7_init_X6_init
set_option maxRecDepth 20000 in
theorem ggX7_init_X2_init : GoodIn wsX7_init wsX2_init := goodIn_r _ [45, 46, 2, 3, 47, 48, 49, 50, 51, 52, 53, 54, 55, 111, 112, 113, 114, 115, 116, 117, 118] (by decide +kernel) (by decide +kernel)
set_option maxRecDepth 20000 in
theorem gX7_init_X2_init_n25 : GoodIn wsX7_init (wsX2_init) := ggX7_init_X2_init
set_option maxRecDepth 20000 in
theorem ggX7_init_X0_init : GoodIn wsX7_init wsX0_init := goodIn_r _ [57, 58, 2, 3, 47, 59, 60, 61, 62, 63, 64, 119, 120, 121, 122] (by decide +kernel) (by decide +kernel)
set_option maxRecDepth 20000 in
theorem gX7_init_X0_init_n32 : GoodIn wsX7_init (wsX0_init) := ggX7_init_X0_init
set_option maxRecDepth 20000 in
theorem ggX7_init_X3_init : GoodIn wsX7_init wsX3_init := goodIn_r _ [66, 67, 2, 3, 47, 68, 69, 70, 71, 72, 123, 124, 125, 126, 127] (by decide +kernel) (by decide +kernel)
set_option maxRecDepth 20000 in
theorem gX7_init_X3_init_n39 : GoodIn wsX7_init (wsX3_init) := ggX7_init_X3_init
set_option maxRecDepth 20000 in
theorem ggX7_init_X1_init : GoodIn wsX7_init wsX1_init := goodIn_r _ [74, 75, 2, 3, 47, 76, 77, 78, 79, 128, 129, 130, 131] (by decide +kernel) (by decide +kernel)
set_option maxRecDepth 20000 in
theorem gX7_init_X1_init_n46 : GoodIn wsX7_init (wsX1_init) := ggX7_init_X1_init
set_option maxRecDepth 20000 in
theorem ggX7_init_X4_init : GoodIn wsX7_init wsX4_init := goodIn_r _ [81, 82, 2, 3, 60, 83, 84, 85, 62, 86, 47, 87, 88, 132, 133, 134, 135, 136] (by decide +kernel) (by decide +kernel)
set_option maxRecDepth 20000 in
theorem gX7_init_X4_init_n53 : GoodIn wsX7_init (wsX4_init) := ggX7_init_X4_init
theorem dX7_init_0 : decode cX7_init 0 = .ok (.aload_n 0, 1) := by decide +kernel
theorem dX7_init_1 : decode cX7_init 1 = .ok (.invokespecial 1, 3) := by decide +kernel
theorem dX7_init_4 : decode cX7_init 4 = .ok (.aload_n 0, 1) := by decide +kernel
theorem dX7_init_5 : decode cX7_init 5 = .ok (.new 7, 3) := by decide +kernel
theorem dX7_init_8 : decode cX7_init 8 = .ok (.dup, 1) := by decide +kernel
theorem dX7_init_9 : decode cX7_init 9 = .ok (.invokespecial 9, 3) := by decide +kernel
theorem dX7_init_12 : decode cX7_init 12 = .ok (.putfield 10, 3) := by decide +kernel
theorem dX7_init_15 : decode cX7_init 15 = .ok (.aload_n 0, 1) := by decide +kernel
theorem dX7_init_16 : decode cX7_init 16 = .ok (.new 16, 3) := by decide +kernel
theorem dX7_init_19 : decode cX7_init 19 = .ok (.dup, 1) := by decide +kernel
theorem dX7_init_20 : decode cX7_init 20 = .ok (.invokespecial 18, 3) := by decide +kernel
theorem dX7_init_23 : decode cX7_init 23 = .ok (.putfield 19, 3) := by decide +kernel
theorem dX7_init_26 : decode cX7_init 26 = .ok (.aload_n 0, 1) := by decide +kernel
theorem dX7_init_27 : decode cX7_init 27 = .ok (.new 23, 3) := by decide +kernel
theorem dX7_init_30 : decode cX7_init 30 = .ok (.dup, 1) := by decide +kernel
theorem dX7_init_31 : decode cX7_init 31 = .ok (.invokespecial 25, 3) := by decide +kernel
theorem dX7_init_34 : decode cX7_init 34 = .ok (.putfield 26, 3) := by decide +kernel
theorem dX7_init_37 : decode cX7_init 37 = .ok (.aload_n 0, 1) := by decide +kernel
theorem dX7_init_38 : decode cX7_init 38 = .ok (.new 30, 3) := by decide +kernel
theorem dX7_init_41 : decode cX7_init 41 = .ok (.dup, 1) := by decide +kernel
theorem dX7_init_42 : decode cX7_init 42 = .ok (.invokespecial 32, 3) := by decide +kernel
theorem dX7_init_45 : decode cX7_init 45 = .ok (.putfield 33, 3) := by decide +kernel
theorem dX7_init_48 : decode cX7_init 48 = .ok (.aload_n 0, 1) := by decide +kernel
theorem dX7_init_49 : decode cX7_init 49 = .ok (.new 37, 3) := by decide +kernel
theorem dX7_init_52 : decode cX7_init 52 = .ok (.dup, 1) := by decide +kernel
theorem dX7_init_53 : decode cX7_init 53 = .ok (.invokespecial 39, 3) := by decide +kernel
theorem dX7_init_56 : decode cX7_init 56 = .ok (.putfield 40, 3) := by decide +kernel
theorem dX7_init_59 : decode cX7_init 59 = .ok (.aload_n 0, 1) := by decide +kernel
theorem dX7_init_60 : decode cX7_init 60 = .ok (.new 44, 3) := by decide +kernel
theorem dX7_init_63 : decode cX7_init 63 = .ok (.dup, 1) := by decide +kernel
theorem dX7_init_64 : decode cX7_init 64 = .ok (.invokespecial 46, 3) := by decide +kernel
theorem dX7_init_67 : decode cX7_init 67 = .ok (.putfield 47, 3) := by decide +kernel
theorem dX7_init_70 : decode cX7_init 70 = .ok (.aload_n 0, 1) := by decide +kernel
theorem dX7_init_71 : decode cX7_init 71 = .ok (.new 51, 3) := by decide +kernel
theorem dX7_init_74 : decode cX7_init 74 = .ok (.dup, 1) := by decide +kernel
theorem dX7_init_75 : decode cX7_init 75 = .ok (.invokespecial 53, 3) := by decide +kernel
theorem dX7_init_78 : decode cX7_init 78 = .ok (.putfield 54, 3) := by decide +kernel
theorem dX7_init_81 : decode cX7_init 81 = .ok (.aload_n 0, 1) := by decide +kernel
theorem dX7_init_82 : decode cX7_init 82 = .ok (.iconst 0, 1) := by decide +kernel
theorem dX7_init_83 : decode cX7_init 83 = .ok (.putfield 58, 3) := by decide +kernel
theorem dX7_init_86 : decode cX7_init 86 = .ok (.aload_n 0, 1) := by decide +kernel
theorem dX7_init_87 : decode cX7_init 87 = .ok (.iconst (-1), 1) := by decide +kernel
theorem dX7_init_88 : decode cX7_init 88 = .ok (.putfield 62, 3) := by decide +kernel
theorem dX7_init_91 : decode cX7_init 91 = .ok (.return_, 1) := by decide +kernel
set_option maxRecDepth 20000 in
theorem ggX7_chief_X0_add : GoodIn wsX7_chief wsX0_add := goodIn_r _ [12, 13, 14, 15, 25, 26, 27, 28] (by decide +kernel) (by decide +kernel)
set_option maxRecDepth 20000 in
theorem gX7_chief_X0_add : GoodIn wsX7_chief (wsV RX7 81 RX0 yX0_add wsX0_add) := goodIn_app (goodIn_of _ (by decide +kernel)) ggX7_chief_X0_add
theorem dX7_chief_0 : decode cX7_chief 0 = .ok (.iload_n 1, 1) := by decide +kernel
theorem dX7_chief_1 : decode cX7_chief 1 = .ok (.ifCond .lt 9, 3) := by decide +kernel
theorem dX7_chief_4 : decode cX7_chief 4 = .ok (.iload_n 1, 1) := by decide +kernel
theorem dX7_chief_5 : decode cX7_chief 5 = .ok (.ldc 65, 2) := by decide +kernel
theorem dX7_chief_7 : decode cX7_chief 7 = .ok (.if_icmp .le 13, 3) := by decide +kernel
theorem dX7_chief_10 : decode cX7_chief 10 = .ok (.new 66, 3) := by decide +kernel
theorem dX7_chief_13 : decode cX7_chief 13 = .ok (.dup, 1) := by decide +kernel
theorem dX7_chief_14 : decode cX7_chief 14 = .ok (.ldc 68, 2) := by decide +kernel
theorem dX7_chief_16 : decode cX7_chief 16 = .ok (.invokespecial 70, 3) := by decide +kernel
theorem dX7_chief_19 : decode cX7_chief 19 = .ok (.athrow, 1) := by decide +kernel
theorem dX7_chief_20 : decode cX7_chief 20 = .ok (.aload_n 0, 1) := by decide +kernel
theorem dX7_chief_21 : decode cX7_chief 21 = .ok (.getfield 33, 3) := by decide +kernel
theorem dX7_chief_24 : decode cX7_chief 24 = .ok (.getfield 73, 3) := by decide +kernel
theorem dX7_chief_27 : decode cX7_chief 27 = .ok (.bipush 12, 2) := by decide +kernel
theorem dX7_chief_29 : decode cX7_chief 29 = .ok (.if_icmp .lt 13, 3) := by decide +kernel
theorem dX7_chief_32 : decode cX7_chief 32 = .ok (.new 76, 3) := by decide +kernel
theorem dX7_chief_35 : decode cX7_chief 35 = .ok (.dup, 1) := by decide +kernel
theorem dX7_chief_36 : decode cX7_chief 36 = .ok (.ldc 78, 2) := by decide +kernel
theorem dX7_chief_38 : decode cX7_chief 38 = .ok (.invokespecial 80, 3) := by decide +kernel
theorem dX7_chief_41 : decode cX7_chief 41 = .ok (.athrow, 1) := by decide +kernel
theorem dX7_chief_42 : decode cX7_chief 42 = .ok (.aload_n 0, 1) := by decide +kernel
theorem dX7_chief_43 : decode cX7_chief 43 = .ok (.getfield 33, 3) := by decide +kernel
theorem dX7_chief_46 : decode cX7_chief 46 = .ok (.iload_n 1, 1) := by decide +kernel
theorem dX7_chief_47 : decode cX7_chief 47 = .ok (.invokevirtual 81, 3) := by decide +kernel
theorem dX7_chief_50 : decode cX7_chief 50 = .ok (.ireturn, 1) := by decide +kernel
set_option maxRecDepth 20000 in
theorem ggX7_feed_X5_append : GoodIn wsX7_feed wsX5_append := goodIn_r _ [7, 8, 9, 19, 20] (by decide +kernel) (by decide +kernel)
set_option maxRecDepth 20000 in
theorem gX7_feed_X5_append : GoodIn wsX7_feed (wsV RX7 88 RX5 yX5_append wsX5_append) := goodIn_app (goodIn_of _ (by decide +kernel)) ggX7_feed_X5_append
theorem dX7_feed_0 : decode cX7_feed 0 = .ok (.aload_n 0, 1) := by decide +kernel
theorem dX7_feed_1 : decode cX7_feed 1 = .ok (.getfield 10, 3) := by decide +kernel
theorem dX7_feed_4 : decode cX7_feed 4 = .ok (.getfield 85, 3) := by decide +kernel
theorem dX7_feed_7 : decode cX7_feed 7 = .ok (.bipush 20, 2) := by decide +kernel
theorem dX7_feed_9 : decode cX7_feed 9 = .ok (.iadd, 1) := by decide +kernel
theorem dX7_feed_10 : decode cX7_feed 10 = .ok (.sipush 200, 3) := by decide +kernel
theorem dX7_feed_13 : decode cX7_feed 13 = .ok (.if_icmp .le 5, 3) := by decide +kernel
theorem dX7_feed_16 : decode cX7_feed 16 = .ok (.iconst (-1), 1) := by decide +kernel
theorem dX7_feed_17 : decode cX7_feed 17 = .ok (.ireturn, 1) := by decide +kernel
theorem dX7_feed_18 : decode cX7_feed 18 = .ok (.aload_n 0, 1) := by decide +kernel
theorem dX7_feed_19 : decode cX7_feed 19 = .ok (.getfield 10, 3) := by decide +kernel
theorem dX7_feed_22 : decode cX7_feed 22 = .ok (.iload_n 1, 1) := by decide +kernel
theorem dX7_feed_23 : decode cX7_feed 23 = .ok (.invokevirtual 88, 3) := by decide +kernel
theorem dX7_feed_26 : decode cX7_feed 26 = .ok (.aload_n 0, 1) := by decide +kernel
theorem dX7_feed_27 : decode cX7_feed 27 = .ok (.getfield 10, 3) := by decide +kernel
theorem dX7_feed_30 : decode cX7_feed 30 = .ok (.iload_n 2, 1) := by decide +kernel
theorem dX7_feed_31 : decode cX7_feed 31 = .ok (.invokevirtual 88, 3) := by decide +kernel
theorem dX7_feed_34 : decode cX7_feed 34 = .ok (.aload_n 0, 1) := by decide +kernel
theorem dX7_feed_35 : decode cX7_feed 35 = .ok (.getfield 10, 3) := by decide +kernel
theorem dX7_feed_38 : decode cX7_feed 38 = .ok (.iload_n 3, 1) := by decide +kernel
theorem dX7_feed_39 : decode cX7_feed 39 = .ok (.invokevirtual 88, 3) := by decide +kernel
theorem dX7_feed_42 : decode cX7_feed 42 = .ok (.aload_n 0, 1) := by decide +kernel
theorem dX7_feed_43 : decode cX7_feed 43 = .ok (.getfield 10, 3) := by decide +kernel
theorem dX7_feed_46 : decode cX7_feed 46 = .ok (.iload 4, 2) := by decide +kernel
theorem dX7_feed_48 : decode cX7_feed 48 = .ok (.invokevirtual 88, 3) := by decide +kernel
theorem dX7_feed_51 : decode cX7_feed 51 = .ok (.aload_n 0, 1) := by decide +kernel
theorem dX7_feed_52 : decode cX7_feed 52 = .ok (.getfield 10, 3) := by decide +kernel
theorem dX7_feed_55 : decode cX7_feed 55 = .ok (.iload 5, 2) := by decide +kernel
theorem dX7_feed_57 : decode cX7_feed 57 = .ok (.invokevirtual 88, 3) := by decide +kernel
theorem dX7_feed_60 : decode cX7_feed 60 = .ok (.aload_n 0, 1) := by decide +kernel
theorem dX7_feed_61 : decode cX7_feed 61 = .ok (.getfield 10, 3) := by decide +kernel
theorem dX7_feed_64 : decode cX7_feed 64 = .ok (.getfield 85, 3) := by decide +kernel
theorem dX7_feed_67 : decode cX7_feed 67 = .ok (.ireturn, 1) := by decide +kernel
set_option maxRecDepth 20000 in
theorem ggX7_custom_X6_read : GoodIn wsX7_custom wsX6_read := goodIn_r _ [18, 19, 20, 21, 22, 23, 24, 25, 26, 27, 28, 29, 30, 31, 32, 33, 17, 34, 35, 36, 37, 38, 39, 40, 41, 42, 43, 44, 45, 46, 47, 48, 49, 50, 51, 52, 53, 54, 55, 56, 57, 58, 59, 60, 61, 62, 63, 64, 65, 66, 67, 68, 69, 70, 71, 72, 73, 74, 75, 76, 77, 78, 79, 80, 81, 82, 83, 84, 85, 86, 87, 88, 89, 90, 91, 92, 93, 94, 95, 96, 97, 98, 99, 100, 101, 102, 103, 104, 105, 106, 107, 108, 109, 110, 111, 112, 113, 114, 115, 116, 117, 118, 119, 120, 121, 122, 123, 124, 125, 126, 165, 166, 167, 168, 169, 170, 171, 172, 173, 174, 175] (by decide +kernel) (by decide +kernel)
set_option maxRecDepth 20000 in
theorem gX7_custom_X6_read : GoodIn wsX7_custom (wsV RX7 101 RX6 yX6_read wsX6_read) := goodIn_app (goodIn_of _ (by decide +kernel)) ggX7_custom_X6_read
set_option maxRecDepth 20000 in
theorem ggX7_custom_X2_add : GoodIn wsX7_custom wsX2_add := goodIn_r _ [131, 132, 133, 134, 135, 136, 137, 138, 139, 140, 141, 142, 143, 144, 145, 157, 158, 159, 160, 161, 162, 163, 164, 165, 166, 167, 168, 169, 170, 171, 172, 173, 174, 175] (by decide +kernel) (by decide +kernel)
set_option maxRecDepth 20000 in
theorem gX7_custom_X2_add : GoodIn wsX7_custom (wsV RX7 109 RX2 yX2_add wsX2_add) := goodIn_app (goodIn_of _ (by decide +kernel)) ggX7_custom_X2_add
theorem dX7_custom_0 : decode cX7_custom 0 = .ok (.iload_n 1, 1) := by decide +kernel
theorem dX7_custom_1 : decode cX7_custom 1 = .ok (.ifCond .lt 25, 3) := by decide +kernel
theorem dX7_custom_4 : decode cX7_custom 4 = .ok (.iload_n 1, 1) := by decide +kernel
theorem dX7_custom_5 : decode cX7_custom 5 = .ok (.aload_n 0, 1) := by decide +kernel
theorem dX7_custom_6 : decode cX7_custom 6 = .ok (.getfield 10, 3) := by decide +kernel
theorem dX7_custom_9 : decode cX7_custom 9 = .ok (.getfield 85, 3) := by decide +kernel
theorem dX7_custom_12 : decode cX7_custom 12 = .ok (.if_icmp .gt 14, 3) := by decide +kernel
theorem dX7_custom_15 : decode cX7_custom 15 = .ok (.iload_n 2, 1) := by decide +kernel
theorem dX7_custom_16 : decode cX7_custom 16 = .ok (.ifCond .lt 10, 3) := by decide +kernel
theorem dX7_custom_19 : decode cX7_custom 19 = .ok (.iload_n 2, 1) := by decide +kernel
theorem dX7_custom_20 : decode cX7_custom 20 = .ok (.sipush 1000, 3) := by decide +kernel
theorem dX7_custom_23 : decode cX7_custom 23 = .ok (.if_icmp .le 13, 3) := by decide +kernel
theorem dX7_custom_26 : decode cX7_custom 26 = .ok (.new 66, 3) := by decide +kernel
theorem dX7_custom_29 : decode cX7_custom 29 = .ok (.dup, 1) := by decide +kernel
theorem dX7_custom_30 : decode cX7_custom 30 = .ok (.ldc 92, 2) := by decide +kernel
theorem dX7_custom_32 : decode cX7_custom 32 = .ok (.invokespecial 70, 3) := by decide +kernel
theorem dX7_custom_35 : decode cX7_custom 35 = .ok (.athrow, 1) := by decide +kernel
theorem dX7_custom_36 : decode cX7_custom 36 = .ok (.aload_n 0, 1) := by decide +kernel
theorem dX7_custom_37 : decode cX7_custom 37 = .ok (.getfield 26, 3) := by decide +kernel
theorem dX7_custom_40 : decode cX7_custom 40 = .ok (.getfield 94, 3) := by decide +kernel
theorem dX7_custom_43 : decode cX7_custom 43 = .ok (.bipush 20, 2) := by decide +kernel
theorem dX7_custom_45 : decode cX7_custom 45 = .ok (.if_icmp .lt 13, 3) := by decide +kernel
theorem dX7_custom_48 : decode cX7_custom 48 = .ok (.new 76, 3) := by decide +kernel
theorem dX7_custom_51 : decode cX7_custom 51 = .ok (.dup, 1) := by decide +kernel
theorem dX7_custom_52 : decode cX7_custom 52 = .ok (.ldc 95, 2) := by decide +kernel
theorem dX7_custom_54 : decode cX7_custom 54 = .ok (.invokespecial 80, 3) := by decide +kernel
theorem dX7_custom_57 : decode cX7_custom 57 = .ok (.athrow, 1) := by decide +kernel
theorem dX7_custom_58 : decode cX7_custom 58 = .ok (.aload_n 0, 1) := by decide +kernel
theorem dX7_custom_59 : decode cX7_custom 59 = .ok (.getfield 19, 3) := by decide +kernel
theorem dX7_custom_62 : decode cX7_custom 62 = .ok (.aload_n 0, 1) := by decide +kernel
theorem dX7_custom_63 : decode cX7_custom 63 = .ok (.getfield 10, 3) := by decide +kernel
theorem dX7_custom_66 : decode cX7_custom 66 = .ok (.getfield 97, 3) := by decide +kernel
theorem dX7_custom_69 : decode cX7_custom 69 = .ok (.iload_n 1, 1) := by decide +kernel
theorem dX7_custom_70 : decode cX7_custom 70 = .ok (.invokevirtual 101, 3) := by decide +kernel
theorem dX7_custom_73 : decode cX7_custom 73 = .ok (.aload_n 0, 1) := by decide +kernel
theorem dX7_custom_74 : decode cX7_custom 74 = .ok (.getfield 10, 3) := by decide +kernel
theorem dX7_custom_77 : decode cX7_custom 77 = .ok (.iconst 0, 1) := by decide +kernel
theorem dX7_custom_78 : decode cX7_custom 78 = .ok (.putfield 85, 3) := by decide +kernel
theorem dX7_custom_81 : decode cX7_custom 81 = .ok (.aload_n 0, 1) := by decide +kernel
theorem dX7_custom_82 : decode cX7_custom 82 = .ok (.aload_n 0, 1) := by decide +kernel
theorem dX7_custom_83 : decode cX7_custom 83 = .ok (.getfield 19, 3) := by decide +kernel
theorem dX7_custom_86 : decode cX7_custom 86 = .ok (.getfield 105, 3) := by decide +kernel
theorem dX7_custom_89 : decode cX7_custom 89 = .ok (.putfield 62, 3) := by decide +kernel
theorem dX7_custom_92 : decode cX7_custom 92 = .ok (.aload_n 0, 1) := by decide +kernel
theorem dX7_custom_93 : decode cX7_custom 93 = .ok (.getfield 19, 3) := by decide +kernel
theorem dX7_custom_96 : decode cX7_custom 96 = .ok (.getfield 106, 3) := by decide +kernel
theorem dX7_custom_99 : decode cX7_custom 99 = .ok (.ifCond .eq 14, 3) := by decide +kernel
theorem dX7_custom_102 : decode cX7_custom 102 = .ok (.aload_n 0, 1) := by decide +kernel
theorem dX7_custom_103 : decode cX7_custom 103 = .ok (.getfield 19, 3) := by decide +kernel
theorem dX7_custom_106 : decode cX7_custom 106 = .ok (.getfield 106, 3) := by decide +kernel
theorem dX7_custom_109 : decode cX7_custom 109 = .ok (.bipush 10, 2) := by decide +kernel
theorem dX7_custom_111 : decode cX7_custom 111 = .ok (.isub, 1) := by decide +kernel
theorem dX7_custom_112 : decode cX7_custom 112 = .ok (.ireturn, 1) := by decide +kernel
theorem dX7_custom_113 : decode cX7_custom 113 = .ok (.aload_n 0, 1) := by decide +kernel
theorem dX7_custom_114 : decode cX7_custom 114 = .ok (.getfield 26, 3) := by decide +kernel
theorem dX7_custom_117 : decode cX7_custom 117 = .ok (.aload_n 0, 1) := by decide +kernel
theorem dX7_custom_118 : decode cX7_custom 118 = .ok (.getfield 19, 3) := by decide +kernel
theorem dX7_custom_121 : decode cX7_custom 121 = .ok (.iload_n 2, 1) := by decide +kernel
theorem dX7_custom_122 : decode cX7_custom 122 = .ok (.invokevirtual 109, 3) := by decide +kernel
theorem dX7_custom_125 : decode cX7_custom 125 = .ok (.ireturn, 1) := by decide +kernel
theorem dX7_fault_0 : decode cX7_fault 0 = .ok (.aload_n 0, 1) := by decide +kernel
theorem dX7_fault_1 : decode cX7_fault 1 = .ok (.getfield 62, 3) := by decide +kernel
theorem dX7_fault_4 : decode cX7_fault 4 = .ok (.ireturn, 1) := by decide +kernel
set_option maxRecDepth 20000 in
theorem ggX7_force_X2_inForce : GoodIn wsX7_force wsX2_inForce := goodIn_r _ [6, 7, 8, 18, 19, 20, 21, 22, 23, 24, 25] (by decide +kernel) (by decide +kernel)
set_option maxRecDepth 20000 in
theorem gX7_force_X2_inForce : GoodIn wsX7_force (wsV RX7 112 RX2 yX2_inForce wsX2_inForce) := goodIn_app (goodIn_of _ (by decide +kernel)) ggX7_force_X2_inForce
theorem dX7_force_0 : decode cX7_force 0 = .ok (.aload_n 0, 1) := by decide +kernel
theorem dX7_force_1 : decode cX7_force 1 = .ok (.getfield 26, 3) := by decide +kernel
theorem dX7_force_4 : decode cX7_force 4 = .ok (.iload_n 1, 1) := by decide +kernel
theorem dX7_force_5 : decode cX7_force 5 = .ok (.invokevirtual 112, 3) := by decide +kernel
theorem dX7_force_8 : decode cX7_force 8 = .ok (.ireturn, 1) := by decide +kernel
set_option maxRecDepth 20000 in
theorem ggX7_give_X7_checkHandingOver : GoodIn wsX7_give wsX7_checkHandingOver := goodIn_ca (goodIn_ca (goodIn_ca (goodIn_r _ [8, 9, 10, 11, 12, 13, 7, 14, 15, 16, 1, 17, 18, 19, 20, 21, 22, 23, 24, 108, 109, 110, 111, 112, 113, 114, 115, 116, 117, 118, 119, 120] (by decide +kernel) (by decide +kernel)) (goodIn_sub (fun _ h => List.mem_cons_of_mem _ (List.mem_append_left _ (List.mem_append_left _ (List.mem_append_right _ h)))) (by decide +kernel))) (goodIn_sub (fun _ h => List.mem_cons_of_mem _ (List.mem_append_left _ (List.mem_append_right _ h))) (by decide +kernel))) (goodIn_sub (fun _ h => List.mem_cons_of_mem _ (List.mem_append_right _ h)) (by decide +kernel))
set_option maxRecDepth 20000 in
theorem gX7_give_X7_checkHandingOver : GoodIn wsX7_give (wsV RX7 115 RX7 yX7_checkHandingOver wsX7_checkHandingOver) := goodIn_app (goodIn_of _ (by decide +kernel)) ggX7_give_X7_checkHandingOver
set_option maxRecDepth 20000 in
theorem ggX7_give_X7_debtsMadeBy : GoodIn wsX7_give wsX7_debtsMadeBy := goodIn_r _ [28, 3, 29, 30, 31, 32, 33, 34, 35, 36, 37, 38, 39, 40, 41, 42, 43, 44, 45, 46, 47, 48, 49, 50, 51, 52, 53, 54, 55, 56, 57, 58, 59, 60, 61, 62, 108, 109, 110, 111, 112, 113, 114, 115, 116, 121, 122, 123, 124, 125, 126, 127, 128, 129, 130, 131, 132, 133] (by decide +kernel) (by decide +kernel)
set_option maxRecDepth 20000 in
theorem gX7_give_X7_debtsMadeBy : GoodIn wsX7_give (wsV RX7 123 RX7 yX7_debtsMadeBy wsX7_debtsMadeBy) := goodIn_app (goodIn_of _ (by decide +kernel)) ggX7_give_X7_debtsMadeBy
set_option maxRecDepth 20000 in
theorem ggX7_give_X3_room : GoodIn wsX7_give wsX3_room := goodIn_r _ [66, 40, 121, 122, 123, 124, 125] (by decide +kernel) (by decide +kernel)
set_option maxRecDepth 20000 in
theorem gX7_give_X3_room : GoodIn wsX7_give (wsV RX7 127 RX3 yX3_room wsX3_room) := goodIn_app (goodIn_of _ (by decide +kernel)) ggX7_give_X3_room
set_option maxRecDepth 20000 in
theorem ggX7_give_X0_moveBlankets : GoodIn wsX7_give wsX0_moveBlankets := goodIn_r _ [71, 72, 117, 118, 119, 120] (by decide +kernel) (by decide +kernel)
set_option maxRecDepth 20000 in
theorem gX7_give_X0_moveBlankets : GoodIn wsX7_give (wsV RX7 131 RX0 yX0_moveBlankets wsX0_moveBlankets) := goodIn_app (goodIn_of _ (by decide +kernel)) ggX7_give_X0_moveBlankets
set_option maxRecDepth 20000 in
theorem ggX7_give_X7_recordGiven : GoodIn wsX7_give wsX7_recordGiven := goodIn_r _ [76, 3, 1, 77, 33, 34, 78, 79, 80, 38, 81, 40, 41, 82, 83, 31, 84, 85, 86, 87, 88, 42, 43, 44, 45, 46, 47, 89, 90, 91, 92, 93, 94, 95, 96, 97, 98, 48, 49, 50, 51, 52, 53, 54, 55, 56, 57, 58, 59, 60, 61, 62, 30, 32, 99, 100, 101, 102, 103, 104, 105, 106, 107, 108, 109, 110, 111, 112, 113, 114, 115, 116, 117, 118, 119, 120, 121, 122, 123, 124, 125, 126, 127, 128, 129, 130, 131, 132, 133] (by decide +kernel) (by decide +kernel)
set_option maxRecDepth 20000 in
theorem gX7_give_X7_recordGiven : GoodIn wsX7_give (wsV RX7 134 RX7 yX7_recordGiven wsX7_recordGiven) := goodIn_app (goodIn_of _ (by decide +kernel)) ggX7_give_X7_recordGiven
theorem dX7_give_0 : decode cX7_give 0 = .ok (.aload_n 0, 1) := by decide +kernel
theorem dX7_give_1 : decode cX7_give 1 = .ok (.iload_n 1, 1) := by decide +kernel
theorem dX7_give_2 : decode cX7_give 2 = .ok (.iload_n 2, 1) := by decide +kernel
theorem dX7_give_3 : decode cX7_give 3 = .ok (.iload_n 3, 1) := by decide +kernel
theorem dX7_give_4 : decode cX7_give 4 = .ok (.invokevirtual 115, 3) := by decide +kernel
theorem dX7_give_7 : decode cX7_give 7 = .ok (.aload_n 0, 1) := by decide +kernel
theorem dX7_give_8 : decode cX7_give 8 = .ok (.getfield 33, 3) := by decide +kernel
theorem dX7_give_11 : decode cX7_give 11 = .ok (.getfield 119, 3) := by decide +kernel
theorem dX7_give_14 : decode cX7_give 14 = .ok (.iload_n 1, 1) := by decide +kernel
theorem dX7_give_15 : decode cX7_give 15 = .ok (.iaload, 1) := by decide +kernel
theorem dX7_give_16 : decode cX7_give 16 = .ok (.iload_n 3, 1) := by decide +kernel
theorem dX7_give_17 : decode cX7_give 17 = .ok (.if_icmp .ge 5, 3) := by decide +kernel
theorem dX7_give_20 : decode cX7_give 20 = .ok (.iconst (-1), 1) := by decide +kernel
theorem dX7_give_21 : decode cX7_give 21 = .ok (.ireturn, 1) := by decide +kernel
theorem dX7_give_22 : decode cX7_give 22 = .ok (.aload_n 0, 1) := by decide +kernel
theorem dX7_give_23 : decode cX7_give 23 = .ok (.iload_n 1, 1) := by decide +kernel
theorem dX7_give_24 : decode cX7_give 24 = .ok (.iload_n 2, 1) := by decide +kernel
theorem dX7_give_25 : decode cX7_give 25 = .ok (.iload_n 3, 1) := by decide +kernel
theorem dX7_give_26 : decode cX7_give 26 = .ok (.invokevirtual 123, 3) := by decide +kernel
theorem dX7_give_29 : decode cX7_give 29 = .ok (.aload_n 0, 1) := by decide +kernel
theorem dX7_give_30 : decode cX7_give 30 = .ok (.getfield 40, 3) := by decide +kernel
theorem dX7_give_33 : decode cX7_give 33 = .ok (.invokevirtual 127, 3) := by decide +kernel
theorem dX7_give_36 : decode cX7_give 36 = .ok (.if_icmp .le 6, 3) := by decide +kernel
theorem dX7_give_39 : decode cX7_give 39 = .ok (.bipush (-2), 2) := by decide +kernel
theorem dX7_give_41 : decode cX7_give 41 = .ok (.ireturn, 1) := by decide +kernel
theorem dX7_give_42 : decode cX7_give 42 = .ok (.aload_n 0, 1) := by decide +kernel
theorem dX7_give_43 : decode cX7_give 43 = .ok (.getfield 33, 3) := by decide +kernel
theorem dX7_give_46 : decode cX7_give 46 = .ok (.iload_n 1, 1) := by decide +kernel
theorem dX7_give_47 : decode cX7_give 47 = .ok (.iload_n 2, 1) := by decide +kernel
theorem dX7_give_48 : decode cX7_give 48 = .ok (.iload_n 3, 1) := by decide +kernel
theorem dX7_give_49 : decode cX7_give 49 = .ok (.invokevirtual 131, 3) := by decide +kernel
theorem dX7_give_52 : decode cX7_give 52 = .ok (.aload_n 0, 1) := by decide +kernel
theorem dX7_give_53 : decode cX7_give 53 = .ok (.iload_n 1, 1) := by decide +kernel
theorem dX7_give_54 : decode cX7_give 54 = .ok (.iload_n 2, 1) := by decide +kernel
theorem dX7_give_55 : decode cX7_give 55 = .ok (.iload_n 3, 1) := by decide +kernel
theorem dX7_give_56 : decode cX7_give 56 = .ok (.invokevirtual 134, 3) := by decide +kernel
theorem dX7_give_59 : decode cX7_give 59 = .ok (.ireturn, 1) := by decide +kernel
set_option maxRecDepth 20000 in
theorem ggX7_lend_X7_checkHandingOver : GoodIn wsX7_lend wsX7_checkHandingOver := goodIn_ca (goodIn_ca (goodIn_ca (goodIn_r _ [8, 9, 10, 11, 12, 13, 7, 14, 15, 16, 1, 17, 18, 19, 20, 21, 22, 23, 24, 45, 46, 47, 48, 49, 50, 51, 52, 53, 54, 55, 56, 57] (by decide +kernel) (by decide +kernel)) (goodIn_sub (fun _ h => List.mem_cons_of_mem _ (List.mem_append_left _ (List.mem_append_left _ (List.mem_append_right _ h)))) (by decide +kernel))) (goodIn_sub (fun _ h => List.mem_cons_of_mem _ (List.mem_append_left _ (List.mem_append_right _ h))) (by decide +kernel))) (goodIn_sub (fun _ h => List.mem_cons_of_mem _ (List.mem_append_right _ h)) (by decide +kernel))
set_option maxRecDepth 20000 in
theorem gX7_lend_X7_checkHandingOver : GoodIn wsX7_lend (wsV RX7 115 RX7 yX7_checkHandingOver wsX7_checkHandingOver) := goodIn_app (goodIn_of _ (by decide +kernel)) ggX7_lend_X7_checkHandingOver
set_option maxRecDepth 20000 in
theorem ggX7_lend_X3_room : GoodIn wsX7_lend wsX3_room := goodIn_r _ [29, 30, 58, 59, 60, 61, 62] (by decide +kernel) (by decide +kernel)
set_option maxRecDepth 20000 in
theorem gX7_lend_X3_room : GoodIn wsX7_lend (wsV RX7 127 RX3 yX3_room wsX3_room) := goodIn_app (goodIn_of _ (by decide +kernel)) ggX7_lend_X3_room
set_option maxRecDepth 20000 in
theorem ggX7_lend_X0_moveBlankets : GoodIn wsX7_lend wsX0_moveBlankets := goodIn_r _ [35, 36, 54, 55, 56, 57] (by decide +kernel) (by decide +kernel)
set_option maxRecDepth 20000 in
theorem gX7_lend_X0_moveBlankets : GoodIn wsX7_lend (wsV RX7 131 RX0 yX0_moveBlankets wsX0_moveBlankets) := goodIn_app (goodIn_of _ (by decide +kernel)) ggX7_lend_X0_moveBlankets
set_option maxRecDepth 20000 in
theorem ggX7_lend_X3_add : GoodIn wsX7_lend wsX3_add := goodIn_r _ [40, 41, 30, 42, 43, 44, 58, 59, 60, 61, 62] (by decide +kernel) (by decide +kernel)
set_option maxRecDepth 20000 in
theorem gX7_lend_X3_add : GoodIn wsX7_lend (wsV RX7 137 RX3 yX3_add wsX3_add) := goodIn_app (goodIn_of _ (by decide +kernel)) ggX7_lend_X3_add
theorem dX7_lend_0 : decode cX7_lend 0 = .ok (.aload_n 0, 1) := by decide +kernel
theorem dX7_lend_1 : decode cX7_lend 1 = .ok (.iload_n 1, 1) := by decide +kernel
theorem dX7_lend_2 : decode cX7_lend 2 = .ok (.iload_n 2, 1) := by decide +kernel
theorem dX7_lend_3 : decode cX7_lend 3 = .ok (.iload_n 3, 1) := by decide +kernel
theorem dX7_lend_4 : decode cX7_lend 4 = .ok (.invokevirtual 115, 3) := by decide +kernel
theorem dX7_lend_7 : decode cX7_lend 7 = .ok (.aload_n 0, 1) := by decide +kernel
theorem dX7_lend_8 : decode cX7_lend 8 = .ok (.getfield 33, 3) := by decide +kernel
theorem dX7_lend_11 : decode cX7_lend 11 = .ok (.getfield 119, 3) := by decide +kernel
theorem dX7_lend_14 : decode cX7_lend 14 = .ok (.iload_n 1, 1) := by decide +kernel
theorem dX7_lend_15 : decode cX7_lend 15 = .ok (.iaload, 1) := by decide +kernel
theorem dX7_lend_16 : decode cX7_lend 16 = .ok (.iload_n 3, 1) := by decide +kernel
theorem dX7_lend_17 : decode cX7_lend 17 = .ok (.if_icmp .ge 5, 3) := by decide +kernel
theorem dX7_lend_20 : decode cX7_lend 20 = .ok (.iconst (-1), 1) := by decide +kernel
theorem dX7_lend_21 : decode cX7_lend 21 = .ok (.ireturn, 1) := by decide +kernel
theorem dX7_lend_22 : decode cX7_lend 22 = .ok (.aload_n 0, 1) := by decide +kernel
theorem dX7_lend_23 : decode cX7_lend 23 = .ok (.getfield 40, 3) := by decide +kernel
theorem dX7_lend_26 : decode cX7_lend 26 = .ok (.invokevirtual 127, 3) := by decide +kernel
theorem dX7_lend_29 : decode cX7_lend 29 = .ok (.iconst 1, 1) := by decide +kernel
theorem dX7_lend_30 : decode cX7_lend 30 = .ok (.if_icmp .ge 6, 3) := by decide +kernel
theorem dX7_lend_33 : decode cX7_lend 33 = .ok (.bipush (-2), 2) := by decide +kernel
theorem dX7_lend_35 : decode cX7_lend 35 = .ok (.ireturn, 1) := by decide +kernel
theorem dX7_lend_36 : decode cX7_lend 36 = .ok (.aload_n 0, 1) := by decide +kernel
theorem dX7_lend_37 : decode cX7_lend 37 = .ok (.getfield 33, 3) := by decide +kernel
theorem dX7_lend_40 : decode cX7_lend 40 = .ok (.iload_n 1, 1) := by decide +kernel
theorem dX7_lend_41 : decode cX7_lend 41 = .ok (.iload_n 2, 1) := by decide +kernel
theorem dX7_lend_42 : decode cX7_lend 42 = .ok (.iload_n 3, 1) := by decide +kernel
theorem dX7_lend_43 : decode cX7_lend 43 = .ok (.invokevirtual 131, 3) := by decide +kernel
theorem dX7_lend_46 : decode cX7_lend 46 = .ok (.aload_n 0, 1) := by decide +kernel
theorem dX7_lend_47 : decode cX7_lend 47 = .ok (.getfield 40, 3) := by decide +kernel
theorem dX7_lend_50 : decode cX7_lend 50 = .ok (.iload_n 2, 1) := by decide +kernel
theorem dX7_lend_51 : decode cX7_lend 51 = .ok (.iload_n 1, 1) := by decide +kernel
theorem dX7_lend_52 : decode cX7_lend 52 = .ok (.iload_n 3, 1) := by decide +kernel
theorem dX7_lend_53 : decode cX7_lend 53 = .ok (.iconst (-1), 1) := by decide +kernel
theorem dX7_lend_54 : decode cX7_lend 54 = .ok (.invokevirtual 137, 3) := by decide +kernel
theorem dX7_lend_57 : decode cX7_lend 57 = .ok (.ireturn, 1) := by decide +kernel
