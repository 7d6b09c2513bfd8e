theorem dX4_init_0 : decode cX4_init 0 = .ok (.aload_n 0, 1) := by decide +kernel
theorem dX4_init_1 : decode cX4_init 1 = .ok (.invokespecial 1, 3) := by decide +kernel
theorem dX4_init_4 : decode cX4_init 4 = .ok (.aload_n 0, 1) := by decide +kernel
theorem dX4_init_5 : decode cX4_init 5 = .ok (.sipush 1061, 3) := by decide +kernel
theorem dX4_init_8 : decode cX4_init 8 = .ok (.newarray .int, 2) := by decide +kernel
theorem dX4_init_10 : decode cX4_init 10 = .ok (.putfield 7, 3) := by decide +kernel
theorem dX4_init_13 : decode cX4_init 13 = .ok (.aload_n 0, 1) := by decide +kernel
theorem dX4_init_14 : decode cX4_init 14 = .ok (.sipush 1061, 3) := by decide +kernel
theorem dX4_init_17 : decode cX4_init 17 = .ok (.newarray .int, 2) := by decide +kernel
theorem dX4_init_19 : decode cX4_init 19 = .ok (.putfield 13, 3) := by decide +kernel
theorem dX4_init_22 : decode cX4_init 22 = .ok (.aload_n 0, 1) := by decide +kernel
theorem dX4_init_23 : decode cX4_init 23 = .ok (.sipush 1061, 3) := by decide +kernel
theorem dX4_init_26 : decode cX4_init 26 = .ok (.newarray .int, 2) := by decide +kernel
theorem dX4_init_28 : decode cX4_init 28 = .ok (.putfield 16, 3) := by decide +kernel
theorem dX4_init_31 : decode cX4_init 31 = .ok (.aload_n 0, 1) := by decide +kernel
theorem dX4_init_32 : decode cX4_init 32 = .ok (.bipush 60, 2) := by decide +kernel
theorem dX4_init_34 : decode cX4_init 34 = .ok (.newarray .int, 2) := by decide +kernel
theorem dX4_init_36 : decode cX4_init 36 = .ok (.putfield 19, 3) := by decide +kernel
theorem dX4_init_39 : decode cX4_init 39 = .ok (.aload_n 0, 1) := by decide +kernel
theorem dX4_init_40 : decode cX4_init 40 = .ok (.bipush 60, 2) := by decide +kernel
theorem dX4_init_42 : decode cX4_init 42 = .ok (.newarray .boolean, 2) := by decide +kernel
theorem dX4_init_44 : decode cX4_init 44 = .ok (.putfield 22, 3) := by decide +kernel
theorem dX4_init_47 : decode cX4_init 47 = .ok (.aload_n 0, 1) := by decide +kernel
theorem dX4_init_48 : decode cX4_init 48 = .ok (.bipush 60, 2) := by decide +kernel
theorem dX4_init_50 : decode cX4_init 50 = .ok (.newarray .boolean, 2) := by decide +kernel
theorem dX4_init_52 : decode cX4_init 52 = .ok (.putfield 26, 3) := by decide +kernel
theorem dX4_init_55 : decode cX4_init 55 = .ok (.aload_n 0, 1) := by decide +kernel
theorem dX4_init_56 : decode cX4_init 56 = .ok (.bipush 60, 2) := by decide +kernel
theorem dX4_init_58 : decode cX4_init 58 = .ok (.newarray .long, 2) := by decide +kernel
theorem dX4_init_60 : decode cX4_init 60 = .ok (.putfield 29, 3) := by decide +kernel
theorem dX4_init_63 : decode cX4_init 63 = .ok (.aload_n 0, 1) := by decide +kernel
theorem dX4_init_64 : decode cX4_init 64 = .ok (.bipush 60, 2) := by decide +kernel
theorem dX4_init_66 : decode cX4_init 66 = .ok (.newarray .int, 2) := by decide +kernel
theorem dX4_init_68 : decode cX4_init 68 = .ok (.putfield 33, 3) := by decide +kernel
theorem dX4_init_71 : decode cX4_init 71 = .ok (.aload_n 0, 1) := by decide +kernel
theorem dX4_init_72 : decode cX4_init 72 = .ok (.bipush 60, 2) := by decide +kernel
theorem dX4_init_74 : decode cX4_init 74 = .ok (.newarray .long, 2) := by decide +kernel
theorem dX4_init_76 : decode cX4_init 76 = .ok (.putfield 36, 3) := by decide +kernel
theorem dX4_init_79 : decode cX4_init 79 = .ok (.aload_n 0, 1) := by decide +kernel
theorem dX4_init_80 : decode cX4_init 80 = .ok (.bipush 60, 2) := by decide +kernel
theorem dX4_init_82 : decode cX4_init 82 = .ok (.newarray .int, 2) := by decide +kernel
theorem dX4_init_84 : decode cX4_init 84 = .ok (.putfield 39, 3) := by decide +kernel
theorem dX4_init_87 : decode cX4_init 87 = .ok (.aload_n 0, 1) := by decide +kernel
theorem dX4_init_88 : decode cX4_init 88 = .ok (.sipush 720, 3) := by decide +kernel
theorem dX4_init_91 : decode cX4_init 91 = .ok (.newarray .int, 2) := by decide +kernel
theorem dX4_init_93 : decode cX4_init 93 = .ok (.putfield 42, 3) := by decide +kernel
theorem dX4_init_96 : decode cX4_init 96 = .ok (.aload_n 0, 1) := by decide +kernel
theorem dX4_init_97 : decode cX4_init 97 = .ok (.sipush 720, 3) := by decide +kernel
theorem dX4_init_100 : decode cX4_init 100 = .ok (.newarray .boolean, 2) := by decide +kernel
theorem dX4_init_102 : decode cX4_init 102 = .ok (.putfield 45, 3) := by decide +kernel
theorem dX4_init_105 : decode cX4_init 105 = .ok (.aload_n 0, 1) := by decide +kernel
theorem dX4_init_106 : decode cX4_init 106 = .ok (.bipush 60, 2) := by decide +kernel
theorem dX4_init_108 : decode cX4_init 108 = .ok (.newarray .int, 2) := by decide +kernel
theorem dX4_init_110 : decode cX4_init 110 = .ok (.putfield 48, 3) := by decide +kernel
theorem dX4_init_113 : decode cX4_init 113 = .ok (.aload_n 0, 1) := by decide +kernel
theorem dX4_init_114 : decode cX4_init 114 = .ok (.sipush 720, 3) := by decide +kernel
theorem dX4_init_117 : decode cX4_init 117 = .ok (.newarray .int, 2) := by decide +kernel
theorem dX4_init_119 : decode cX4_init 119 = .ok (.putfield 51, 3) := by decide +kernel
theorem dX4_init_122 : decode cX4_init 122 = .ok (.aload_n 0, 1) := by decide +kernel
theorem dX4_init_123 : decode cX4_init 123 = .ok (.bipush 60, 2) := by decide +kernel
theorem dX4_init_125 : decode cX4_init 125 = .ok (.newarray .int, 2) := by decide +kernel
theorem dX4_init_127 : decode cX4_init 127 = .ok (.putfield 54, 3) := by decide +kernel
theorem dX4_init_130 : decode cX4_init 130 = .ok (.aload_n 0, 1) := by decide +kernel
theorem dX4_init_131 : decode cX4_init 131 = .ok (.sipush 360, 3) := by decide +kernel
theorem dX4_init_134 : decode cX4_init 134 = .ok (.newarray .long, 2) := by decide +kernel
theorem dX4_init_136 : decode cX4_init 136 = .ok (.putfield 57, 3) := by decide +kernel
theorem dX4_init_139 : decode cX4_init 139 = .ok (.aload_n 0, 1) := by decide +kernel
theorem dX4_init_140 : decode cX4_init 140 = .ok (.ldc2_w 60, 3) := by decide +kernel
theorem dX4_init_143 : decode cX4_init 143 = .ok (.putfield 62, 3) := by decide +kernel
theorem dX4_init_146 : decode cX4_init 146 = .ok (.aload_n 0, 1) := by decide +kernel
theorem dX4_init_147 : decode cX4_init 147 = .ok (.sipush 2000, 3) := by decide +kernel
theorem dX4_init_150 : decode cX4_init 150 = .ok (.newarray .long, 2) := by decide +kernel
theorem dX4_init_152 : decode cX4_init 152 = .ok (.putfield 66, 3) := by decide +kernel
theorem dX4_init_155 : decode cX4_init 155 = .ok (.return_, 1) := by decide +kernel
theorem dX4_isBag_0 : decode cX4_isBag 0 = .ok (.iload_n 1, 1) := by decide +kernel
theorem dX4_isBag_1 : decode cX4_isBag 1 = .ok (.sipush 1000, 3) := by decide +kernel
theorem dX4_isBag_4 : decode cX4_isBag 4 = .ok (.if_icmp .le 19, 3) := by decide +kernel
theorem dX4_isBag_7 : decode cX4_isBag 7 = .ok (.iload_n 1, 1) := by decide +kernel
theorem dX4_isBag_8 : decode cX4_isBag 8 = .ok (.sipush 1000, 3) := by decide +kernel
theorem dX4_isBag_11 : decode cX4_isBag 11 = .ok (.aload_n 0, 1) := by decide +kernel
theorem dX4_isBag_12 : decode cX4_isBag 12 = .ok (.getfield 73, 3) := by decide +kernel
theorem dX4_isBag_15 : decode cX4_isBag 15 = .ok (.iadd, 1) := by decide +kernel
theorem dX4_isBag_16 : decode cX4_isBag 16 = .ok (.if_icmp .gt 7, 3) := by decide +kernel
theorem dX4_isBag_19 : decode cX4_isBag 19 = .ok (.iconst 1, 1) := by decide +kernel
theorem dX4_isBag_20 : decode cX4_isBag 20 = .ok (.goto 4, 3) := by decide +kernel
theorem dX4_isBag_23 : decode cX4_isBag 23 = .ok (.iconst 0, 1) := by decide +kernel
theorem dX4_isBag_24 : decode cX4_isBag 24 = .ok (.ireturn, 1) := by decide +kernel
theorem dX4_isThing_0 : decode cX4_isThing 0 = .ok (.iload_n 1, 1) := by decide +kernel
theorem dX4_isThing_1 : decode cX4_isThing 1 = .ok (.ifCond .le 10, 3) := by decide +kernel
theorem dX4_isThing_4 : decode cX4_isThing 4 = .ok (.iload_n 1, 1) := by decide +kernel
theorem dX4_isThing_5 : decode cX4_isThing 5 = .ok (.sipush 1000, 3) := by decide +kernel
theorem dX4_isThing_8 : decode cX4_isThing 8 = .ok (.if_icmp .lt 11, 3) := by decide +kernel
theorem dX4_isThing_11 : decode cX4_isThing 11 = .ok (.aload_n 0, 1) := by decide +kernel
theorem dX4_isThing_12 : decode cX4_isThing 12 = .ok (.iload_n 1, 1) := by decide +kernel
theorem dX4_isThing_13 : decode cX4_isThing 13 = .ok (.invokevirtual 76, 3) := by decide +kernel
theorem dX4_isThing_16 : decode cX4_isThing 16 = .ok (.ifCond .eq 7, 3) := by decide +kernel
theorem dX4_isThing_19 : decode cX4_isThing 19 = .ok (.iconst 1, 1) := by decide +kernel
theorem dX4_isThing_20 : decode cX4_isThing 20 = .ok (.goto 4, 3) := by decide +kernel
theorem dX4_isThing_23 : decode cX4_isThing 23 = .ok (.iconst 0, 1) := by decide +kernel
theorem dX4_isThing_24 : decode cX4_isThing 24 = .ok (.ireturn, 1) := by decide +kernel
theorem dX4_kindOf_0 : decode cX4_kindOf 0 = .ok (.iload_n 1, 1) := by decide +kernel
theorem dX4_kindOf_1 : decode cX4_kindOf 1 = .ok (.sipush 1000, 3) := by decide +kernel
theorem dX4_kindOf_4 : decode cX4_kindOf 4 = .ok (.if_icmp .le 16, 3) := by decide +kernel
theorem dX4_kindOf_7 : decode cX4_kindOf 7 = .ok (.aload_n 0, 1) := by decide +kernel
theorem dX4_kindOf_8 : decode cX4_kindOf 8 = .ok (.getfield 19, 3) := by decide +kernel
theorem dX4_kindOf_11 : decode cX4_kindOf 11 = .ok (.iload_n 1, 1) := by decide +kernel
theorem dX4_kindOf_12 : decode cX4_kindOf 12 = .ok (.sipush 1001, 3) := by decide +kernel
theorem dX4_kindOf_15 : decode cX4_kindOf 15 = .ok (.isub, 1) := by decide +kernel
theorem dX4_kindOf_16 : decode cX4_kindOf 16 = .ok (.iaload, 1) := by decide +kernel
theorem dX4_kindOf_17 : decode cX4_kindOf 17 = .ok (.goto 4, 3) := by decide +kernel
theorem dX4_kindOf_20 : decode cX4_kindOf 20 = .ok (.iconst (-1), 1) := by decide +kernel
theorem dX4_kindOf_21 : decode cX4_kindOf 21 = .ok (.ireturn, 1) := by decide +kernel
theorem dX4_outer_0 : decode cX4_outer 0 = .ok (.aload_n 0, 1) := by decide +kernel
theorem dX4_outer_1 : decode cX4_outer 1 = .ok (.getfield 7, 3) := by decide +kernel
theorem dX4_outer_4 : decode cX4_outer 4 = .ok (.iload_n 1, 1) := by decide +kernel
theorem dX4_outer_5 : decode cX4_outer 5 = .ok (.iaload, 1) := by decide +kernel
theorem dX4_outer_6 : decode cX4_outer 6 = .ok (.ireturn, 1) := by decide +kernel
theorem dX4_liesIn_0 : decode cX4_liesIn 0 = .ok (.iconst 0, 1) := by decide +kernel
theorem dX4_liesIn_1 : decode cX4_liesIn 1 = .ok (.istore_n 3, 1) := by decide +kernel
theorem dX4_liesIn_2 : decode cX4_liesIn 2 = .ok (.aload_n 0, 1) := by decide +kernel
theorem dX4_liesIn_3 : decode cX4_liesIn 3 = .ok (.getfield 7, 3) := by decide +kernel
theorem dX4_liesIn_6 : decode cX4_liesIn 6 = .ok (.iload_n 1, 1) := by decide +kernel
theorem dX4_liesIn_7 : decode cX4_liesIn 7 = .ok (.iaload, 1) := by decide +kernel
theorem dX4_liesIn_8 : decode cX4_liesIn 8 = .ok (.istore 4, 2) := by decide +kernel
theorem dX4_liesIn_10 : decode cX4_liesIn 10 = .ok (.iload 4, 2) := by decide +kernel
theorem dX4_liesIn_12 : decode cX4_liesIn 12 = .ok (.ifCond .eq 30, 3) := by decide +kernel
theorem dX4_liesIn_15 : decode cX4_liesIn 15 = .ok (.iload_n 3, 1) := by decide +kernel
theorem dX4_liesIn_16 : decode cX4_liesIn 16 = .ok (.ifCond .ne 9, 3) := by decide +kernel
theorem dX4_liesIn_19 : decode cX4_liesIn 19 = .ok (.iload 4, 2) := by decide +kernel
theorem dX4_liesIn_21 : decode cX4_liesIn 21 = .ok (.iload_n 2, 1) := by decide +kernel
theorem dX4_liesIn_22 : decode cX4_liesIn 22 = .ok (.if_icmp .ne 7, 3) := by decide +kernel
theorem dX4_liesIn_25 : decode cX4_liesIn 25 = .ok (.iconst 1, 1) := by decide +kernel
theorem dX4_liesIn_26 : decode cX4_liesIn 26 = .ok (.goto 4, 3) := by decide +kernel
theorem dX4_liesIn_29 : decode cX4_liesIn 29 = .ok (.iconst 0, 1) := by decide +kernel
theorem dX4_liesIn_30 : decode cX4_liesIn 30 = .ok (.istore_n 3, 1) := by decide +kernel
theorem dX4_liesIn_31 : decode cX4_liesIn 31 = .ok (.aload_n 0, 1) := by decide +kernel
theorem dX4_liesIn_32 : decode cX4_liesIn 32 = .ok (.iload 4, 2) := by decide +kernel
theorem dX4_liesIn_34 : decode cX4_liesIn 34 = .ok (.invokevirtual 80, 3) := by decide +kernel
theorem dX4_liesIn_37 : decode cX4_liesIn 37 = .ok (.istore 4, 2) := by decide +kernel
theorem dX4_liesIn_39 : decode cX4_liesIn 39 = .ok (.goto (-29), 3) := by decide +kernel
theorem dX4_liesIn_42 : decode cX4_liesIn 42 = .ok (.iload_n 3, 1) := by decide +kernel
theorem dX4_liesIn_43 : decode cX4_liesIn 43 = .ok (.ireturn, 1) := by decide +kernel
theorem dX4_isShutIn_0 : decode cX4_isShutIn 0 = .ok (.iconst 0, 1) := by decide +kernel
theorem dX4_isShutIn_1 : decode cX4_isShutIn 1 = .ok (.istore_n 2, 1) := by decide +kernel
theorem dX4_isShutIn_2 : decode cX4_isShutIn 2 = .ok (.aload_n 0, 1) := by decide +kernel
theorem dX4_isShutIn_3 : decode cX4_isShutIn 3 = .ok (.getfield 7, 3) := by decide +kernel
theorem dX4_isShutIn_6 : decode cX4_isShutIn 6 = .ok (.iload_n 1, 1) := by decide +kernel
theorem dX4_isShutIn_7 : decode cX4_isShutIn 7 = .ok (.iaload, 1) := by decide +kernel
theorem dX4_isShutIn_8 : decode cX4_isShutIn 8 = .ok (.istore_n 3, 1) := by decide +kernel
theorem dX4_isShutIn_9 : decode cX4_isShutIn 9 = .ok (.iload_n 3, 1) := by decide +kernel
theorem dX4_isShutIn_10 : decode cX4_isShutIn 10 = .ok (.ifCond .eq 35, 3) := by decide +kernel
theorem dX4_isShutIn_13 : decode cX4_isShutIn 13 = .ok (.iload_n 2, 1) := by decide +kernel
theorem dX4_isShutIn_14 : decode cX4_isShutIn 14 = .ok (.ifCond .ne 16, 3) := by decide +kernel
theorem dX4_isShutIn_17 : decode cX4_isShutIn 17 = .ok (.aload_n 0, 1) := by decide +kernel
theorem dX4_isShutIn_18 : decode cX4_isShutIn 18 = .ok (.getfield 22, 3) := by decide +kernel
theorem dX4_isShutIn_21 : decode cX4_isShutIn 21 = .ok (.iload_n 3, 1) := by decide +kernel
theorem dX4_isShutIn_22 : decode cX4_isShutIn 22 = .ok (.sipush 1001, 3) := by decide +kernel
theorem dX4_isShutIn_25 : decode cX4_isShutIn 25 = .ok (.isub, 1) := by decide +kernel
theorem dX4_isShutIn_26 : decode cX4_isShutIn 26 = .ok (.baload, 1) := by decide +kernel
theorem dX4_isShutIn_27 : decode cX4_isShutIn 27 = .ok (.ifCond .eq 7, 3) := by decide +kernel
theorem dX4_isShutIn_30 : decode cX4_isShutIn 30 = .ok (.iconst 1, 1) := by decide +kernel
theorem dX4_isShutIn_31 : decode cX4_isShutIn 31 = .ok (.goto 4, 3) := by decide +kernel
theorem dX4_isShutIn_34 : decode cX4_isShutIn 34 = .ok (.iconst 0, 1) := by decide +kernel
theorem dX4_isShutIn_35 : decode cX4_isShutIn 35 = .ok (.istore_n 2, 1) := by decide +kernel
theorem dX4_isShutIn_36 : decode cX4_isShutIn 36 = .ok (.aload_n 0, 1) := by decide +kernel
theorem dX4_isShutIn_37 : decode cX4_isShutIn 37 = .ok (.iload_n 3, 1) := by decide +kernel
theorem dX4_isShutIn_38 : decode cX4_isShutIn 38 = .ok (.invokevirtual 80, 3) := by decide +kernel
theorem dX4_isShutIn_41 : decode cX4_isShutIn 41 = .ok (.istore_n 3, 1) := by decide +kernel
theorem dX4_isShutIn_42 : decode cX4_isShutIn 42 = .ok (.goto (-33), 3) := by decide +kernel
theorem dX4_isShutIn_45 : decode cX4_isShutIn 45 = .ok (.iload_n 2, 1) := by decide +kernel
theorem dX4_isShutIn_46 : decode cX4_isShutIn 46 = .ok (.ireturn, 1) := by decide +kernel
theorem dX4_count_0 : decode cX4_count 0 = .ok (.iconst 0, 1) := by decide +kernel
theorem dX4_count_1 : decode cX4_count 1 = .ok (.istore_n 2, 1) := by decide +kernel
theorem dX4_count_2 : decode cX4_count 2 = .ok (.iconst 1, 1) := by decide +kernel
theorem dX4_count_3 : decode cX4_count 3 = .ok (.istore_n 3, 1) := by decide +kernel
theorem dX4_count_4 : decode cX4_count 4 = .ok (.iload_n 3, 1) := by decide +kernel
theorem dX4_count_5 : decode cX4_count 5 = .ok (.sipush 1061, 3) := by decide +kernel
theorem dX4_count_8 : decode cX4_count 8 = .ok (.if_icmp .ge 27, 3) := by decide +kernel
theorem dX4_count_11 : decode cX4_count 11 = .ok (.aload_n 0, 1) := by decide +kernel
theorem dX4_count_12 : decode cX4_count 12 = .ok (.getfield 7, 3) := by decide +kernel
theorem dX4_count_15 : decode cX4_count 15 = .ok (.iload_n 3, 1) := by decide +kernel
theorem dX4_count_16 : decode cX4_count 16 = .ok (.iaload, 1) := by decide +kernel
theorem dX4_count_17 : decode cX4_count 17 = .ok (.iload_n 1, 1) := by decide +kernel
theorem dX4_count_18 : decode cX4_count 18 = .ok (.if_icmp .ne 9, 3) := by decide +kernel
theorem dX4_count_21 : decode cX4_count 21 = .ok (.iload_n 2, 1) := by decide +kernel
theorem dX4_count_22 : decode cX4_count 22 = .ok (.iconst 1, 1) := by decide +kernel
theorem dX4_count_23 : decode cX4_count 23 = .ok (.iadd, 1) := by decide +kernel
theorem dX4_count_24 : decode cX4_count 24 = .ok (.goto 4, 3) := by decide +kernel
theorem dX4_count_27 : decode cX4_count 27 = .ok (.iload_n 2, 1) := by decide +kernel
theorem dX4_count_28 : decode cX4_count 28 = .ok (.istore_n 2, 1) := by decide +kernel
theorem dX4_count_29 : decode cX4_count 29 = .ok (.iinc 3 1, 3) := by decide +kernel
theorem dX4_count_32 : decode cX4_count 32 = .ok (.goto (-28), 3) := by decide +kernel
theorem dX4_count_35 : decode cX4_count 35 = .ok (.iload_n 2, 1) := by decide +kernel
theorem dX4_count_36 : decode cX4_count 36 = .ok (.ireturn, 1) := by decide +kernel
theorem dX4_put_0 : decode cX4_put 0 = .ok (.aload_n 0, 1) := by decide +kernel
theorem dX4_put_1 : decode cX4_put 1 = .ok (.getfield 7, 3) := by decide +kernel
theorem dX4_put_4 : decode cX4_put 4 = .ok (.iload_n 2, 1) := by decide +kernel
theorem dX4_put_5 : decode cX4_put 5 = .ok (.iload_n 1, 1) := by decide +kernel
theorem dX4_put_6 : decode cX4_put 6 = .ok (.iastore, 1) := by decide +kernel
theorem dX4_put_7 : decode cX4_put 7 = .ok (.aload_n 0, 1) := by decide +kernel
theorem dX4_put_8 : decode cX4_put 8 = .ok (.dup, 1) := by decide +kernel
theorem dX4_put_9 : decode cX4_put 9 = .ok (.getfield 84, 3) := by decide +kernel
theorem dX4_put_12 : decode cX4_put 12 = .ok (.iconst 1, 1) := by decide +kernel
theorem dX4_put_13 : decode cX4_put 13 = .ok (.iadd, 1) := by decide +kernel
theorem dX4_put_14 : decode cX4_put 14 = .ok (.putfield 84, 3) := by decide +kernel
theorem dX4_put_17 : decode cX4_put 17 = .ok (.aload_n 0, 1) := by decide +kernel
theorem dX4_put_18 : decode cX4_put 18 = .ok (.getfield 13, 3) := by decide +kernel
theorem dX4_put_21 : decode cX4_put 21 = .ok (.iload_n 2, 1) := by decide +kernel
theorem dX4_put_22 : decode cX4_put 22 = .ok (.aload_n 0, 1) := by decide +kernel
theorem dX4_put_23 : decode cX4_put 23 = .ok (.getfield 84, 3) := by decide +kernel
theorem dX4_put_26 : decode cX4_put 26 = .ok (.iastore, 1) := by decide +kernel
theorem dX4_put_27 : decode cX4_put 27 = .ok (.return_, 1) := by decide +kernel
theorem dX4_addNote_0 : decode cX4_addNote 0 = .ok (.aload_n 0, 1) := by decide +kernel
theorem dX4_addNote_1 : decode cX4_addNote 1 = .ok (.getfield 66, 3) := by decide +kernel
theorem dX4_addNote_4 : decode cX4_addNote 4 = .ok (.aload_n 0, 1) := by decide +kernel
theorem dX4_addNote_5 : decode cX4_addNote 5 = .ok (.getfield 87, 3) := by decide +kernel
theorem dX4_addNote_8 : decode cX4_addNote 8 = .ok (.aload_n 0, 1) := by decide +kernel
theorem dX4_addNote_9 : decode cX4_addNote 9 = .ok (.getfield 90, 3) := by decide +kernel
theorem dX4_addNote_12 : decode cX4_addNote 12 = .ok (.ldc2_w 93, 3) := by decide +kernel
theorem dX4_addNote_15 : decode cX4_addNote 15 = .ok (.ladd, 1) := by decide +kernel
theorem dX4_addNote_16 : decode cX4_addNote 16 = .ok (.lastore, 1) := by decide +kernel
theorem dX4_addNote_17 : decode cX4_addNote 17 = .ok (.aload_n 0, 1) := by decide +kernel
theorem dX4_addNote_18 : decode cX4_addNote 18 = .ok (.dup, 1) := by decide +kernel
theorem dX4_addNote_19 : decode cX4_addNote 19 = .ok (.getfield 87, 3) := by decide +kernel
theorem dX4_addNote_22 : decode cX4_addNote 22 = .ok (.iconst 1, 1) := by decide +kernel
theorem dX4_addNote_23 : decode cX4_addNote 23 = .ok (.iadd, 1) := by decide +kernel
theorem dX4_addNote_24 : decode cX4_addNote 24 = .ok (.putfield 87, 3) := by decide +kernel
theorem dX4_addNote_27 : decode cX4_addNote 27 = .ok (.return_, 1) := by decide +kernel
theorem dX4_bag_0 : decode cX4_bag 0 = .ok (.aload_n 0, 1) := by decide +kernel
theorem dX4_bag_1 : decode cX4_bag 1 = .ok (.iconst 0, 1) := by decide +kernel
theorem dX4_bag_2 : decode cX4_bag 2 = .ok (.putfield 69, 3) := by decide +kernel
theorem dX4_bag_5 : decode cX4_bag 5 = .ok (.iload_n 1, 1) := by decide +kernel
theorem dX4_bag_6 : decode cX4_bag 6 = .ok (.ifCond .lt 8, 3) := by decide +kernel
theorem dX4_bag_9 : decode cX4_bag 9 = .ok (.iload_n 1, 1) := by decide +kernel
theorem dX4_bag_10 : decode cX4_bag 10 = .ok (.iconst 3, 1) := by decide +kernel
theorem dX4_bag_11 : decode cX4_bag 11 = .ok (.if_icmp .le 6, 3) := by decide +kernel
theorem dX4_bag_14 : decode cX4_bag 14 = .ok (.bipush (-12), 2) := by decide +kernel
theorem dX4_bag_16 : decode cX4_bag 16 = .ok (.ireturn, 1) := by decide +kernel
theorem dX4_bag_17 : decode cX4_bag 17 = .ok (.aload_n 0, 1) := by decide +kernel
theorem dX4_bag_18 : decode cX4_bag 18 = .ok (.getfield 73, 3) := by decide +kernel
theorem dX4_bag_21 : decode cX4_bag 21 = .ok (.bipush 60, 2) := by decide +kernel
theorem dX4_bag_23 : decode cX4_bag 23 = .ok (.if_icmp .ne 6, 3) := by decide +kernel
theorem dX4_bag_26 : decode cX4_bag 26 = .ok (.bipush (-14), 2) := by decide +kernel
theorem dX4_bag_28 : decode cX4_bag 28 = .ok (.ireturn, 1) := by decide +kernel
theorem dX4_bag_29 : decode cX4_bag 29 = .ok (.aload_n 0, 1) := by decide +kernel
theorem dX4_bag_30 : decode cX4_bag 30 = .ok (.getfield 19, 3) := by decide +kernel
theorem dX4_bag_33 : decode cX4_bag 33 = .ok (.aload_n 0, 1) := by decide +kernel
theorem dX4_bag_34 : decode cX4_bag 34 = .ok (.getfield 73, 3) := by decide +kernel
theorem dX4_bag_37 : decode cX4_bag 37 = .ok (.iload_n 1, 1) := by decide +kernel
theorem dX4_bag_38 : decode cX4_bag 38 = .ok (.iastore, 1) := by decide +kernel
theorem dX4_bag_39 : decode cX4_bag 39 = .ok (.aload_n 0, 1) := by decide +kernel
theorem dX4_bag_40 : decode cX4_bag 40 = .ok (.dup, 1) := by decide +kernel
theorem dX4_bag_41 : decode cX4_bag 41 = .ok (.getfield 73, 3) := by decide +kernel
theorem dX4_bag_44 : decode cX4_bag 44 = .ok (.iconst 1, 1) := by decide +kernel
theorem dX4_bag_45 : decode cX4_bag 45 = .ok (.iadd, 1) := by decide +kernel
theorem dX4_bag_46 : decode cX4_bag 46 = .ok (.putfield 73, 3) := by decide +kernel
theorem dX4_bag_49 : decode cX4_bag 49 = .ok (.sipush 1000, 3) := by decide +kernel
theorem dX4_bag_52 : decode cX4_bag 52 = .ok (.aload_n 0, 1) := by decide +kernel
theorem dX4_bag_53 : decode cX4_bag 53 = .ok (.getfield 73, 3) := by decide +kernel
theorem dX4_bag_56 : decode cX4_bag 56 = .ok (.iadd, 1) := by decide +kernel
theorem dX4_bag_57 : decode cX4_bag 57 = .ok (.ireturn, 1) := by decide +kernel
theorem dX4_into_0 : decode cX4_into 0 = .ok (.aload_n 0, 1) := by decide +kernel
theorem dX4_into_1 : decode cX4_into 1 = .ok (.iconst 0, 1) := by decide +kernel
theorem dX4_into_2 : decode cX4_into 2 = .ok (.putfield 69, 3) := by decide +kernel
theorem dX4_into_5 : decode cX4_into 5 = .ok (.aload_n 0, 1) := by decide +kernel
theorem dX4_into_6 : decode cX4_into 6 = .ok (.iload_n 1, 1) := by decide +kernel
theorem dX4_into_7 : decode cX4_into 7 = .ok (.invokevirtual 76, 3) := by decide +kernel
theorem dX4_into_10 : decode cX4_into 10 = .ok (.ifCond .eq 11, 3) := by decide +kernel
theorem dX4_into_13 : decode cX4_into 13 = .ok (.aload_n 0, 1) := by decide +kernel
theorem dX4_into_14 : decode cX4_into 14 = .ok (.iload_n 2, 1) := by decide +kernel
theorem dX4_into_15 : decode cX4_into 15 = .ok (.invokevirtual 95, 3) := by decide +kernel
theorem dX4_into_18 : decode cX4_into 18 = .ok (.ifCond .ne 6, 3) := by decide +kernel
theorem dX4_into_21 : decode cX4_into 21 = .ok (.bipush (-11), 2) := by decide +kernel
theorem dX4_into_23 : decode cX4_into 23 = .ok (.ireturn, 1) := by decide +kernel
theorem dX4_into_24 : decode cX4_into 24 = .ok (.aload_n 0, 1) := by decide +kernel
theorem dX4_into_25 : decode cX4_into 25 = .ok (.getfield 22, 3) := by decide +kernel
theorem dX4_into_28 : decode cX4_into 28 = .ok (.iload_n 1, 1) := by decide +kernel
theorem dX4_into_29 : decode cX4_into 29 = .ok (.sipush 1001, 3) := by decide +kernel
theorem dX4_into_32 : decode cX4_into 32 = .ok (.isub, 1) := by decide +kernel
theorem dX4_into_33 : decode cX4_into 33 = .ok (.baload, 1) := by decide +kernel
theorem dX4_into_34 : decode cX4_into 34 = .ok (.ifCond .ne 53, 3) := by decide +kernel
theorem dX4_into_37 : decode cX4_into 37 = .ok (.aload_n 0, 1) := by decide +kernel
theorem dX4_into_38 : decode cX4_into 38 = .ok (.iload_n 1, 1) := by decide +kernel
theorem dX4_into_39 : decode cX4_into 39 = .ok (.invokevirtual 98, 3) := by decide +kernel
theorem dX4_into_42 : decode cX4_into 42 = .ok (.ifCond .ne 45, 3) := by decide +kernel
theorem dX4_into_45 : decode cX4_into 45 = .ok (.aload_n 0, 1) := by decide +kernel
theorem dX4_into_46 : decode cX4_into 46 = .ok (.getfield 7, 3) := by decide +kernel
theorem dX4_into_49 : decode cX4_into 49 = .ok (.iload_n 2, 1) := by decide +kernel
theorem dX4_into_50 : decode cX4_into 50 = .ok (.iaload, 1) := by decide +kernel
theorem dX4_into_51 : decode cX4_into 51 = .ok (.ifCond .ne 36, 3) := by decide +kernel
theorem dX4_into_54 : decode cX4_into 54 = .ok (.iload_n 2, 1) := by decide +kernel
theorem dX4_into_55 : decode cX4_into 55 = .ok (.iload_n 1, 1) := by decide +kernel
theorem dX4_into_56 : decode cX4_into 56 = .ok (.if_icmp .eq 31, 3) := by decide +kernel
theorem dX4_into_59 : decode cX4_into 59 = .ok (.aload_n 0, 1) := by decide +kernel
theorem dX4_into_60 : decode cX4_into 60 = .ok (.iload_n 2, 1) := by decide +kernel
theorem dX4_into_61 : decode cX4_into 61 = .ok (.invokevirtual 101, 3) := by decide +kernel
theorem dX4_into_64 : decode cX4_into 64 = .ok (.aload_n 0, 1) := by decide +kernel
theorem dX4_into_65 : decode cX4_into 65 = .ok (.iload_n 1, 1) := by decide +kernel
theorem dX4_into_66 : decode cX4_into 66 = .ok (.invokevirtual 101, 3) := by decide +kernel
theorem dX4_into_69 : decode cX4_into 69 = .ok (.if_icmp .ge 18, 3) := by decide +kernel
theorem dX4_into_72 : decode cX4_into 72 = .ok (.aload_n 0, 1) := by decide +kernel
theorem dX4_into_73 : decode cX4_into 73 = .ok (.getfield 16, 3) := by decide +kernel
theorem dX4_into_76 : decode cX4_into 76 = .ok (.iload_n 2, 1) := by decide +kernel
theorem dX4_into_77 : decode cX4_into 77 = .ok (.iaload, 1) := by decide +kernel
theorem dX4_into_78 : decode cX4_into 78 = .ok (.aload_n 0, 1) := by decide +kernel
theorem dX4_into_79 : decode cX4_into 79 = .ok (.getfield 16, 3) := by decide +kernel
theorem dX4_into_82 : decode cX4_into 82 = .ok (.iload_n 1, 1) := by decide +kernel
theorem dX4_into_83 : decode cX4_into 83 = .ok (.iaload, 1) := by decide +kernel
theorem dX4_into_84 : decode cX4_into 84 = .ok (.if_icmp .eq 6, 3) := by decide +kernel
theorem dX4_into_87 : decode cX4_into 87 = .ok (.bipush (-13), 2) := by decide +kernel
theorem dX4_into_89 : decode cX4_into 89 = .ok (.ireturn, 1) := by decide +kernel
theorem dX4_into_90 : decode cX4_into 90 = .ok (.aload_n 0, 1) := by decide +kernel
theorem dX4_into_91 : decode cX4_into 91 = .ok (.iload_n 1, 1) := by decide +kernel
theorem dX4_into_92 : decode cX4_into 92 = .ok (.invokevirtual 104, 3) := by decide +kernel
theorem dX4_into_95 : decode cX4_into 95 = .ok (.bipush 12, 2) := by decide +kernel
theorem dX4_into_97 : decode cX4_into 97 = .ok (.if_icmp .ne 6, 3) := by decide +kernel
theorem dX4_into_100 : decode cX4_into 100 = .ok (.bipush (-14), 2) := by decide +kernel
theorem dX4_into_102 : decode cX4_into 102 = .ok (.ireturn, 1) := by decide +kernel
theorem dX4_into_103 : decode cX4_into 103 = .ok (.aload_n 0, 1) := by decide +kernel
theorem dX4_into_104 : decode cX4_into 104 = .ok (.iload_n 1, 1) := by decide +kernel
theorem dX4_into_105 : decode cX4_into 105 = .ok (.iload_n 2, 1) := by decide +kernel
theorem dX4_into_106 : decode cX4_into 106 = .ok (.invokevirtual 107, 3) := by decide +kernel
theorem dX4_into_109 : decode cX4_into 109 = .ok (.iconst 1, 1) := by decide +kernel
theorem dX4_into_110 : decode cX4_into 110 = .ok (.ireturn, 1) := by decide +kernel
theorem dX4_take_0 : decode cX4_take 0 = .ok (.aload_n 0, 1) := by decide +kernel
theorem dX4_take_1 : decode cX4_take 1 = .ok (.iconst 0, 1) := by decide +kernel
theorem dX4_take_2 : decode cX4_take 2 = .ok (.putfield 69, 3) := by decide +kernel
theorem dX4_take_5 : decode cX4_take 5 = .ok (.aload_n 0, 1) := by decide +kernel
theorem dX4_take_6 : decode cX4_take 6 = .ok (.iload_n 1, 1) := by decide +kernel
theorem dX4_take_7 : decode cX4_take 7 = .ok (.invokevirtual 95, 3) := by decide +kernel
theorem dX4_take_10 : decode cX4_take 10 = .ok (.ifCond .ne 6, 3) := by decide +kernel
theorem dX4_take_13 : decode cX4_take 13 = .ok (.bipush (-11), 2) := by decide +kernel
theorem dX4_take_15 : decode cX4_take 15 = .ok (.ireturn, 1) := by decide +kernel
theorem dX4_take_16 : decode cX4_take 16 = .ok (.aload_n 0, 1) := by decide +kernel
theorem dX4_take_17 : decode cX4_take 17 = .ok (.getfield 7, 3) := by decide +kernel
theorem dX4_take_20 : decode cX4_take 20 = .ok (.iload_n 1, 1) := by decide +kernel
theorem dX4_take_21 : decode cX4_take 21 = .ok (.iaload, 1) := by decide +kernel
theorem dX4_take_22 : decode cX4_take 22 = .ok (.ifCond .eq 11, 3) := by decide +kernel
theorem dX4_take_25 : decode cX4_take 25 = .ok (.aload_n 0, 1) := by decide +kernel
theorem dX4_take_26 : decode cX4_take 26 = .ok (.iload_n 1, 1) := by decide +kernel
theorem dX4_take_27 : decode cX4_take 27 = .ok (.invokevirtual 98, 3) := by decide +kernel
theorem dX4_take_30 : decode cX4_take 30 = .ok (.ifCond .eq 6, 3) := by decide +kernel
theorem dX4_take_33 : decode cX4_take 33 = .ok (.bipush (-13), 2) := by decide +kernel
theorem dX4_take_35 : decode cX4_take 35 = .ok (.ireturn, 1) := by decide +kernel
theorem dX4_take_36 : decode cX4_take 36 = .ok (.aload_n 0, 1) := by decide +kernel
theorem dX4_take_37 : decode cX4_take 37 = .ok (.getfield 7, 3) := by decide +kernel
theorem dX4_take_40 : decode cX4_take 40 = .ok (.iload_n 1, 1) := by decide +kernel
theorem dX4_take_41 : decode cX4_take 41 = .ok (.iaload, 1) := by decide +kernel
theorem dX4_take_42 : decode cX4_take 42 = .ok (.istore_n 2, 1) := by decide +kernel
theorem dX4_take_43 : decode cX4_take 43 = .ok (.aload_n 0, 1) := by decide +kernel
theorem dX4_take_44 : decode cX4_take 44 = .ok (.getfield 7, 3) := by decide +kernel
theorem dX4_take_47 : decode cX4_take 47 = .ok (.iload_n 1, 1) := by decide +kernel
theorem dX4_take_48 : decode cX4_take 48 = .ok (.iconst 0, 1) := by decide +kernel
theorem dX4_take_49 : decode cX4_take 49 = .ok (.iastore, 1) := by decide +kernel
theorem dX4_take_50 : decode cX4_take 50 = .ok (.iload_n 2, 1) := by decide +kernel
theorem dX4_take_51 : decode cX4_take 51 = .ok (.ireturn, 1) := by decide +kernel
theorem dX4_close_0 : decode cX4_close 0 = .ok (.aload_n 0, 1) := by decide +kernel
theorem dX4_close_1 : decode cX4_close 1 = .ok (.iconst 0, 1) := by decide +kernel
theorem dX4_close_2 : decode cX4_close 2 = .ok (.putfield 69, 3) := by decide +kernel
theorem dX4_close_5 : decode cX4_close 5 = .ok (.aload_n 0, 1) := by decide +kernel
theorem dX4_close_6 : decode cX4_close 6 = .ok (.iload_n 1, 1) := by decide +kernel
theorem dX4_close_7 : decode cX4_close 7 = .ok (.invokevirtual 76, 3) := by decide +kernel
theorem dX4_close_10 : decode cX4_close 10 = .ok (.ifCond .ne 6, 3) := by decide +kernel
theorem dX4_close_13 : decode cX4_close 13 = .ok (.bipush (-11), 2) := by decide +kernel
theorem dX4_close_15 : decode cX4_close 15 = .ok (.ireturn, 1) := by decide +kernel
theorem dX4_close_16 : decode cX4_close 16 = .ok (.lload_n 2, 1) := by decide +kernel
theorem dX4_close_17 : decode cX4_close 17 = .ok (.lconst 1, 1) := by decide +kernel
theorem dX4_close_18 : decode cX4_close 18 = .ok (.lcmp, 1) := by decide +kernel
theorem dX4_close_19 : decode cX4_close 19 = .ok (.ifCond .lt 23, 3) := by decide +kernel
theorem dX4_close_22 : decode cX4_close 22 = .ok (.lload_n 2, 1) := by decide +kernel
theorem dX4_close_23 : decode cX4_close 23 = .ok (.ldc2_w 111, 3) := by decide +kernel
theorem dX4_close_26 : decode cX4_close 26 = .ok (.lcmp, 1) := by decide +kernel
theorem dX4_close_27 : decode cX4_close 27 = .ok (.ifCond .gt 15, 3) := by decide +kernel
theorem dX4_close_30 : decode cX4_close 30 = .ok (.iload 4, 2) := by decide +kernel
theorem dX4_close_32 : decode cX4_close 32 = .ok (.ifCond .lt 10, 3) := by decide +kernel
theorem dX4_close_35 : decode cX4_close 35 = .ok (.iload 4, 2) := by decide +kernel
theorem dX4_close_37 : decode cX4_close 37 = .ok (.bipush 49, 2) := by decide +kernel
theorem dX4_close_39 : decode cX4_close 39 = .ok (.if_icmp .le 6, 3) := by decide +kernel
theorem dX4_close_42 : decode cX4_close 42 = .ok (.bipush (-12), 2) := by decide +kernel
theorem dX4_close_44 : decode cX4_close 44 = .ok (.ireturn, 1) := by decide +kernel
theorem dX4_close_45 : decode cX4_close 45 = .ok (.iload_n 1, 1) := by decide +kernel
theorem dX4_close_46 : decode cX4_close 46 = .ok (.sipush 1001, 3) := by decide +kernel
theorem dX4_close_49 : decode cX4_close 49 = .ok (.isub, 1) := by decide +kernel
theorem dX4_close_50 : decode cX4_close 50 = .ok (.istore 5, 2) := by decide +kernel
theorem dX4_close_52 : decode cX4_close 52 = .ok (.aload_n 0, 1) := by decide +kernel
theorem dX4_close_53 : decode cX4_close 53 = .ok (.getfield 22, 3) := by decide +kernel
theorem dX4_close_56 : decode cX4_close 56 = .ok (.iload 5, 2) := by decide +kernel
theorem dX4_close_58 : decode cX4_close 58 = .ok (.baload, 1) := by decide +kernel
theorem dX4_close_59 : decode cX4_close 59 = .ok (.ifCond .ne 11, 3) := by decide +kernel
theorem dX4_close_62 : decode cX4_close 62 = .ok (.aload_n 0, 1) := by decide +kernel
theorem dX4_close_63 : decode cX4_close 63 = .ok (.iload_n 1, 1) := by decide +kernel
theorem dX4_close_64 : decode cX4_close 64 = .ok (.invokevirtual 98, 3) := by decide +kernel
theorem dX4_close_67 : decode cX4_close 67 = .ok (.ifCond .eq 6, 3) := by decide +kernel
theorem dX4_close_70 : decode cX4_close 70 = .ok (.bipush (-13), 2) := by decide +kernel
theorem dX4_close_72 : decode cX4_close 72 = .ok (.ireturn, 1) := by decide +kernel
theorem dX4_close_73 : decode cX4_close 73 = .ok (.aload_n 0, 1) := by decide +kernel
theorem dX4_close_74 : decode cX4_close 74 = .ok (.getfield 22, 3) := by decide +kernel
theorem dX4_close_77 : decode cX4_close 77 = .ok (.iload 5, 2) := by decide +kernel
theorem dX4_close_79 : decode cX4_close 79 = .ok (.iconst 1, 1) := by decide +kernel
theorem dX4_close_80 : decode cX4_close 80 = .ok (.bastore, 1) := by decide +kernel
theorem dX4_close_81 : decode cX4_close 81 = .ok (.aload_n 0, 1) := by decide +kernel
theorem dX4_close_82 : decode cX4_close 82 = .ok (.getfield 26, 3) := by decide +kernel
theorem dX4_close_85 : decode cX4_close 85 = .ok (.iload 5, 2) := by decide +kernel
theorem dX4_close_87 : decode cX4_close 87 = .ok (.iconst 0, 1) := by decide +kernel
theorem dX4_close_88 : decode cX4_close 88 = .ok (.bastore, 1) := by decide +kernel
theorem dX4_close_89 : decode cX4_close 89 = .ok (.aload_n 0, 1) := by decide +kernel
theorem dX4_close_90 : decode cX4_close 90 = .ok (.getfield 29, 3) := by decide +kernel
theorem dX4_close_93 : decode cX4_close 93 = .ok (.iload 5, 2) := by decide +kernel
theorem dX4_close_95 : decode cX4_close 95 = .ok (.lload_n 2, 1) := by decide +kernel
theorem dX4_close_96 : decode cX4_close 96 = .ok (.lastore, 1) := by decide +kernel
theorem dX4_close_97 : decode cX4_close 97 = .ok (.aload_n 0, 1) := by decide +kernel
theorem dX4_close_98 : decode cX4_close 98 = .ok (.getfield 33, 3) := by decide +kernel
theorem dX4_close_101 : decode cX4_close 101 = .ok (.iload 5, 2) := by decide +kernel
theorem dX4_close_103 : decode cX4_close 103 = .ok (.iload 4, 2) := by decide +kernel
theorem dX4_close_105 : decode cX4_close 105 = .ok (.iastore, 1) := by decide +kernel
theorem dX4_close_106 : decode cX4_close 106 = .ok (.aload_n 0, 1) := by decide +kernel
theorem dX4_close_107 : decode cX4_close 107 = .ok (.getfield 54, 3) := by decide +kernel
theorem dX4_close_110 : decode cX4_close 110 = .ok (.iload 5, 2) := by decide +kernel
theorem dX4_close_112 : decode cX4_close 112 = .ok (.iconst 0, 1) := by decide +kernel
theorem dX4_close_113 : decode cX4_close 113 = .ok (.iastore, 1) := by decide +kernel
theorem dX4_close_114 : decode cX4_close 114 = .ok (.iconst 0, 1) := by decide +kernel
theorem dX4_close_115 : decode cX4_close 115 = .ok (.istore 6, 2) := by decide +kernel
theorem dX4_close_117 : decode cX4_close 117 = .ok (.iconst 0, 1) := by decide +kernel
theorem dX4_close_118 : decode cX4_close 118 = .ok (.istore 7, 2) := by decide +kernel
theorem dX4_close_120 : decode cX4_close 120 = .ok (.iconst 1, 1) := by decide +kernel
theorem dX4_close_121 : decode cX4_close 121 = .ok (.istore 8, 2) := by decide +kernel
theorem dX4_close_123 : decode cX4_close 123 = .ok (.iload 8, 2) := by decide +kernel
theorem dX4_close_125 : decode cX4_close 125 = .ok (.ifCond .eq 136, 3) := by decide +kernel
theorem dX4_close_128 : decode cX4_close 128 = .ok (.iconst 0, 1) := by decide +kernel
theorem dX4_close_129 : decode cX4_close 129 = .ok (.istore 9, 2) := by decide +kernel
theorem dX4_close_131 : decode cX4_close 131 = .ok (.iconst 1, 1) := by decide +kernel
theorem dX4_close_132 : decode cX4_close 132 = .ok (.istore 10, 2) := by decide +kernel
theorem dX4_close_134 : decode cX4_close 134 = .ok (.iload 10, 2) := by decide +kernel
theorem dX4_close_136 : decode cX4_close 136 = .ok (.sipush 1061, 3) := by decide +kernel
theorem dX4_close_139 : decode cX4_close 139 = .ok (.if_icmp .ge 75, 3) := by decide +kernel
theorem dX4_close_142 : decode cX4_close 142 = .ok (.aload_n 0, 1) := by decide +kernel
theorem dX4_close_143 : decode cX4_close 143 = .ok (.getfield 7, 3) := by decide +kernel
theorem dX4_close_146 : decode cX4_close 146 = .ok (.iload 10, 2) := by decide +kernel
theorem dX4_close_148 : decode cX4_close 148 = .ok (.iaload, 1) := by decide +kernel
theorem dX4_close_149 : decode cX4_close 149 = .ok (.iload_n 1, 1) := by decide +kernel
theorem dX4_close_150 : decode cX4_close 150 = .ok (.if_icmp .ne 19, 3) := by decide +kernel
theorem dX4_close_153 : decode cX4_close 153 = .ok (.aload_n 0, 1) := by decide +kernel
theorem dX4_close_154 : decode cX4_close 154 = .ok (.getfield 13, 3) := by decide +kernel
theorem dX4_close_157 : decode cX4_close 157 = .ok (.iload 10, 2) := by decide +kernel
theorem dX4_close_159 : decode cX4_close 159 = .ok (.iaload, 1) := by decide +kernel
theorem dX4_close_160 : decode cX4_close 160 = .ok (.iload 7, 2) := by decide +kernel
theorem dX4_close_162 : decode cX4_close 162 = .ok (.if_icmp .le 7, 3) := by decide +kernel
theorem dX4_close_165 : decode cX4_close 165 = .ok (.iconst 1, 1) := by decide +kernel
theorem dX4_close_166 : decode cX4_close 166 = .ok (.goto 4, 3) := by decide +kernel
theorem dX4_close_169 : decode cX4_close 169 = .ok (.iconst 0, 1) := by decide +kernel
theorem dX4_close_170 : decode cX4_close 170 = .ok (.istore 11, 2) := by decide +kernel
theorem dX4_close_172 : decode cX4_close 172 = .ok (.iload 11, 2) := by decide +kernel
theorem dX4_close_174 : decode cX4_close 174 = .ok (.ifCond .eq 30, 3) := by decide +kernel
theorem dX4_close_177 : decode cX4_close 177 = .ok (.iload 9, 2) := by decide +kernel
theorem dX4_close_179 : decode cX4_close 179 = .ok (.ifCond .eq 20, 3) := by decide +kernel
theorem dX4_close_182 : decode cX4_close 182 = .ok (.aload_n 0, 1) := by decide +kernel
theorem dX4_close_183 : decode cX4_close 183 = .ok (.getfield 13, 3) := by decide +kernel
theorem dX4_close_186 : decode cX4_close 186 = .ok (.iload 10, 2) := by decide +kernel
theorem dX4_close_188 : decode cX4_close 188 = .ok (.iaload, 1) := by decide +kernel
theorem dX4_close_189 : decode cX4_close 189 = .ok (.aload_n 0, 1) := by decide +kernel
theorem dX4_close_190 : decode cX4_close 190 = .ok (.getfield 13, 3) := by decide +kernel
theorem dX4_close_193 : decode cX4_close 193 = .ok (.iload 9, 2) := by decide +kernel
theorem dX4_close_195 : decode cX4_close 195 = .ok (.iaload, 1) := by decide +kernel
theorem dX4_close_196 : decode cX4_close 196 = .ok (.if_icmp .ge 8, 3) := by decide +kernel
theorem dX4_close_199 : decode cX4_close 199 = .ok (.iload 10, 2) := by decide +kernel
theorem dX4_close_201 : decode cX4_close 201 = .ok (.goto 5, 3) := by decide +kernel
theorem dX4_close_204 : decode cX4_close 204 = .ok (.iload 9, 2) := by decide +kernel
theorem dX4_close_206 : decode cX4_close 206 = .ok (.istore 9, 2) := by decide +kernel
theorem dX4_close_208 : decode cX4_close 208 = .ok (.iinc 10 1, 3) := by decide +kernel
theorem dX4_close_211 : decode cX4_close 211 = .ok (.goto (-77), 3) := by decide +kernel
theorem dX4_close_214 : decode cX4_close 214 = .ok (.iload 9, 2) := by decide +kernel
theorem dX4_close_216 : decode cX4_close 216 = .ok (.ifCond .eq 7, 3) := by decide +kernel
theorem dX4_close_219 : decode cX4_close 219 = .ok (.iconst 1, 1) := by decide +kernel
theorem dX4_close_220 : decode cX4_close 220 = .ok (.goto 4, 3) := by decide +kernel
theorem dX4_close_223 : decode cX4_close 223 = .ok (.iconst 0, 1) := by decide +kernel
theorem dX4_close_224 : decode cX4_close 224 = .ok (.istore 8, 2) := by decide +kernel
theorem dX4_close_226 : decode cX4_close 226 = .ok (.iload 8, 2) := by decide +kernel
theorem dX4_close_228 : decode cX4_close 228 = .ok (.ifCond .eq 30, 3) := by decide +kernel
theorem dX4_close_231 : decode cX4_close 231 = .ok (.aload_n 0, 1) := by decide +kernel
theorem dX4_close_232 : decode cX4_close 232 = .ok (.getfield 42, 3) := by decide +kernel
theorem dX4_close_235 : decode cX4_close 235 = .ok (.bipush 12, 2) := by decide +kernel
theorem dX4_close_237 : decode cX4_close 237 = .ok (.iload 5, 2) := by decide +kernel
theorem dX4_close_239 : decode cX4_close 239 = .ok (.imul, 1) := by decide +kernel
theorem dX4_close_240 : decode cX4_close 240 = .ok (.iload 6, 2) := by decide +kernel
theorem dX4_close_242 : decode cX4_close 242 = .ok (.iadd, 1) := by decide +kernel
theorem dX4_close_243 : decode cX4_close 243 = .ok (.iload 9, 2) := by decide +kernel
theorem dX4_close_245 : decode cX4_close 245 = .ok (.iastore, 1) := by decide +kernel
theorem dX4_close_246 : decode cX4_close 246 = .ok (.aload_n 0, 1) := by decide +kernel
theorem dX4_close_247 : decode cX4_close 247 = .ok (.getfield 13, 3) := by decide +kernel
theorem dX4_close_250 : decode cX4_close 250 = .ok (.iload 9, 2) := by decide +kernel
theorem dX4_close_252 : decode cX4_close 252 = .ok (.iaload, 1) := by decide +kernel
theorem dX4_close_253 : decode cX4_close 253 = .ok (.istore 7, 2) := by decide +kernel
theorem dX4_close_255 : decode cX4_close 255 = .ok (.iinc 6 1, 3) := by decide +kernel
theorem dX4_close_258 : decode cX4_close 258 = .ok (.goto (-135), 3) := by decide +kernel
theorem dX4_close_261 : decode cX4_close 261 = .ok (.aload_n 0, 1) := by decide +kernel
theorem dX4_close_262 : decode cX4_close 262 = .ok (.getfield 39, 3) := by decide +kernel
theorem dX4_close_265 : decode cX4_close 265 = .ok (.iload 5, 2) := by decide +kernel
theorem dX4_close_267 : decode cX4_close 267 = .ok (.iload 6, 2) := by decide +kernel
theorem dX4_close_269 : decode cX4_close 269 = .ok (.iastore, 1) := by decide +kernel
theorem dX4_close_270 : decode cX4_close 270 = .ok (.iload 6, 2) := by decide +kernel
theorem dX4_close_272 : decode cX4_close 272 = .ok (.ireturn, 1) := by decide +kernel
theorem dX4_open_0 : decode cX4_open 0 = .ok (.aload_n 0, 1) := by decide +kernel
theorem dX4_open_1 : decode cX4_open 1 = .ok (.iconst 0, 1) := by decide +kernel
theorem dX4_open_2 : decode cX4_open 2 = .ok (.putfield 69, 3) := by decide +kernel
theorem dX4_open_5 : decode cX4_open 5 = .ok (.aload_n 0, 1) := by decide +kernel
theorem dX4_open_6 : decode cX4_open 6 = .ok (.iload_n 1, 1) := by decide +kernel
theorem dX4_open_7 : decode cX4_open 7 = .ok (.invokevirtual 76, 3) := by decide +kernel
theorem dX4_open_10 : decode cX4_open 10 = .ok (.ifCond .ne 6, 3) := by decide +kernel
theorem dX4_open_13 : decode cX4_open 13 = .ok (.bipush (-11), 2) := by decide +kernel
theorem dX4_open_15 : decode cX4_open 15 = .ok (.ireturn, 1) := by decide +kernel
theorem dX4_open_16 : decode cX4_open 16 = .ok (.lload_n 2, 1) := by decide +kernel
theorem dX4_open_17 : decode cX4_open 17 = .ok (.lconst 1, 1) := by decide +kernel
theorem dX4_open_18 : decode cX4_open 18 = .ok (.lcmp, 1) := by decide +kernel
theorem dX4_open_19 : decode cX4_open 19 = .ok (.ifCond .lt 36, 3) := by decide +kernel
theorem dX4_open_22 : decode cX4_open 22 = .ok (.lload_n 2, 1) := by decide +kernel
theorem dX4_open_23 : decode cX4_open 23 = .ok (.ldc2_w 111, 3) := by decide +kernel
theorem dX4_open_26 : decode cX4_open 26 = .ok (.lcmp, 1) := by decide +kernel
theorem dX4_open_27 : decode cX4_open 27 = .ok (.ifCond .gt 28, 3) := by decide +kernel
theorem dX4_open_30 : decode cX4_open 30 = .ok (.iload 4, 2) := by decide +kernel
theorem dX4_open_32 : decode cX4_open 32 = .ok (.ifCond .lt 23, 3) := by decide +kernel
theorem dX4_open_35 : decode cX4_open 35 = .ok (.iload 4, 2) := by decide +kernel
theorem dX4_open_37 : decode cX4_open 37 = .ok (.bipush 49, 2) := by decide +kernel
theorem dX4_open_39 : decode cX4_open 39 = .ok (.if_icmp .gt 16, 3) := by decide +kernel
theorem dX4_open_42 : decode cX4_open 42 = .ok (.iload 5, 2) := by decide +kernel
theorem dX4_open_44 : decode cX4_open 44 = .ok (.iconst (-1), 1) := by decide +kernel
theorem dX4_open_45 : decode cX4_open 45 = .ok (.if_icmp .lt 10, 3) := by decide +kernel
theorem dX4_open_48 : decode cX4_open 48 = .ok (.iload 5, 2) := by decide +kernel
theorem dX4_open_50 : decode cX4_open 50 = .ok (.bipush 49, 2) := by decide +kernel
theorem dX4_open_52 : decode cX4_open 52 = .ok (.if_icmp .le 6, 3) := by decide +kernel
theorem dX4_open_55 : decode cX4_open 55 = .ok (.bipush (-12), 2) := by decide +kernel
theorem dX4_open_57 : decode cX4_open 57 = .ok (.ireturn, 1) := by decide +kernel
theorem dX4_open_58 : decode cX4_open 58 = .ok (.iload_n 1, 1) := by decide +kernel
theorem dX4_open_59 : decode cX4_open 59 = .ok (.sipush 1001, 3) := by decide +kernel
theorem dX4_open_62 : decode cX4_open 62 = .ok (.isub, 1) := by decide +kernel
theorem dX4_open_63 : decode cX4_open 63 = .ok (.istore 6, 2) := by decide +kernel
theorem dX4_open_65 : decode cX4_open 65 = .ok (.aload_n 0, 1) := by decide +kernel
theorem dX4_open_66 : decode cX4_open 66 = .ok (.getfield 19, 3) := by decide +kernel
theorem dX4_open_69 : decode cX4_open 69 = .ok (.iload 6, 2) := by decide +kernel
theorem dX4_open_71 : decode cX4_open 71 = .ok (.iaload, 1) := by decide +kernel
theorem dX4_open_72 : decode cX4_open 72 = .ok (.iconst 2, 1) := by decide +kernel
theorem dX4_open_73 : decode cX4_open 73 = .ok (.if_icmp .ge 29, 3) := by decide +kernel
theorem dX4_open_76 : decode cX4_open 76 = .ok (.iload 5, 2) := by decide +kernel
theorem dX4_open_78 : decode cX4_open 78 = .ok (.iconst (-1), 1) := by decide +kernel
theorem dX4_open_79 : decode cX4_open 79 = .ok (.if_icmp .ne 19, 3) := by decide +kernel
theorem dX4_open_82 : decode cX4_open 82 = .ok (.iload 4, 2) := by decide +kernel
theorem dX4_open_84 : decode cX4_open 84 = .ok (.aload_n 0, 1) := by decide +kernel
theorem dX4_open_85 : decode cX4_open 85 = .ok (.getfield 33, 3) := by decide +kernel
theorem dX4_open_88 : decode cX4_open 88 = .ok (.iload 6, 2) := by decide +kernel
theorem dX4_open_90 : decode cX4_open 90 = .ok (.iaload, 1) := by decide +kernel
theorem dX4_open_91 : decode cX4_open 91 = .ok (.if_icmp .eq 7, 3) := by decide +kernel
theorem dX4_open_94 : decode cX4_open 94 = .ok (.iconst 1, 1) := by decide +kernel
theorem dX4_open_95 : decode cX4_open 95 = .ok (.goto 25, 3) := by decide +kernel
theorem dX4_open_98 : decode cX4_open 98 = .ok (.iconst 0, 1) := by decide +kernel
theorem dX4_open_99 : decode cX4_open 99 = .ok (.goto 21, 3) := by decide +kernel
theorem dX4_open_102 : decode cX4_open 102 = .ok (.iload 5, 2) := by decide +kernel
theorem dX4_open_104 : decode cX4_open 104 = .ok (.iconst (-1), 1) := by decide +kernel
theorem dX4_open_105 : decode cX4_open 105 = .ok (.if_icmp .eq 14, 3) := by decide +kernel
theorem dX4_open_108 : decode cX4_open 108 = .ok (.iload 4, 2) := by decide +kernel
theorem dX4_open_110 : decode cX4_open 110 = .ok (.iload 5, 2) := by decide +kernel
theorem dX4_open_112 : decode cX4_open 112 = .ok (.if_icmp .eq 7, 3) := by decide +kernel
theorem dX4_open_115 : decode cX4_open 115 = .ok (.iconst 1, 1) := by decide +kernel
theorem dX4_open_116 : decode cX4_open 116 = .ok (.goto 4, 3) := by decide +kernel
theorem dX4_open_119 : decode cX4_open 119 = .ok (.iconst 0, 1) := by decide +kernel
theorem dX4_open_120 : decode cX4_open 120 = .ok (.istore 7, 2) := by decide +kernel
theorem dX4_open_122 : decode cX4_open 122 = .ok (.aload_n 0, 1) := by decide +kernel
theorem dX4_open_123 : decode cX4_open 123 = .ok (.getfield 22, 3) := by decide +kernel
theorem dX4_open_126 : decode cX4_open 126 = .ok (.iload 6, 2) := by decide +kernel
theorem dX4_open_128 : decode cX4_open 128 = .ok (.baload, 1) := by decide +kernel
theorem dX4_open_129 : decode cX4_open 129 = .ok (.ifCond .eq 16, 3) := by decide +kernel
theorem dX4_open_132 : decode cX4_open 132 = .ok (.aload_n 0, 1) := by decide +kernel
theorem dX4_open_133 : decode cX4_open 133 = .ok (.iload_n 1, 1) := by decide +kernel
theorem dX4_open_134 : decode cX4_open 134 = .ok (.invokevirtual 98, 3) := by decide +kernel
theorem dX4_open_137 : decode cX4_open 137 = .ok (.ifCond .ne 8, 3) := by decide +kernel
theorem dX4_open_140 : decode cX4_open 140 = .ok (.iload 7, 2) := by decide +kernel
theorem dX4_open_142 : decode cX4_open 142 = .ok (.ifCond .ne 6, 3) := by decide +kernel
theorem dX4_open_145 : decode cX4_open 145 = .ok (.bipush (-13), 2) := by decide +kernel
theorem dX4_open_147 : decode cX4_open 147 = .ok (.ireturn, 1) := by decide +kernel
theorem dX4_open_148 : decode cX4_open 148 = .ok (.aload_n 0, 1) := by decide +kernel
theorem dX4_open_149 : decode cX4_open 149 = .ok (.getfield 22, 3) := by decide +kernel
theorem dX4_open_152 : decode cX4_open 152 = .ok (.iload 6, 2) := by decide +kernel
theorem dX4_open_154 : decode cX4_open 154 = .ok (.iconst 0, 1) := by decide +kernel
theorem dX4_open_155 : decode cX4_open 155 = .ok (.bastore, 1) := by decide +kernel
theorem dX4_open_156 : decode cX4_open 156 = .ok (.aload_n 0, 1) := by decide +kernel
theorem dX4_open_157 : decode cX4_open 157 = .ok (.getfield 26, 3) := by decide +kernel
theorem dX4_open_160 : decode cX4_open 160 = .ok (.iload 6, 2) := by decide +kernel
theorem dX4_open_162 : decode cX4_open 162 = .ok (.iconst 1, 1) := by decide +kernel
theorem dX4_open_163 : decode cX4_open 163 = .ok (.bastore, 1) := by decide +kernel
theorem dX4_open_164 : decode cX4_open 164 = .ok (.aload_n 0, 1) := by decide +kernel
theorem dX4_open_165 : decode cX4_open 165 = .ok (.getfield 36, 3) := by decide +kernel
theorem dX4_open_168 : decode cX4_open 168 = .ok (.iload 6, 2) := by decide +kernel
theorem dX4_open_170 : decode cX4_open 170 = .ok (.lload_n 2, 1) := by decide +kernel
theorem dX4_open_171 : decode cX4_open 171 = .ok (.lastore, 1) := by decide +kernel
theorem dX4_open_172 : decode cX4_open 172 = .ok (.aload_n 0, 1) := by decide +kernel
theorem dX4_open_173 : decode cX4_open 173 = .ok (.getfield 48, 3) := by decide +kernel
theorem dX4_open_176 : decode cX4_open 176 = .ok (.iload 6, 2) := by decide +kernel
theorem dX4_open_178 : decode cX4_open 178 = .ok (.iconst 0, 1) := by decide +kernel
theorem dX4_open_179 : decode cX4_open 179 = .ok (.iastore, 1) := by decide +kernel
theorem dX4_open_180 : decode cX4_open 180 = .ok (.iconst 0, 1) := by decide +kernel
theorem dX4_open_181 : decode cX4_open 181 = .ok (.istore 8, 2) := by decide +kernel
theorem dX4_open_183 : decode cX4_open 183 = .ok (.iload 8, 2) := by decide +kernel
theorem dX4_open_185 : decode cX4_open 185 = .ok (.bipush 12, 2) := by decide +kernel
theorem dX4_open_187 : decode cX4_open 187 = .ok (.if_icmp .ge 23, 3) := by decide +kernel
theorem dX4_open_190 : decode cX4_open 190 = .ok (.aload_n 0, 1) := by decide +kernel
theorem dX4_open_191 : decode cX4_open 191 = .ok (.getfield 45, 3) := by decide +kernel
theorem dX4_open_194 : decode cX4_open 194 = .ok (.bipush 12, 2) := by decide +kernel
theorem dX4_open_196 : decode cX4_open 196 = .ok (.iload 6, 2) := by decide +kernel
theorem dX4_open_198 : decode cX4_open 198 = .ok (.imul, 1) := by decide +kernel
theorem dX4_open_199 : decode cX4_open 199 = .ok (.iload 8, 2) := by decide +kernel
theorem dX4_open_201 : decode cX4_open 201 = .ok (.iadd, 1) := by decide +kernel
theorem dX4_open_202 : decode cX4_open 202 = .ok (.iconst 0, 1) := by decide +kernel
theorem dX4_open_203 : decode cX4_open 203 = .ok (.bastore, 1) := by decide +kernel
theorem dX4_open_204 : decode cX4_open 204 = .ok (.iinc 8 1, 3) := by decide +kernel
theorem dX4_open_207 : decode cX4_open 207 = .ok (.goto (-24), 3) := by decide +kernel
theorem dX4_open_210 : decode cX4_open 210 = .ok (.lload_n 2, 1) := by decide +kernel
theorem dX4_open_211 : decode cX4_open 211 = .ok (.aload_n 0, 1) := by decide +kernel
theorem dX4_open_212 : decode cX4_open 212 = .ok (.getfield 29, 3) := by decide +kernel
theorem dX4_open_215 : decode cX4_open 215 = .ok (.iload 6, 2) := by decide +kernel
theorem dX4_open_217 : decode cX4_open 217 = .ok (.laload, 1) := by decide +kernel
theorem dX4_open_218 : decode cX4_open 218 = .ok (.lcmp, 1) := by decide +kernel
theorem dX4_open_219 : decode cX4_open 219 = .ok (.ifCond .ne 5, 3) := by decide +kernel
theorem dX4_open_222 : decode cX4_open 222 = .ok (.iconst 1, 1) := by decide +kernel
theorem dX4_open_223 : decode cX4_open 223 = .ok (.ireturn, 1) := by decide +kernel
theorem dX4_open_224 : decode cX4_open 224 = .ok (.aload_n 0, 1) := by decide +kernel
theorem dX4_open_225 : decode cX4_open 225 = .ok (.invokevirtual 113, 3) := by decide +kernel
theorem dX4_open_228 : decode cX4_open 228 = .ok (.iconst (-1), 1) := by decide +kernel
theorem dX4_open_229 : decode cX4_open 229 = .ok (.ireturn, 1) := by decide +kernel
theorem dX4_listPlace_0 : decode cX4_listPlace 0 = .ok (.iconst (-1), 1) := by decide +kernel
theorem dX4_listPlace_1 : decode cX4_listPlace 1 = .ok (.istore_n 3, 1) := by decide +kernel
theorem dX4_listPlace_2 : decode cX4_listPlace 2 = .ok (.iconst 0, 1) := by decide +kernel
theorem dX4_listPlace_3 : decode cX4_listPlace 3 = .ok (.istore 4, 2) := by decide +kernel
theorem dX4_listPlace_5 : decode cX4_listPlace 5 = .ok (.iload 4, 2) := by decide +kernel
theorem dX4_listPlace_7 : decode cX4_listPlace 7 = .ok (.aload_n 0, 1) := by decide +kernel
theorem dX4_listPlace_8 : decode cX4_listPlace 8 = .ok (.getfield 39, 3) := by decide +kernel
theorem dX4_listPlace_11 : decode cX4_listPlace 11 = .ok (.iload_n 1, 1) := by decide +kernel
theorem dX4_listPlace_12 : decode cX4_listPlace 12 = .ok (.iaload, 1) := by decide +kernel
theorem dX4_listPlace_13 : decode cX4_listPlace 13 = .ok (.if_icmp .ge 32, 3) := by decide +kernel
theorem dX4_listPlace_16 : decode cX4_listPlace 16 = .ok (.aload_n 0, 1) := by decide +kernel
theorem dX4_listPlace_17 : decode cX4_listPlace 17 = .ok (.getfield 42, 3) := by decide +kernel
theorem dX4_listPlace_20 : decode cX4_listPlace 20 = .ok (.bipush 12, 2) := by decide +kernel
theorem dX4_listPlace_22 : decode cX4_listPlace 22 = .ok (.iload_n 1, 1) := by decide +kernel
theorem dX4_listPlace_23 : decode cX4_listPlace 23 = .ok (.imul, 1) := by decide +kernel
theorem dX4_listPlace_24 : decode cX4_listPlace 24 = .ok (.iload 4, 2) := by decide +kernel
theorem dX4_listPlace_26 : decode cX4_listPlace 26 = .ok (.iadd, 1) := by decide +kernel
theorem dX4_listPlace_27 : decode cX4_listPlace 27 = .ok (.iaload, 1) := by decide +kernel
theorem dX4_listPlace_28 : decode cX4_listPlace 28 = .ok (.iload_n 2, 1) := by decide +kernel
theorem dX4_listPlace_29 : decode cX4_listPlace 29 = .ok (.if_icmp .ne 8, 3) := by decide +kernel
theorem dX4_listPlace_32 : decode cX4_listPlace 32 = .ok (.iload 4, 2) := by decide +kernel
theorem dX4_listPlace_34 : decode cX4_listPlace 34 = .ok (.goto 4, 3) := by decide +kernel
theorem dX4_listPlace_37 : decode cX4_listPlace 37 = .ok (.iload_n 3, 1) := by decide +kernel
theorem dX4_listPlace_38 : decode cX4_listPlace 38 = .ok (.istore_n 3, 1) := by decide +kernel
theorem dX4_listPlace_39 : decode cX4_listPlace 39 = .ok (.iinc 4 1, 3) := by decide +kernel
theorem dX4_listPlace_42 : decode cX4_listPlace 42 = .ok (.goto (-37), 3) := by decide +kernel
theorem dX4_listPlace_45 : decode cX4_listPlace 45 = .ok (.iload_n 3, 1) := by decide +kernel
theorem dX4_listPlace_46 : decode cX4_listPlace 46 = .ok (.ireturn, 1) := by decide +kernel
theorem dX4_isExtra_0 : decode cX4_isExtra 0 = .ok (.iconst 0, 1) := by decide +kernel
theorem dX4_isExtra_1 : decode cX4_isExtra 1 = .ok (.istore_n 3, 1) := by decide +kernel
theorem dX4_isExtra_2 : decode cX4_isExtra 2 = .ok (.iconst 0, 1) := by decide +kernel
theorem dX4_isExtra_3 : decode cX4_isExtra 3 = .ok (.istore 4, 2) := by decide +kernel
theorem dX4_isExtra_5 : decode cX4_isExtra 5 = .ok (.iload 4, 2) := by decide +kernel
theorem dX4_isExtra_7 : decode cX4_isExtra 7 = .ok (.aload_n 0, 1) := by decide +kernel
theorem dX4_isExtra_8 : decode cX4_isExtra 8 = .ok (.getfield 48, 3) := by decide +kernel
theorem dX4_isExtra_11 : decode cX4_isExtra 11 = .ok (.iload_n 1, 1) := by decide +kernel
theorem dX4_isExtra_12 : decode cX4_isExtra 12 = .ok (.iaload, 1) := by decide +kernel
theorem dX4_isExtra_13 : decode cX4_isExtra 13 = .ok (.if_icmp .ge 35, 3) := by decide +kernel
theorem dX4_isExtra_16 : decode cX4_isExtra 16 = .ok (.iload_n 3, 1) := by decide +kernel
theorem dX4_isExtra_17 : decode cX4_isExtra 17 = .ok (.ifCond .ne 19, 3) := by decide +kernel
theorem dX4_isExtra_20 : decode cX4_isExtra 20 = .ok (.aload_n 0, 1) := by decide +kernel
theorem dX4_isExtra_21 : decode cX4_isExtra 21 = .ok (.getfield 51, 3) := by decide +kernel
theorem dX4_isExtra_24 : decode cX4_isExtra 24 = .ok (.bipush 12, 2) := by decide +kernel
theorem dX4_isExtra_26 : decode cX4_isExtra 26 = .ok (.iload_n 1, 1) := by decide +kernel
theorem dX4_isExtra_27 : decode cX4_isExtra 27 = .ok (.imul, 1) := by decide +kernel
theorem dX4_isExtra_28 : decode cX4_isExtra 28 = .ok (.iload 4, 2) := by decide +kernel
theorem dX4_isExtra_30 : decode cX4_isExtra 30 = .ok (.iadd, 1) := by decide +kernel
theorem dX4_isExtra_31 : decode cX4_isExtra 31 = .ok (.iaload, 1) := by decide +kernel
theorem dX4_isExtra_32 : decode cX4_isExtra 32 = .ok (.iload_n 2, 1) := by decide +kernel
theorem dX4_isExtra_33 : decode cX4_isExtra 33 = .ok (.if_icmp .ne 7, 3) := by decide +kernel
theorem dX4_isExtra_36 : decode cX4_isExtra 36 = .ok (.iconst 1, 1) := by decide +kernel
theorem dX4_isExtra_37 : decode cX4_isExtra 37 = .ok (.goto 4, 3) := by decide +kernel
theorem dX4_isExtra_40 : decode cX4_isExtra 40 = .ok (.iconst 0, 1) := by decide +kernel
theorem dX4_isExtra_41 : decode cX4_isExtra 41 = .ok (.istore_n 3, 1) := by decide +kernel
theorem dX4_isExtra_42 : decode cX4_isExtra 42 = .ok (.iinc 4 1, 3) := by decide +kernel
theorem dX4_isExtra_45 : decode cX4_isExtra 45 = .ok (.goto (-40), 3) := by decide +kernel
theorem dX4_isExtra_48 : decode cX4_isExtra 48 = .ok (.iload_n 3, 1) := by decide +kernel
theorem dX4_isExtra_49 : decode cX4_isExtra 49 = .ok (.ireturn, 1) := by decide +kernel
theorem dX4_bring_0 : decode cX4_bring 0 = .ok (.iconst 0, 1) := by decide +kernel
theorem dX4_bring_1 : decode cX4_bring 1 = .ok (.istore_n 3, 1) := by decide +kernel
theorem dX4_bring_2 : decode cX4_bring 2 = .ok (.iconst 1, 1) := by decide +kernel
theorem dX4_bring_3 : decode cX4_bring 3 = .ok (.istore 4, 2) := by decide +kernel
theorem dX4_bring_5 : decode cX4_bring 5 = .ok (.iload 4, 2) := by decide +kernel
theorem dX4_bring_7 : decode cX4_bring 7 = .ok (.sipush 1061, 3) := by decide +kernel
theorem dX4_bring_10 : decode cX4_bring 10 = .ok (.if_icmp .ge 45, 3) := by decide +kernel
theorem dX4_bring_13 : decode cX4_bring 13 = .ok (.aload_n 0, 1) := by decide +kernel
theorem dX4_bring_14 : decode cX4_bring 14 = .ok (.iload 4, 2) := by decide +kernel
theorem dX4_bring_16 : decode cX4_bring 16 = .ok (.invokevirtual 95, 3) := by decide +kernel
theorem dX4_bring_19 : decode cX4_bring 19 = .ok (.ifCond .eq 30, 3) := by decide +kernel
theorem dX4_bring_22 : decode cX4_bring 22 = .ok (.iload 4, 2) := by decide +kernel
theorem dX4_bring_24 : decode cX4_bring 24 = .ok (.iload_n 1, 1) := by decide +kernel
theorem dX4_bring_25 : decode cX4_bring 25 = .ok (.if_icmp .eq 13, 3) := by decide +kernel
theorem dX4_bring_28 : decode cX4_bring 28 = .ok (.aload_n 0, 1) := by decide +kernel
theorem dX4_bring_29 : decode cX4_bring 29 = .ok (.iload 4, 2) := by decide +kernel
theorem dX4_bring_31 : decode cX4_bring 31 = .ok (.iload_n 1, 1) := by decide +kernel
theorem dX4_bring_32 : decode cX4_bring 32 = .ok (.invokevirtual 116, 3) := by decide +kernel
theorem dX4_bring_35 : decode cX4_bring 35 = .ok (.ifCond .eq 14, 3) := by decide +kernel
theorem dX4_bring_38 : decode cX4_bring 38 = .ok (.aload_n 0, 1) := by decide +kernel
theorem dX4_bring_39 : decode cX4_bring 39 = .ok (.getfield 16, 3) := by decide +kernel
theorem dX4_bring_42 : decode cX4_bring 42 = .ok (.iload 4, 2) := by decide +kernel
theorem dX4_bring_44 : decode cX4_bring 44 = .ok (.iload_n 2, 1) := by decide +kernel
theorem dX4_bring_45 : decode cX4_bring 45 = .ok (.iastore, 1) := by decide +kernel
theorem dX4_bring_46 : decode cX4_bring 46 = .ok (.iinc 3 1, 3) := by decide +kernel
theorem dX4_bring_49 : decode cX4_bring 49 = .ok (.iinc 4 1, 3) := by decide +kernel
theorem dX4_bring_52 : decode cX4_bring 52 = .ok (.goto (-47), 3) := by decide +kernel
theorem dX4_bring_55 : decode cX4_bring 55 = .ok (.iload_n 3, 1) := by decide +kernel
theorem dX4_bring_56 : decode cX4_bring 56 = .ok (.ireturn, 1) := by decide +kernel
theorem dX4_found_0 : decode cX4_found 0 = .ok (.aload_n 0, 1) := by decide +kernel
theorem dX4_found_1 : decode cX4_found 1 = .ok (.iconst 0, 1) := by decide +kernel
theorem dX4_found_2 : decode cX4_found 2 = .ok (.putfield 69, 3) := by decide +kernel
theorem dX4_found_5 : decode cX4_found 5 = .ok (.aload_n 0, 1) := by decide +kernel
theorem dX4_found_6 : decode cX4_found 6 = .ok (.iload_n 1, 1) := by decide +kernel
theorem dX4_found_7 : decode cX4_found 7 = .ok (.invokevirtual 76, 3) := by decide +kernel
theorem dX4_found_10 : decode cX4_found 10 = .ok (.ifCond .eq 11, 3) := by decide +kernel
theorem dX4_found_13 : decode cX4_found 13 = .ok (.aload_n 0, 1) := by decide +kernel
theorem dX4_found_14 : decode cX4_found 14 = .ok (.iload_n 2, 1) := by decide +kernel
theorem dX4_found_15 : decode cX4_found 15 = .ok (.invokevirtual 95, 3) := by decide +kernel
theorem dX4_found_18 : decode cX4_found 18 = .ok (.ifCond .ne 6, 3) := by decide +kernel
theorem dX4_found_21 : decode cX4_found 21 = .ok (.bipush (-11), 2) := by decide +kernel
theorem dX4_found_23 : decode cX4_found 23 = .ok (.ireturn, 1) := by decide +kernel
theorem dX4_found_24 : decode cX4_found 24 = .ok (.iload_n 1, 1) := by decide +kernel
theorem dX4_found_25 : decode cX4_found 25 = .ok (.sipush 1001, 3) := by decide +kernel
theorem dX4_found_28 : decode cX4_found 28 = .ok (.isub, 1) := by decide +kernel
theorem dX4_found_29 : decode cX4_found 29 = .ok (.istore_n 3, 1) := by decide +kernel
theorem dX4_found_30 : decode cX4_found 30 = .ok (.aload_n 0, 1) := by decide +kernel
theorem dX4_found_31 : decode cX4_found 31 = .ok (.getfield 26, 3) := by decide +kernel
theorem dX4_found_34 : decode cX4_found 34 = .ok (.iload_n 3, 1) := by decide +kernel
theorem dX4_found_35 : decode cX4_found 35 = .ok (.baload, 1) := by decide +kernel
theorem dX4_found_36 : decode cX4_found 36 = .ok (.ifCond .eq 30, 3) := by decide +kernel
theorem dX4_found_39 : decode cX4_found 39 = .ok (.iload_n 2, 1) := by decide +kernel
theorem dX4_found_40 : decode cX4_found 40 = .ok (.iload_n 1, 1) := by decide +kernel
theorem dX4_found_41 : decode cX4_found 41 = .ok (.if_icmp .eq 25, 3) := by decide +kernel
theorem dX4_found_44 : decode cX4_found 44 = .ok (.aload_n 0, 1) := by decide +kernel
theorem dX4_found_45 : decode cX4_found 45 = .ok (.iload_n 1, 1) := by decide +kernel
theorem dX4_found_46 : decode cX4_found 46 = .ok (.iload_n 2, 1) := by decide +kernel
theorem dX4_found_47 : decode cX4_found 47 = .ok (.invokevirtual 116, 3) := by decide +kernel
theorem dX4_found_50 : decode cX4_found 50 = .ok (.ifCond .ne 16, 3) := by decide +kernel
theorem dX4_found_53 : decode cX4_found 53 = .ok (.aload_n 0, 1) := by decide +kernel
theorem dX4_found_54 : decode cX4_found 54 = .ok (.iload_n 2, 1) := by decide +kernel
theorem dX4_found_55 : decode cX4_found 55 = .ok (.invokevirtual 101, 3) := by decide +kernel
theorem dX4_found_58 : decode cX4_found 58 = .ok (.aload_n 0, 1) := by decide +kernel
theorem dX4_found_59 : decode cX4_found 59 = .ok (.iload_n 1, 1) := by decide +kernel
theorem dX4_found_60 : decode cX4_found 60 = .ok (.invokevirtual 101, 3) := by decide +kernel
theorem dX4_found_63 : decode cX4_found 63 = .ok (.if_icmp .lt 6, 3) := by decide +kernel
theorem dX4_found_66 : decode cX4_found 66 = .ok (.bipush (-13), 2) := by decide +kernel
theorem dX4_found_68 : decode cX4_found 68 = .ok (.ireturn, 1) := by decide +kernel
theorem dX4_found_69 : decode cX4_found 69 = .ok (.aload_n 0, 1) := by decide +kernel
theorem dX4_found_70 : decode cX4_found 70 = .ok (.iload_n 3, 1) := by decide +kernel
theorem dX4_found_71 : decode cX4_found 71 = .ok (.iload_n 2, 1) := by decide +kernel
theorem dX4_found_72 : decode cX4_found 72 = .ok (.invokevirtual 120, 3) := by decide +kernel
theorem dX4_found_75 : decode cX4_found 75 = .ok (.istore 4, 2) := by decide +kernel
theorem dX4_found_77 : decode cX4_found 77 = .ok (.iload 4, 2) := by decide +kernel
theorem dX4_found_79 : decode cX4_found 79 = .ok (.ifCond .lt 18, 3) := by decide +kernel
theorem dX4_found_82 : decode cX4_found 82 = .ok (.aload_n 0, 1) := by decide +kernel
theorem dX4_found_83 : decode cX4_found 83 = .ok (.getfield 45, 3) := by decide +kernel
theorem dX4_found_86 : decode cX4_found 86 = .ok (.bipush 12, 2) := by decide +kernel
theorem dX4_found_88 : decode cX4_found 88 = .ok (.iload_n 3, 1) := by decide +kernel
theorem dX4_found_89 : decode cX4_found 89 = .ok (.imul, 1) := by decide +kernel
theorem dX4_found_90 : decode cX4_found 90 = .ok (.iload 4, 2) := by decide +kernel
theorem dX4_found_92 : decode cX4_found 92 = .ok (.iadd, 1) := by decide +kernel
theorem dX4_found_93 : decode cX4_found 93 = .ok (.iconst 1, 1) := by decide +kernel
theorem dX4_found_94 : decode cX4_found 94 = .ok (.bastore, 1) := by decide +kernel
theorem dX4_found_95 : decode cX4_found 95 = .ok (.iconst 1, 1) := by decide +kernel
theorem dX4_found_96 : decode cX4_found 96 = .ok (.ireturn, 1) := by decide +kernel
theorem dX4_found_97 : decode cX4_found 97 = .ok (.aload_n 0, 1) := by decide +kernel
theorem dX4_found_98 : decode cX4_found 98 = .ok (.iload_n 3, 1) := by decide +kernel
theorem dX4_found_99 : decode cX4_found 99 = .ok (.iload_n 2, 1) := by decide +kernel
theorem dX4_found_100 : decode cX4_found 100 = .ok (.invokevirtual 124, 3) := by decide +kernel
theorem dX4_found_103 : decode cX4_found 103 = .ok (.ifCond .eq 5, 3) := by decide +kernel
theorem dX4_found_106 : decode cX4_found 106 = .ok (.iconst 0, 1) := by decide +kernel
theorem dX4_found_107 : decode cX4_found 107 = .ok (.ireturn, 1) := by decide +kernel
theorem dX4_found_108 : decode cX4_found 108 = .ok (.aload_n 0, 1) := by decide +kernel
theorem dX4_found_109 : decode cX4_found 109 = .ok (.getfield 48, 3) := by decide +kernel
theorem dX4_found_112 : decode cX4_found 112 = .ok (.iload_n 3, 1) := by decide +kernel
theorem dX4_found_113 : decode cX4_found 113 = .ok (.iaload, 1) := by decide +kernel
theorem dX4_found_114 : decode cX4_found 114 = .ok (.bipush 12, 2) := by decide +kernel
theorem dX4_found_116 : decode cX4_found 116 = .ok (.if_icmp .eq 23, 3) := by decide +kernel
theorem dX4_found_119 : decode cX4_found 119 = .ok (.aload_n 0, 1) := by decide +kernel
theorem dX4_found_120 : decode cX4_found 120 = .ok (.getfield 7, 3) := by decide +kernel
theorem dX4_found_123 : decode cX4_found 123 = .ok (.iload_n 2, 1) := by decide +kernel
theorem dX4_found_124 : decode cX4_found 124 = .ok (.iaload, 1) := by decide +kernel
theorem dX4_found_125 : decode cX4_found 125 = .ok (.iload_n 1, 1) := by decide +kernel
theorem dX4_found_126 : decode cX4_found 126 = .ok (.if_icmp .eq 16, 3) := by decide +kernel
theorem dX4_found_129 : decode cX4_found 129 = .ok (.aload_n 0, 1) := by decide +kernel
theorem dX4_found_130 : decode cX4_found 130 = .ok (.iload_n 1, 1) := by decide +kernel
theorem dX4_found_131 : decode cX4_found 131 = .ok (.invokevirtual 104, 3) := by decide +kernel
theorem dX4_found_134 : decode cX4_found 134 = .ok (.bipush 12, 2) := by decide +kernel
theorem dX4_found_136 : decode cX4_found 136 = .ok (.if_icmp .ne 6, 3) := by decide +kernel
theorem dX4_found_139 : decode cX4_found 139 = .ok (.bipush (-14), 2) := by decide +kernel
theorem dX4_found_141 : decode cX4_found 141 = .ok (.ireturn, 1) := by decide +kernel
theorem dX4_found_142 : decode cX4_found 142 = .ok (.aload_n 0, 1) := by decide +kernel
theorem dX4_found_143 : decode cX4_found 143 = .ok (.getfield 7, 3) := by decide +kernel
theorem dX4_found_146 : decode cX4_found 146 = .ok (.iload_n 2, 1) := by decide +kernel
theorem dX4_found_147 : decode cX4_found 147 = .ok (.iaload, 1) := by decide +kernel
theorem dX4_found_148 : decode cX4_found 148 = .ok (.iload_n 1, 1) := by decide +kernel
theorem dX4_found_149 : decode cX4_found 149 = .ok (.if_icmp .eq 22, 3) := by decide +kernel
theorem dX4_found_152 : decode cX4_found 152 = .ok (.aload_n 0, 1) := by decide +kernel
theorem dX4_found_153 : decode cX4_found 153 = .ok (.iload_n 1, 1) := by decide +kernel
theorem dX4_found_154 : decode cX4_found 154 = .ok (.iload_n 2, 1) := by decide +kernel
theorem dX4_found_155 : decode cX4_found 155 = .ok (.invokevirtual 107, 3) := by decide +kernel
theorem dX4_found_158 : decode cX4_found 158 = .ok (.aload_n 0, 1) := by decide +kernel
theorem dX4_found_159 : decode cX4_found 159 = .ok (.iload_n 2, 1) := by decide +kernel
theorem dX4_found_160 : decode cX4_found 160 = .ok (.aload_n 0, 1) := by decide +kernel
theorem dX4_found_161 : decode cX4_found 161 = .ok (.getfield 16, 3) := by decide +kernel
theorem dX4_found_164 : decode cX4_found 164 = .ok (.iload_n 1, 1) := by decide +kernel
theorem dX4_found_165 : decode cX4_found 165 = .ok (.iaload, 1) := by decide +kernel
theorem dX4_found_166 : decode cX4_found 166 = .ok (.invokevirtual 127, 3) := by decide +kernel
theorem dX4_found_169 : decode cX4_found 169 = .ok (.istore 5, 2) := by decide +kernel
theorem dX4_found_171 : decode cX4_found 171 = .ok (.aload_n 0, 1) := by decide +kernel
theorem dX4_found_172 : decode cX4_found 172 = .ok (.getfield 51, 3) := by decide +kernel
theorem dX4_found_175 : decode cX4_found 175 = .ok (.bipush 12, 2) := by decide +kernel
theorem dX4_found_177 : decode cX4_found 177 = .ok (.iload_n 3, 1) := by decide +kernel
theorem dX4_found_178 : decode cX4_found 178 = .ok (.imul, 1) := by decide +kernel
theorem dX4_found_179 : decode cX4_found 179 = .ok (.aload_n 0, 1) := by decide +kernel
theorem dX4_found_180 : decode cX4_found 180 = .ok (.getfield 48, 3) := by decide +kernel
theorem dX4_found_183 : decode cX4_found 183 = .ok (.iload_n 3, 1) := by decide +kernel
theorem dX4_found_184 : decode cX4_found 184 = .ok (.iaload, 1) := by decide +kernel
theorem dX4_found_185 : decode cX4_found 185 = .ok (.iadd, 1) := by decide +kernel
theorem dX4_found_186 : decode cX4_found 186 = .ok (.iload_n 2, 1) := by decide +kernel
theorem dX4_found_187 : decode cX4_found 187 = .ok (.iastore, 1) := by decide +kernel
theorem dX4_found_188 : decode cX4_found 188 = .ok (.aload_n 0, 1) := by decide +kernel
theorem dX4_found_189 : decode cX4_found 189 = .ok (.getfield 48, 3) := by decide +kernel
theorem dX4_found_192 : decode cX4_found 192 = .ok (.iload_n 3, 1) := by decide +kernel
theorem dX4_found_193 : decode cX4_found 193 = .ok (.dup2, 1) := by decide +kernel
theorem dX4_found_194 : decode cX4_found 194 = .ok (.iaload, 1) := by decide +kernel
theorem dX4_found_195 : decode cX4_found 195 = .ok (.iconst 1, 1) := by decide +kernel
theorem dX4_found_196 : decode cX4_found 196 = .ok (.iadd, 1) := by decide +kernel
theorem dX4_found_197 : decode cX4_found 197 = .ok (.iastore, 1) := by decide +kernel
theorem dX4_found_198 : decode cX4_found 198 = .ok (.aload_n 0, 1) := by decide +kernel
theorem dX4_found_199 : decode cX4_found 199 = .ok (.invokevirtual 113, 3) := by decide +kernel
theorem dX4_found_202 : decode cX4_found 202 = .ok (.iconst 0, 1) := by decide +kernel
theorem dX4_found_203 : decode cX4_found 203 = .ok (.ireturn, 1) := by decide +kernel
theorem dX4_pick_0 : decode cX4_pick 0 = .ok (.iload_n 1, 1) := by decide +kernel
theorem dX4_pick_1 : decode cX4_pick 1 = .ok (.ifCond .ne 7, 3) := by decide +kernel
theorem dX4_pick_4 : decode cX4_pick 4 = .ok (.iload_n 2, 1) := by decide +kernel
theorem dX4_pick_5 : decode cX4_pick 5 = .ok (.goto 5, 3) := by decide +kernel
theorem dX4_pick_8 : decode cX4_pick 8 = .ok (.lload_n 3, 1) := by decide +kernel
theorem dX4_pick_9 : decode cX4_pick 9 = .ok (.l2i, 1) := by decide +kernel
theorem dX4_pick_10 : decode cX4_pick 10 = .ok (.ireturn, 1) := by decide +kernel
theorem dX4_difference_0 : decode cX4_difference 0 = .ok (.iload_n 2, 1) := by decide +kernel
theorem dX4_difference_1 : decode cX4_difference 1 = .ok (.istore 4, 2) := by decide +kernel
theorem dX4_difference_3 : decode cX4_difference 3 = .ok (.aload_n 0, 1) := by decide +kernel
theorem dX4_difference_4 : decode cX4_difference 4 = .ok (.getfield 36, 3) := by decide +kernel
theorem dX4_difference_7 : decode cX4_difference 7 = .ok (.iload_n 1, 1) := by decide +kernel
theorem dX4_difference_8 : decode cX4_difference 8 = .ok (.laload, 1) := by decide +kernel
theorem dX4_difference_9 : decode cX4_difference 9 = .ok (.aload_n 0, 1) := by decide +kernel
theorem dX4_difference_10 : decode cX4_difference 10 = .ok (.getfield 29, 3) := by decide +kernel
theorem dX4_difference_13 : decode cX4_difference 13 = .ok (.iload_n 1, 1) := by decide +kernel
theorem dX4_difference_14 : decode cX4_difference 14 = .ok (.laload, 1) := by decide +kernel
theorem dX4_difference_15 : decode cX4_difference 15 = .ok (.lcmp, 1) := by decide +kernel
theorem dX4_difference_16 : decode cX4_difference 16 = .ok (.ifCond .eq 24, 3) := by decide +kernel
theorem dX4_difference_19 : decode cX4_difference 19 = .ok (.iload 4, 2) := by decide +kernel
theorem dX4_difference_21 : decode cX4_difference 21 = .ok (.ifCond .ne 16, 3) := by decide +kernel
theorem dX4_difference_24 : decode cX4_difference 24 = .ok (.aload_n 0, 1) := by decide +kernel
theorem dX4_difference_25 : decode cX4_difference 25 = .ok (.iload_n 3, 1) := by decide +kernel
theorem dX4_difference_26 : decode cX4_difference 26 = .ok (.iconst 0, 1) := by decide +kernel
theorem dX4_difference_27 : decode cX4_difference 27 = .ok (.aload_n 0, 1) := by decide +kernel
theorem dX4_difference_28 : decode cX4_difference 28 = .ok (.getfield 36, 3) := by decide +kernel
theorem dX4_difference_31 : decode cX4_difference 31 = .ok (.iload_n 1, 1) := by decide +kernel
theorem dX4_difference_32 : decode cX4_difference 32 = .ok (.laload, 1) := by decide +kernel
theorem dX4_difference_33 : decode cX4_difference 33 = .ok (.invokevirtual 130, 3) := by decide +kernel
theorem dX4_difference_36 : decode cX4_difference 36 = .ok (.ireturn, 1) := by decide +kernel
theorem dX4_difference_37 : decode cX4_difference 37 = .ok (.iinc 4 (-1), 3) := by decide +kernel
theorem dX4_difference_40 : decode cX4_difference 40 = .ok (.iload 4, 2) := by decide +kernel
theorem dX4_difference_42 : decode cX4_difference 42 = .ok (.aload_n 0, 1) := by decide +kernel
theorem dX4_difference_43 : decode cX4_difference 43 = .ok (.getfield 54, 3) := by decide +kernel
theorem dX4_difference_46 : decode cX4_difference 46 = .ok (.iload_n 1, 1) := by decide +kernel
theorem dX4_difference_47 : decode cX4_difference 47 = .ok (.iaload, 1) := by decide +kernel
theorem dX4_difference_48 : decode cX4_difference 48 = .ok (.if_icmp .ge 22, 3) := by decide +kernel
theorem dX4_difference_51 : decode cX4_difference 51 = .ok (.aload_n 0, 1) := by decide +kernel
theorem dX4_difference_52 : decode cX4_difference 52 = .ok (.iload_n 3, 1) := by decide +kernel
theorem dX4_difference_53 : decode cX4_difference 53 = .ok (.iconst 1, 1) := by decide +kernel
theorem dX4_difference_54 : decode cX4_difference 54 = .ok (.aload_n 0, 1) := by decide +kernel
theorem dX4_difference_55 : decode cX4_difference 55 = .ok (.getfield 57, 3) := by decide +kernel
theorem dX4_difference_58 : decode cX4_difference 58 = .ok (.bipush 6, 2) := by decide +kernel
theorem dX4_difference_60 : decode cX4_difference 60 = .ok (.iload_n 1, 1) := by decide +kernel
theorem dX4_difference_61 : decode cX4_difference 61 = .ok (.imul, 1) := by decide +kernel
theorem dX4_difference_62 : decode cX4_difference 62 = .ok (.iload 4, 2) := by decide +kernel
theorem dX4_difference_64 : decode cX4_difference 64 = .ok (.iadd, 1) := by decide +kernel
theorem dX4_difference_65 : decode cX4_difference 65 = .ok (.laload, 1) := by decide +kernel
theorem dX4_difference_66 : decode cX4_difference 66 = .ok (.invokevirtual 130, 3) := by decide +kernel
theorem dX4_difference_69 : decode cX4_difference 69 = .ok (.ireturn, 1) := by decide +kernel
theorem dX4_difference_70 : decode cX4_difference 70 = .ok (.iload 4, 2) := by decide +kernel
theorem dX4_difference_72 : decode cX4_difference 72 = .ok (.aload_n 0, 1) := by decide +kernel
theorem dX4_difference_73 : decode cX4_difference 73 = .ok (.getfield 54, 3) := by decide +kernel
theorem dX4_difference_76 : decode cX4_difference 76 = .ok (.iload_n 1, 1) := by decide +kernel
theorem dX4_difference_77 : decode cX4_difference 77 = .ok (.iaload, 1) := by decide +kernel
theorem dX4_difference_78 : decode cX4_difference 78 = .ok (.isub, 1) := by decide +kernel
theorem dX4_difference_79 : decode cX4_difference 79 = .ok (.istore 4, 2) := by decide +kernel
theorem dX4_difference_81 : decode cX4_difference 81 = .ok (.iconst 0, 1) := by decide +kernel
theorem dX4_difference_82 : decode cX4_difference 82 = .ok (.istore 5, 2) := by decide +kernel
theorem dX4_difference_84 : decode cX4_difference 84 = .ok (.iload 5, 2) := by decide +kernel
theorem dX4_difference_86 : decode cX4_difference 86 = .ok (.aload_n 0, 1) := by decide +kernel
theorem dX4_difference_87 : decode cX4_difference 87 = .ok (.getfield 39, 3) := by decide +kernel
theorem dX4_difference_90 : decode cX4_difference 90 = .ok (.iload_n 1, 1) := by decide +kernel
theorem dX4_difference_91 : decode cX4_difference 91 = .ok (.iaload, 1) := by decide +kernel
theorem dX4_difference_92 : decode cX4_difference 92 = .ok (.if_icmp .ge 52, 3) := by decide +kernel
theorem dX4_difference_95 : decode cX4_difference 95 = .ok (.aload_n 0, 1) := by decide +kernel
theorem dX4_difference_96 : decode cX4_difference 96 = .ok (.getfield 45, 3) := by decide +kernel
theorem dX4_difference_99 : decode cX4_difference 99 = .ok (.bipush 12, 2) := by decide +kernel
theorem dX4_difference_101 : decode cX4_difference 101 = .ok (.iload_n 1, 1) := by decide +kernel
theorem dX4_difference_102 : decode cX4_difference 102 = .ok (.imul, 1) := by decide +kernel
theorem dX4_difference_103 : decode cX4_difference 103 = .ok (.iload 5, 2) := by decide +kernel
theorem dX4_difference_105 : decode cX4_difference 105 = .ok (.iadd, 1) := by decide +kernel
theorem dX4_difference_106 : decode cX4_difference 106 = .ok (.baload, 1) := by decide +kernel
theorem dX4_difference_107 : decode cX4_difference 107 = .ok (.ifCond .ne 31, 3) := by decide +kernel
theorem dX4_difference_110 : decode cX4_difference 110 = .ok (.iload 4, 2) := by decide +kernel
theorem dX4_difference_112 : decode cX4_difference 112 = .ok (.ifCond .ne 23, 3) := by decide +kernel
theorem dX4_difference_115 : decode cX4_difference 115 = .ok (.aload_n 0, 1) := by decide +kernel
theorem dX4_difference_116 : decode cX4_difference 116 = .ok (.iload_n 3, 1) := by decide +kernel
theorem dX4_difference_117 : decode cX4_difference 117 = .ok (.iconst 2, 1) := by decide +kernel
theorem dX4_difference_118 : decode cX4_difference 118 = .ok (.aload_n 0, 1) := by decide +kernel
theorem dX4_difference_119 : decode cX4_difference 119 = .ok (.getfield 42, 3) := by decide +kernel
theorem dX4_difference_122 : decode cX4_difference 122 = .ok (.bipush 12, 2) := by decide +kernel
theorem dX4_difference_124 : decode cX4_difference 124 = .ok (.iload_n 1, 1) := by decide +kernel
theorem dX4_difference_125 : decode cX4_difference 125 = .ok (.imul, 1) := by decide +kernel
theorem dX4_difference_126 : decode cX4_difference 126 = .ok (.iload 5, 2) := by decide +kernel
theorem dX4_difference_128 : decode cX4_difference 128 = .ok (.iadd, 1) := by decide +kernel
theorem dX4_difference_129 : decode cX4_difference 129 = .ok (.iaload, 1) := by decide +kernel
theorem dX4_difference_130 : decode cX4_difference 130 = .ok (.i2l, 1) := by decide +kernel
theorem dX4_difference_131 : decode cX4_difference 131 = .ok (.invokevirtual 130, 3) := by decide +kernel
theorem dX4_difference_134 : decode cX4_difference 134 = .ok (.ireturn, 1) := by decide +kernel
theorem dX4_difference_135 : decode cX4_difference 135 = .ok (.iinc 4 (-1), 3) := by decide +kernel
theorem dX4_difference_138 : decode cX4_difference 138 = .ok (.iinc 5 1, 3) := by decide +kernel
theorem dX4_difference_141 : decode cX4_difference 141 = .ok (.goto (-57), 3) := by decide +kernel
theorem dX4_difference_144 : decode cX4_difference 144 = .ok (.iload 4, 2) := by decide +kernel
theorem dX4_difference_146 : decode cX4_difference 146 = .ok (.aload_n 0, 1) := by decide +kernel
theorem dX4_difference_147 : decode cX4_difference 147 = .ok (.getfield 48, 3) := by decide +kernel
theorem dX4_difference_150 : decode cX4_difference 150 = .ok (.iload_n 1, 1) := by decide +kernel
theorem dX4_difference_151 : decode cX4_difference 151 = .ok (.iaload, 1) := by decide +kernel
theorem dX4_difference_152 : decode cX4_difference 152 = .ok (.if_icmp .ge 25, 3) := by decide +kernel
theorem dX4_difference_155 : decode cX4_difference 155 = .ok (.aload_n 0, 1) := by decide +kernel
theorem dX4_difference_156 : decode cX4_difference 156 = .ok (.iload_n 3, 1) := by decide +kernel
theorem dX4_difference_157 : decode cX4_difference 157 = .ok (.iconst 3, 1) := by decide +kernel
theorem dX4_difference_158 : decode cX4_difference 158 = .ok (.aload_n 0, 1) := by decide +kernel
theorem dX4_difference_159 : decode cX4_difference 159 = .ok (.getfield 51, 3) := by decide +kernel
theorem dX4_difference_162 : decode cX4_difference 162 = .ok (.bipush 12, 2) := by decide +kernel
theorem dX4_difference_164 : decode cX4_difference 164 = .ok (.iload_n 1, 1) := by decide +kernel
theorem dX4_difference_165 : decode cX4_difference 165 = .ok (.imul, 1) := by decide +kernel
theorem dX4_difference_166 : decode cX4_difference 166 = .ok (.iload 4, 2) := by decide +kernel
theorem dX4_difference_168 : decode cX4_difference 168 = .ok (.iadd, 1) := by decide +kernel
theorem dX4_difference_169 : decode cX4_difference 169 = .ok (.iaload, 1) := by decide +kernel
theorem dX4_difference_170 : decode cX4_difference 170 = .ok (.i2l, 1) := by decide +kernel
theorem dX4_difference_171 : decode cX4_difference 171 = .ok (.invokevirtual 130, 3) := by decide +kernel
theorem dX4_difference_174 : decode cX4_difference 174 = .ok (.goto 4, 3) := by decide +kernel
theorem dX4_difference_177 : decode cX4_difference 177 = .ok (.iconst (-1), 1) := by decide +kernel
theorem dX4_difference_178 : decode cX4_difference 178 = .ok (.ireturn, 1) := by decide +kernel
theorem dX4_differ_0 : decode cX4_differ 0 = .ok (.aload_n 0, 1) := by decide +kernel
theorem dX4_differ_1 : decode cX4_differ 1 = .ok (.iconst 0, 1) := by decide +kernel
theorem dX4_differ_2 : decode cX4_differ 2 = .ok (.putfield 69, 3) := by decide +kernel
theorem dX4_differ_5 : decode cX4_differ 5 = .ok (.aload_n 0, 1) := by decide +kernel
theorem dX4_differ_6 : decode cX4_differ 6 = .ok (.iload_n 1, 1) := by decide +kernel
theorem dX4_differ_7 : decode cX4_differ 7 = .ok (.invokevirtual 76, 3) := by decide +kernel
theorem dX4_differ_10 : decode cX4_differ 10 = .ok (.ifCond .ne 6, 3) := by decide +kernel
theorem dX4_differ_13 : decode cX4_differ 13 = .ok (.bipush (-11), 2) := by decide +kernel
theorem dX4_differ_15 : decode cX4_differ 15 = .ok (.ireturn, 1) := by decide +kernel
theorem dX4_differ_16 : decode cX4_differ 16 = .ok (.iload_n 3, 1) := by decide +kernel
theorem dX4_differ_17 : decode cX4_differ 17 = .ok (.ifCond .lt 8, 3) := by decide +kernel
theorem dX4_differ_20 : decode cX4_differ 20 = .ok (.iload_n 3, 1) := by decide +kernel
theorem dX4_differ_21 : decode cX4_differ 21 = .ok (.iconst 1, 1) := by decide +kernel
theorem dX4_differ_22 : decode cX4_differ 22 = .ok (.if_icmp .le 6, 3) := by decide +kernel
theorem dX4_differ_25 : decode cX4_differ 25 = .ok (.bipush (-12), 2) := by decide +kernel
theorem dX4_differ_27 : decode cX4_differ 27 = .ok (.ireturn, 1) := by decide +kernel
theorem dX4_differ_28 : decode cX4_differ 28 = .ok (.aload_n 0, 1) := by decide +kernel
theorem dX4_differ_29 : decode cX4_differ 29 = .ok (.getfield 26, 3) := by decide +kernel
theorem dX4_differ_32 : decode cX4_differ 32 = .ok (.iload_n 1, 1) := by decide +kernel
theorem dX4_differ_33 : decode cX4_differ 33 = .ok (.sipush 1001, 3) := by decide +kernel
theorem dX4_differ_36 : decode cX4_differ 36 = .ok (.isub, 1) := by decide +kernel
theorem dX4_differ_37 : decode cX4_differ 37 = .ok (.baload, 1) := by decide +kernel
theorem dX4_differ_38 : decode cX4_differ 38 = .ok (.ifCond .ne 6, 3) := by decide +kernel
theorem dX4_differ_41 : decode cX4_differ 41 = .ok (.bipush (-13), 2) := by decide +kernel
theorem dX4_differ_43 : decode cX4_differ 43 = .ok (.ireturn, 1) := by decide +kernel
theorem dX4_differ_44 : decode cX4_differ 44 = .ok (.iload_n 2, 1) := by decide +kernel
theorem dX4_differ_45 : decode cX4_differ 45 = .ok (.ifCond .ge 7, 3) := by decide +kernel
theorem dX4_differ_48 : decode cX4_differ 48 = .ok (.iconst (-1), 1) := by decide +kernel
theorem dX4_differ_49 : decode cX4_differ 49 = .ok (.goto 14, 3) := by decide +kernel
theorem dX4_differ_52 : decode cX4_differ 52 = .ok (.aload_n 0, 1) := by decide +kernel
theorem dX4_differ_53 : decode cX4_differ 53 = .ok (.iload_n 1, 1) := by decide +kernel
theorem dX4_differ_54 : decode cX4_differ 54 = .ok (.sipush 1001, 3) := by decide +kernel
theorem dX4_differ_57 : decode cX4_differ 57 = .ok (.isub, 1) := by decide +kernel
theorem dX4_differ_58 : decode cX4_differ 58 = .ok (.iload_n 2, 1) := by decide +kernel
theorem dX4_differ_59 : decode cX4_differ 59 = .ok (.iload_n 3, 1) := by decide +kernel
theorem dX4_differ_60 : decode cX4_differ 60 = .ok (.invokevirtual 134, 3) := by decide +kernel
theorem dX4_differ_63 : decode cX4_differ 63 = .ok (.ireturn, 1) := by decide +kernel
theorem dX4_inside_0 : decode cX4_inside 0 = .ok (.aload_n 0, 1) := by decide +kernel
theorem dX4_inside_1 : decode cX4_inside 1 = .ok (.iconst 0, 1) := by decide +kernel
theorem dX4_inside_2 : decode cX4_inside 2 = .ok (.putfield 69, 3) := by decide +kernel
theorem dX4_inside_5 : decode cX4_inside 5 = .ok (.aload_n 0, 1) := by decide +kernel
theorem dX4_inside_6 : decode cX4_inside 6 = .ok (.iload_n 1, 1) := by decide +kernel
theorem dX4_inside_7 : decode cX4_inside 7 = .ok (.invokevirtual 95, 3) := by decide +kernel
theorem dX4_inside_10 : decode cX4_inside 10 = .ok (.ifCond .eq 12, 3) := by decide +kernel
theorem dX4_inside_13 : decode cX4_inside 13 = .ok (.aload_n 0, 1) := by decide +kernel
theorem dX4_inside_14 : decode cX4_inside 14 = .ok (.getfield 7, 3) := by decide +kernel
theorem dX4_inside_17 : decode cX4_inside 17 = .ok (.iload_n 1, 1) := by decide +kernel
theorem dX4_inside_18 : decode cX4_inside 18 = .ok (.iaload, 1) := by decide +kernel
theorem dX4_inside_19 : decode cX4_inside 19 = .ok (.goto 5, 3) := by decide +kernel
theorem dX4_inside_22 : decode cX4_inside 22 = .ok (.bipush (-11), 2) := by decide +kernel
theorem dX4_inside_24 : decode cX4_inside 24 = .ok (.ireturn, 1) := by decide +kernel
theorem dX4_own_0 : decode cX4_own 0 = .ok (.iload_n 1, 1) := by decide +kernel
theorem dX4_own_1 : decode cX4_own 1 = .ok (.sipush 1000, 3) := by decide +kernel
theorem dX4_own_4 : decode cX4_own 4 = .ok (.if_icmp .le 25, 3) := by decide +kernel
theorem dX4_own_7 : decode cX4_own 7 = .ok (.ldc2_w 93, 3) := by decide +kernel
theorem dX4_own_10 : decode cX4_own 10 = .ok (.aload_n 0, 1) := by decide +kernel
theorem dX4_own_11 : decode cX4_own 11 = .ok (.getfield 19, 3) := by decide +kernel
theorem dX4_own_14 : decode cX4_own 14 = .ok (.iload_n 1, 1) := by decide +kernel
theorem dX4_own_15 : decode cX4_own 15 = .ok (.sipush 1001, 3) := by decide +kernel
theorem dX4_own_18 : decode cX4_own 18 = .ok (.isub, 1) := by decide +kernel
theorem dX4_own_19 : decode cX4_own 19 = .ok (.iaload, 1) := by decide +kernel
theorem dX4_own_20 : decode cX4_own 20 = .ok (.i2l, 1) := by decide +kernel
theorem dX4_own_21 : decode cX4_own 21 = .ok (.lmul, 1) := by decide +kernel
theorem dX4_own_22 : decode cX4_own 22 = .ok (.ldc2_w 93, 3) := by decide +kernel
theorem dX4_own_25 : decode cX4_own 25 = .ok (.ladd, 1) := by decide +kernel
theorem dX4_own_26 : decode cX4_own 26 = .ok (.goto 16, 3) := by decide +kernel
theorem dX4_own_29 : decode cX4_own 29 = .ok (.ldc2_w 138, 3) := by decide +kernel
theorem dX4_own_32 : decode cX4_own 32 = .ok (.ldc2_w 140, 3) := by decide +kernel
theorem dX4_own_35 : decode cX4_own 35 = .ok (.iload_n 1, 1) := by decide +kernel
theorem dX4_own_36 : decode cX4_own 36 = .ok (.bipush 50, 2) := by decide +kernel
theorem dX4_own_38 : decode cX4_own 38 = .ok (.irem, 1) := by decide +kernel
theorem dX4_own_39 : decode cX4_own 39 = .ok (.i2l, 1) := by decide +kernel
theorem dX4_own_40 : decode cX4_own 40 = .ok (.lmul, 1) := by decide +kernel
theorem dX4_own_41 : decode cX4_own 41 = .ok (.ladd, 1) := by decide +kernel
theorem dX4_own_42 : decode cX4_own 42 = .ok (.lreturn, 1) := by decide +kernel
theorem dX4_weight_0 : decode cX4_weight 0 = .ok (.aload_n 0, 1) := by decide +kernel
theorem dX4_weight_1 : decode cX4_weight 1 = .ok (.iconst 0, 1) := by decide +kernel
theorem dX4_weight_2 : decode cX4_weight 2 = .ok (.putfield 69, 3) := by decide +kernel
theorem dX4_weight_5 : decode cX4_weight 5 = .ok (.aload_n 0, 1) := by decide +kernel
theorem dX4_weight_6 : decode cX4_weight 6 = .ok (.iload_n 1, 1) := by decide +kernel
theorem dX4_weight_7 : decode cX4_weight 7 = .ok (.invokevirtual 76, 3) := by decide +kernel
theorem dX4_weight_10 : decode cX4_weight 10 = .ok (.ifCond .ne 6, 3) := by decide +kernel
theorem dX4_weight_13 : decode cX4_weight 13 = .ok (.bipush (-11), 2) := by decide +kernel
theorem dX4_weight_15 : decode cX4_weight 15 = .ok (.ireturn, 1) := by decide +kernel
theorem dX4_weight_16 : decode cX4_weight 16 = .ok (.lload_n 2, 1) := by decide +kernel
theorem dX4_weight_17 : decode cX4_weight 17 = .ok (.lconst 0, 1) := by decide +kernel
theorem dX4_weight_18 : decode cX4_weight 18 = .ok (.lcmp, 1) := by decide +kernel
theorem dX4_weight_19 : decode cX4_weight 19 = .ok (.ifCond .lt 11, 3) := by decide +kernel
theorem dX4_weight_22 : decode cX4_weight 22 = .ok (.lload_n 2, 1) := by decide +kernel
theorem dX4_weight_23 : decode cX4_weight 23 = .ok (.ldc2_w 111, 3) := by decide +kernel
theorem dX4_weight_26 : decode cX4_weight 26 = .ok (.lcmp, 1) := by decide +kernel
theorem dX4_weight_27 : decode cX4_weight 27 = .ok (.ifCond .le 6, 3) := by decide +kernel
theorem dX4_weight_30 : decode cX4_weight 30 = .ok (.bipush (-12), 2) := by decide +kernel
theorem dX4_weight_32 : decode cX4_weight 32 = .ok (.ireturn, 1) := by decide +kernel
theorem dX4_weight_33 : decode cX4_weight 33 = .ok (.aload_n 0, 1) := by decide +kernel
theorem dX4_weight_34 : decode cX4_weight 34 = .ok (.iload_n 1, 1) := by decide +kernel
theorem dX4_weight_35 : decode cX4_weight 35 = .ok (.invokevirtual 142, 3) := by decide +kernel
theorem dX4_weight_38 : decode cX4_weight 38 = .ok (.lstore 4, 2) := by decide +kernel
theorem dX4_weight_40 : decode cX4_weight 40 = .ok (.iconst 1, 1) := by decide +kernel
theorem dX4_weight_41 : decode cX4_weight 41 = .ok (.istore 6, 2) := by decide +kernel
theorem dX4_weight_43 : decode cX4_weight 43 = .ok (.iload 6, 2) := by decide +kernel
theorem dX4_weight_45 : decode cX4_weight 45 = .ok (.sipush 1061, 3) := by decide +kernel
theorem dX4_weight_48 : decode cX4_weight 48 = .ok (.if_icmp .ge 35, 3) := by decide +kernel
theorem dX4_weight_51 : decode cX4_weight 51 = .ok (.aload_n 0, 1) := by decide +kernel
theorem dX4_weight_52 : decode cX4_weight 52 = .ok (.iload 6, 2) := by decide +kernel
theorem dX4_weight_54 : decode cX4_weight 54 = .ok (.iload_n 1, 1) := by decide +kernel
theorem dX4_weight_55 : decode cX4_weight 55 = .ok (.invokevirtual 116, 3) := by decide +kernel
theorem dX4_weight_58 : decode cX4_weight 58 = .ok (.ifCond .eq 15, 3) := by decide +kernel
theorem dX4_weight_61 : decode cX4_weight 61 = .ok (.lload 4, 2) := by decide +kernel
theorem dX4_weight_63 : decode cX4_weight 63 = .ok (.aload_n 0, 1) := by decide +kernel
theorem dX4_weight_64 : decode cX4_weight 64 = .ok (.iload 6, 2) := by decide +kernel
theorem dX4_weight_66 : decode cX4_weight 66 = .ok (.invokevirtual 142, 3) := by decide +kernel
theorem dX4_weight_69 : decode cX4_weight 69 = .ok (.ladd, 1) := by decide +kernel
theorem dX4_weight_70 : decode cX4_weight 70 = .ok (.goto 5, 3) := by decide +kernel
theorem dX4_weight_73 : decode cX4_weight 73 = .ok (.lload 4, 2) := by decide +kernel
theorem dX4_weight_75 : decode cX4_weight 75 = .ok (.lstore 4, 2) := by decide +kernel
theorem dX4_weight_77 : decode cX4_weight 77 = .ok (.iinc 6 1, 3) := by decide +kernel
theorem dX4_weight_80 : decode cX4_weight 80 = .ok (.goto (-37), 3) := by decide +kernel
theorem dX4_weight_83 : decode cX4_weight 83 = .ok (.lload_n 2, 1) := by decide +kernel
theorem dX4_weight_84 : decode cX4_weight 84 = .ok (.lload 4, 2) := by decide +kernel
theorem dX4_weight_86 : decode cX4_weight 86 = .ok (.lcmp, 1) := by decide +kernel
theorem dX4_weight_87 : decode cX4_weight 87 = .ok (.ifCond .ge 10, 3) := by decide +kernel
theorem dX4_weight_90 : decode cX4_weight 90 = .ok (.lload 4, 2) := by decide +kernel
theorem dX4_weight_92 : decode cX4_weight 92 = .ok (.lload_n 2, 1) := by decide +kernel
theorem dX4_weight_93 : decode cX4_weight 93 = .ok (.lsub, 1) := by decide +kernel
theorem dX4_weight_94 : decode cX4_weight 94 = .ok (.goto 7, 3) := by decide +kernel
theorem dX4_weight_97 : decode cX4_weight 97 = .ok (.lload_n 2, 1) := by decide +kernel
theorem dX4_weight_98 : decode cX4_weight 98 = .ok (.lload 4, 2) := by decide +kernel
theorem dX4_weight_100 : decode cX4_weight 100 = .ok (.lsub, 1) := by decide +kernel
theorem dX4_weight_101 : decode cX4_weight 101 = .ok (.lstore 6, 2) := by decide +kernel
theorem dX4_weight_103 : decode cX4_weight 103 = .ok (.lload 6, 2) := by decide +kernel
theorem dX4_weight_105 : decode cX4_weight 105 = .ok (.lload 4, 2) := by decide +kernel
theorem dX4_weight_107 : decode cX4_weight 107 = .ok (.ldc2_w 146, 3) := by decide +kernel
theorem dX4_weight_110 : decode cX4_weight 110 = .ok (.ldiv, 1) := by decide +kernel
theorem dX4_weight_111 : decode cX4_weight 111 = .ok (.lcmp, 1) := by decide +kernel
theorem dX4_weight_112 : decode cX4_weight 112 = .ok (.ifCond .gt 5, 3) := by decide +kernel
theorem dX4_weight_115 : decode cX4_weight 115 = .ok (.iconst 1, 1) := by decide +kernel
theorem dX4_weight_116 : decode cX4_weight 116 = .ok (.ireturn, 1) := by decide +kernel
theorem dX4_weight_117 : decode cX4_weight 117 = .ok (.iload_n 1, 1) := by decide +kernel
theorem dX4_weight_118 : decode cX4_weight 118 = .ok (.sipush 1001, 3) := by decide +kernel
theorem dX4_weight_121 : decode cX4_weight 121 = .ok (.isub, 1) := by decide +kernel
theorem dX4_weight_122 : decode cX4_weight 122 = .ok (.istore 8, 2) := by decide +kernel
theorem dX4_weight_124 : decode cX4_weight 124 = .ok (.aload_n 0, 1) := by decide +kernel
theorem dX4_weight_125 : decode cX4_weight 125 = .ok (.getfield 54, 3) := by decide +kernel
theorem dX4_weight_128 : decode cX4_weight 128 = .ok (.iload 8, 2) := by decide +kernel
theorem dX4_weight_130 : decode cX4_weight 130 = .ok (.iaload, 1) := by decide +kernel
theorem dX4_weight_131 : decode cX4_weight 131 = .ok (.bipush 6, 2) := by decide +kernel
theorem dX4_weight_133 : decode cX4_weight 133 = .ok (.if_icmp .ge 33, 3) := by decide +kernel
theorem dX4_weight_136 : decode cX4_weight 136 = .ok (.aload_n 0, 1) := by decide +kernel
theorem dX4_weight_137 : decode cX4_weight 137 = .ok (.getfield 57, 3) := by decide +kernel
theorem dX4_weight_140 : decode cX4_weight 140 = .ok (.bipush 6, 2) := by decide +kernel
theorem dX4_weight_142 : decode cX4_weight 142 = .ok (.iload 8, 2) := by decide +kernel
theorem dX4_weight_144 : decode cX4_weight 144 = .ok (.imul, 1) := by decide +kernel
theorem dX4_weight_145 : decode cX4_weight 145 = .ok (.aload_n 0, 1) := by decide +kernel
theorem dX4_weight_146 : decode cX4_weight 146 = .ok (.getfield 54, 3) := by decide +kernel
theorem dX4_weight_149 : decode cX4_weight 149 = .ok (.iload 8, 2) := by decide +kernel
theorem dX4_weight_151 : decode cX4_weight 151 = .ok (.iaload, 1) := by decide +kernel
theorem dX4_weight_152 : decode cX4_weight 152 = .ok (.iadd, 1) := by decide +kernel
theorem dX4_weight_153 : decode cX4_weight 153 = .ok (.lload_n 2, 1) := by decide +kernel
theorem dX4_weight_154 : decode cX4_weight 154 = .ok (.lastore, 1) := by decide +kernel
theorem dX4_weight_155 : decode cX4_weight 155 = .ok (.aload_n 0, 1) := by decide +kernel
theorem dX4_weight_156 : decode cX4_weight 156 = .ok (.getfield 54, 3) := by decide +kernel
theorem dX4_weight_159 : decode cX4_weight 159 = .ok (.iload 8, 2) := by decide +kernel
theorem dX4_weight_161 : decode cX4_weight 161 = .ok (.dup2, 1) := by decide +kernel
theorem dX4_weight_162 : decode cX4_weight 162 = .ok (.iaload, 1) := by decide +kernel
theorem dX4_weight_163 : decode cX4_weight 163 = .ok (.iconst 1, 1) := by decide +kernel
theorem dX4_weight_164 : decode cX4_weight 164 = .ok (.iadd, 1) := by decide +kernel
theorem dX4_weight_165 : decode cX4_weight 165 = .ok (.iastore, 1) := by decide +kernel
theorem dX4_weight_166 : decode cX4_weight 166 = .ok (.aload_n 0, 1) := by decide +kernel
theorem dX4_weight_167 : decode cX4_weight 167 = .ok (.invokevirtual 113, 3) := by decide +kernel
theorem dX4_weight_170 : decode cX4_weight 170 = .ok (.iconst 0, 1) := by decide +kernel
theorem dX4_weight_171 : decode cX4_weight 171 = .ok (.ireturn, 1) := by decide +kernel
theorem dX4_document_0 : decode cX4_document 0 = .ok (.aload_n 0, 1) := by decide +kernel
theorem dX4_document_1 : decode cX4_document 1 = .ok (.iconst 0, 1) := by decide +kernel
theorem dX4_document_2 : decode cX4_document 2 = .ok (.putfield 69, 3) := by decide +kernel
theorem dX4_document_5 : decode cX4_document 5 = .ok (.aload_n 0, 1) := by decide +kernel
theorem dX4_document_6 : decode cX4_document 6 = .ok (.iload_n 1, 1) := by decide +kernel
theorem dX4_document_7 : decode cX4_document 7 = .ok (.invokevirtual 76, 3) := by decide +kernel
theorem dX4_document_10 : decode cX4_document 10 = .ok (.ifCond .ne 6, 3) := by decide +kernel
theorem dX4_document_13 : decode cX4_document 13 = .ok (.bipush (-11), 2) := by decide +kernel
theorem dX4_document_15 : decode cX4_document 15 = .ok (.ireturn, 1) := by decide +kernel
theorem dX4_document_16 : decode cX4_document 16 = .ok (.iload_n 2, 1) := by decide +kernel
theorem dX4_document_17 : decode cX4_document 17 = .ok (.ifCond .lt 35, 3) := by decide +kernel
theorem dX4_document_20 : decode cX4_document 20 = .ok (.iload_n 2, 1) := by decide +kernel
theorem dX4_document_21 : decode cX4_document 21 = .ok (.aload_n 0, 1) := by decide +kernel
theorem dX4_document_22 : decode cX4_document 22 = .ok (.getfield 39, 3) := by decide +kernel
theorem dX4_document_25 : decode cX4_document 25 = .ok (.iload_n 1, 1) := by decide +kernel
theorem dX4_document_26 : decode cX4_document 26 = .ok (.sipush 1001, 3) := by decide +kernel
theorem dX4_document_29 : decode cX4_document 29 = .ok (.isub, 1) := by decide +kernel
theorem dX4_document_30 : decode cX4_document 30 = .ok (.iaload, 1) := by decide +kernel
theorem dX4_document_31 : decode cX4_document 31 = .ok (.if_icmp .ge 21, 3) := by decide +kernel
theorem dX4_document_34 : decode cX4_document 34 = .ok (.aload_n 0, 1) := by decide +kernel
theorem dX4_document_35 : decode cX4_document 35 = .ok (.getfield 42, 3) := by decide +kernel
theorem dX4_document_38 : decode cX4_document 38 = .ok (.bipush 12, 2) := by decide +kernel
theorem dX4_document_40 : decode cX4_document 40 = .ok (.iload_n 1, 1) := by decide +kernel
theorem dX4_document_41 : decode cX4_document 41 = .ok (.sipush 1001, 3) := by decide +kernel
theorem dX4_document_44 : decode cX4_document 44 = .ok (.isub, 1) := by decide +kernel
theorem dX4_document_45 : decode cX4_document 45 = .ok (.imul, 1) := by decide +kernel
theorem dX4_document_46 : decode cX4_document 46 = .ok (.iload_n 2, 1) := by decide +kernel
theorem dX4_document_47 : decode cX4_document 47 = .ok (.iadd, 1) := by decide +kernel
theorem dX4_document_48 : decode cX4_document 48 = .ok (.iaload, 1) := by decide +kernel
theorem dX4_document_49 : decode cX4_document 49 = .ok (.goto 4, 3) := by decide +kernel
theorem dX4_document_52 : decode cX4_document 52 = .ok (.iconst 0, 1) := by decide +kernel
theorem dX4_document_53 : decode cX4_document 53 = .ok (.ireturn, 1) := by decide +kernel
theorem dX4_move_0 : decode cX4_move 0 = .ok (.aload_n 0, 1) := by decide +kernel
theorem dX4_move_1 : decode cX4_move 1 = .ok (.iconst 0, 1) := by decide +kernel
theorem dX4_move_2 : decode cX4_move 2 = .ok (.putfield 69, 3) := by decide +kernel
theorem dX4_move_5 : decode cX4_move 5 = .ok (.aload_n 0, 1) := by decide +kernel
theorem dX4_move_6 : decode cX4_move 6 = .ok (.iload_n 1, 1) := by decide +kernel
theorem dX4_move_7 : decode cX4_move 7 = .ok (.invokevirtual 76, 3) := by decide +kernel
theorem dX4_move_10 : decode cX4_move 10 = .ok (.ifCond .ne 6, 3) := by decide +kernel
theorem dX4_move_13 : decode cX4_move 13 = .ok (.bipush (-11), 2) := by decide +kernel
theorem dX4_move_15 : decode cX4_move 15 = .ok (.ireturn, 1) := by decide +kernel
theorem dX4_move_16 : decode cX4_move 16 = .ok (.iload_n 2, 1) := by decide +kernel
theorem dX4_move_17 : decode cX4_move 17 = .ok (.ifCond .lt 9, 3) := by decide +kernel
theorem dX4_move_20 : decode cX4_move 20 = .ok (.iload_n 2, 1) := by decide +kernel
theorem dX4_move_21 : decode cX4_move 21 = .ok (.bipush 9, 2) := by decide +kernel
theorem dX4_move_23 : decode cX4_move 23 = .ok (.if_icmp .le 6, 3) := by decide +kernel
theorem dX4_move_26 : decode cX4_move 26 = .ok (.bipush (-12), 2) := by decide +kernel
theorem dX4_move_28 : decode cX4_move 28 = .ok (.ireturn, 1) := by decide +kernel
theorem dX4_move_29 : decode cX4_move 29 = .ok (.aload_n 0, 1) := by decide +kernel
theorem dX4_move_30 : decode cX4_move 30 = .ok (.getfield 22, 3) := by decide +kernel
theorem dX4_move_33 : decode cX4_move 33 = .ok (.iload_n 1, 1) := by decide +kernel
theorem dX4_move_34 : decode cX4_move 34 = .ok (.sipush 1001, 3) := by decide +kernel
theorem dX4_move_37 : decode cX4_move 37 = .ok (.isub, 1) := by decide +kernel
theorem dX4_move_38 : decode cX4_move 38 = .ok (.baload, 1) := by decide +kernel
theorem dX4_move_39 : decode cX4_move 39 = .ok (.ifCond .eq 21, 3) := by decide +kernel
theorem dX4_move_42 : decode cX4_move 42 = .ok (.aload_n 0, 1) := by decide +kernel
theorem dX4_move_43 : decode cX4_move 43 = .ok (.getfield 7, 3) := by decide +kernel
theorem dX4_move_46 : decode cX4_move 46 = .ok (.iload_n 1, 1) := by decide +kernel
theorem dX4_move_47 : decode cX4_move 47 = .ok (.iaload, 1) := by decide +kernel
theorem dX4_move_48 : decode cX4_move 48 = .ok (.ifCond .ne 12, 3) := by decide +kernel
theorem dX4_move_51 : decode cX4_move 51 = .ok (.aload_n 0, 1) := by decide +kernel
theorem dX4_move_52 : decode cX4_move 52 = .ok (.iload_n 1, 1) := by decide +kernel
theorem dX4_move_53 : decode cX4_move 53 = .ok (.iload_n 2, 1) := by decide +kernel
theorem dX4_move_54 : decode cX4_move 54 = .ok (.invokevirtual 127, 3) := by decide +kernel
theorem dX4_move_57 : decode cX4_move 57 = .ok (.goto 5, 3) := by decide +kernel
theorem dX4_move_60 : decode cX4_move 60 = .ok (.bipush (-13), 2) := by decide +kernel
theorem dX4_move_62 : decode cX4_move 62 = .ok (.ireturn, 1) := by decide +kernel
theorem dX4_place_0 : decode cX4_place 0 = .ok (.aload_n 0, 1) := by decide +kernel
theorem dX4_place_1 : decode cX4_place 1 = .ok (.iconst 0, 1) := by decide +kernel
theorem dX4_place_2 : decode cX4_place 2 = .ok (.putfield 69, 3) := by decide +kernel
theorem dX4_place_5 : decode cX4_place 5 = .ok (.aload_n 0, 1) := by decide +kernel
theorem dX4_place_6 : decode cX4_place 6 = .ok (.iload_n 1, 1) := by decide +kernel
theorem dX4_place_7 : decode cX4_place 7 = .ok (.invokevirtual 95, 3) := by decide +kernel
theorem dX4_place_10 : decode cX4_place 10 = .ok (.ifCond .eq 12, 3) := by decide +kernel
theorem dX4_place_13 : decode cX4_place 13 = .ok (.aload_n 0, 1) := by decide +kernel
theorem dX4_place_14 : decode cX4_place 14 = .ok (.getfield 16, 3) := by decide +kernel
theorem dX4_place_17 : decode cX4_place 17 = .ok (.iload_n 1, 1) := by decide +kernel
theorem dX4_place_18 : decode cX4_place 18 = .ok (.iaload, 1) := by decide +kernel
theorem dX4_place_19 : decode cX4_place 19 = .ok (.goto 5, 3) := by decide +kernel
theorem dX4_place_22 : decode cX4_place 22 = .ok (.bipush (-11), 2) := by decide +kernel
theorem dX4_place_24 : decode cX4_place 24 = .ok (.ireturn, 1) := by decide +kernel
theorem dX4_tick_0 : decode cX4_tick 0 = .ok (.aload_n 0, 1) := by decide +kernel
theorem dX4_tick_1 : decode cX4_tick 1 = .ok (.iconst 0, 1) := by decide +kernel
theorem dX4_tick_2 : decode cX4_tick 2 = .ok (.putfield 69, 3) := by decide +kernel
theorem dX4_tick_5 : decode cX4_tick 5 = .ok (.lload_n 1, 1) := by decide +kernel
theorem dX4_tick_6 : decode cX4_tick 6 = .ok (.aload_n 0, 1) := by decide +kernel
theorem dX4_tick_7 : decode cX4_tick 7 = .ok (.getfield 90, 3) := by decide +kernel
theorem dX4_tick_10 : decode cX4_tick 10 = .ok (.lcmp, 1) := by decide +kernel
theorem dX4_tick_11 : decode cX4_tick 11 = .ok (.ifCond .lt 11, 3) := by decide +kernel
theorem dX4_tick_14 : decode cX4_tick 14 = .ok (.lload_n 1, 1) := by decide +kernel
theorem dX4_tick_15 : decode cX4_tick 15 = .ok (.ldc2_w 148, 3) := by decide +kernel
theorem dX4_tick_18 : decode cX4_tick 18 = .ok (.lcmp, 1) := by decide +kernel
theorem dX4_tick_19 : decode cX4_tick 19 = .ok (.ifCond .le 6, 3) := by decide +kernel
theorem dX4_tick_22 : decode cX4_tick 22 = .ok (.bipush (-12), 2) := by decide +kernel
theorem dX4_tick_24 : decode cX4_tick 24 = .ok (.ireturn, 1) := by decide +kernel
theorem dX4_tick_25 : decode cX4_tick 25 = .ok (.aload_n 0, 1) := by decide +kernel
theorem dX4_tick_26 : decode cX4_tick 26 = .ok (.lload_n 1, 1) := by decide +kernel
theorem dX4_tick_27 : decode cX4_tick 27 = .ok (.putfield 90, 3) := by decide +kernel
theorem dX4_tick_30 : decode cX4_tick 30 = .ok (.iconst 0, 1) := by decide +kernel
theorem dX4_tick_31 : decode cX4_tick 31 = .ok (.istore_n 3, 1) := by decide +kernel
theorem dX4_tick_32 : decode cX4_tick 32 = .ok (.iconst 0, 1) := by decide +kernel
theorem dX4_tick_33 : decode cX4_tick 33 = .ok (.istore 4, 2) := by decide +kernel
theorem dX4_tick_35 : decode cX4_tick 35 = .ok (.iload 4, 2) := by decide +kernel
theorem dX4_tick_37 : decode cX4_tick 37 = .ok (.aload_n 0, 1) := by decide +kernel
theorem dX4_tick_38 : decode cX4_tick 38 = .ok (.getfield 87, 3) := by decide +kernel
theorem dX4_tick_41 : decode cX4_tick 41 = .ok (.if_icmp .ge 47, 3) := by decide +kernel
theorem dX4_tick_44 : decode cX4_tick 44 = .ok (.aload_n 0, 1) := by decide +kernel
theorem dX4_tick_45 : decode cX4_tick 45 = .ok (.getfield 66, 3) := by decide +kernel
theorem dX4_tick_48 : decode cX4_tick 48 = .ok (.iload 4, 2) := by decide +kernel
theorem dX4_tick_50 : decode cX4_tick 50 = .ok (.laload, 1) := by decide +kernel
theorem dX4_tick_51 : decode cX4_tick 51 = .ok (.aload_n 0, 1) := by decide +kernel
theorem dX4_tick_52 : decode cX4_tick 52 = .ok (.getfield 62, 3) := by decide +kernel
theorem dX4_tick_55 : decode cX4_tick 55 = .ok (.lcmp, 1) := by decide +kernel
theorem dX4_tick_56 : decode cX4_tick 56 = .ok (.ifCond .le 24, 3) := by decide +kernel
theorem dX4_tick_59 : decode cX4_tick 59 = .ok (.aload_n 0, 1) := by decide +kernel
theorem dX4_tick_60 : decode cX4_tick 60 = .ok (.getfield 66, 3) := by decide +kernel
theorem dX4_tick_63 : decode cX4_tick 63 = .ok (.iload 4, 2) := by decide +kernel
theorem dX4_tick_65 : decode cX4_tick 65 = .ok (.laload, 1) := by decide +kernel
theorem dX4_tick_66 : decode cX4_tick 66 = .ok (.aload_n 0, 1) := by decide +kernel
theorem dX4_tick_67 : decode cX4_tick 67 = .ok (.getfield 90, 3) := by decide +kernel
theorem dX4_tick_70 : decode cX4_tick 70 = .ok (.lcmp, 1) := by decide +kernel
theorem dX4_tick_71 : decode cX4_tick 71 = .ok (.ifCond .gt 9, 3) := by decide +kernel
theorem dX4_tick_74 : decode cX4_tick 74 = .ok (.iload_n 3, 1) := by decide +kernel
theorem dX4_tick_75 : decode cX4_tick 75 = .ok (.iconst 1, 1) := by decide +kernel
theorem dX4_tick_76 : decode cX4_tick 76 = .ok (.iadd, 1) := by decide +kernel
theorem dX4_tick_77 : decode cX4_tick 77 = .ok (.goto 4, 3) := by decide +kernel
theorem dX4_tick_80 : decode cX4_tick 80 = .ok (.iload_n 3, 1) := by decide +kernel
theorem dX4_tick_81 : decode cX4_tick 81 = .ok (.istore_n 3, 1) := by decide +kernel
theorem dX4_tick_82 : decode cX4_tick 82 = .ok (.iinc 4 1, 3) := by decide +kernel
theorem dX4_tick_85 : decode cX4_tick 85 = .ok (.goto (-50), 3) := by decide +kernel
theorem dX4_tick_88 : decode cX4_tick 88 = .ok (.aload_n 0, 1) := by decide +kernel
theorem dX4_tick_89 : decode cX4_tick 89 = .ok (.aload_n 0, 1) := by decide +kernel
theorem dX4_tick_90 : decode cX4_tick 90 = .ok (.getfield 90, 3) := by decide +kernel
theorem dX4_tick_93 : decode cX4_tick 93 = .ok (.putfield 62, 3) := by decide +kernel
theorem dX4_tick_96 : decode cX4_tick 96 = .ok (.iload_n 3, 1) := by decide +kernel
theorem dX4_tick_97 : decode cX4_tick 97 = .ok (.ireturn, 1) := by decide +kernel
