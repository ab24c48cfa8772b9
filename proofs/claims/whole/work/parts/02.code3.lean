theorem dX10_merge_140 : decode cX10_merge 140 = .ok (.invokevirtual 151, 3) := by decide +kernel
theorem dX10_merge_143 : decode cX10_merge 143 = .ok (.iinc 4 1, 3) := by decide +kernel
theorem dX10_merge_146 : decode cX10_merge 146 = .ok (.goto (-56), 3) := by decide +kernel
theorem dX10_merge_149 : decode cX10_merge 149 = .ok (.aload_n 0, 1) := by decide +kernel
theorem dX10_merge_150 : decode cX10_merge 150 = .ok (.getfield 11, 3) := by decide +kernel
theorem dX10_merge_153 : decode cX10_merge 153 = .ok (.iload_n 1, 1) := by decide +kernel
theorem dX10_merge_154 : decode cX10_merge 154 = .ok (.iaload, 1) := by decide +kernel
theorem dX10_merge_155 : decode cX10_merge 155 = .ok (.ireturn, 1) := by decide +kernel
theorem dX10_isCorner_0 : decode cX10_isCorner 0 = .ok (.aload_n 0, 1) := by decide +kernel
theorem dX10_isCorner_1 : decode cX10_isCorner 1 = .ok (.iload_n 1, 1) := by decide +kernel
theorem dX10_isCorner_2 : decode cX10_isCorner 2 = .ok (.iload_n 2, 1) := by decide +kernel
theorem dX10_isCorner_3 : decode cX10_isCorner 3 = .ok (.invokevirtual 163, 3) := by decide +kernel
theorem dX10_isCorner_6 : decode cX10_isCorner 6 = .ok (.ifCond .eq 37, 3) := by decide +kernel
theorem dX10_isCorner_9 : decode cX10_isCorner 9 = .ok (.iload_n 1, 1) := by decide +kernel
theorem dX10_isCorner_10 : decode cX10_isCorner 10 = .ok (.ifCond .eq 14, 3) := by decide +kernel
theorem dX10_isCorner_13 : decode cX10_isCorner 13 = .ok (.aload_n 0, 1) := by decide +kernel
theorem dX10_isCorner_14 : decode cX10_isCorner 14 = .ok (.iload_n 1, 1) := by decide +kernel
theorem dX10_isCorner_15 : decode cX10_isCorner 15 = .ok (.iconst 1, 1) := by decide +kernel
theorem dX10_isCorner_16 : decode cX10_isCorner 16 = .ok (.isub, 1) := by decide +kernel
theorem dX10_isCorner_17 : decode cX10_isCorner 17 = .ok (.iload_n 2, 1) := by decide +kernel
theorem dX10_isCorner_18 : decode cX10_isCorner 18 = .ok (.invokevirtual 163, 3) := by decide +kernel
theorem dX10_isCorner_21 : decode cX10_isCorner 21 = .ok (.ifCond .ne 22, 3) := by decide +kernel
theorem dX10_isCorner_24 : decode cX10_isCorner 24 = .ok (.iload_n 2, 1) := by decide +kernel
theorem dX10_isCorner_25 : decode cX10_isCorner 25 = .ok (.ifCond .eq 14, 3) := by decide +kernel
theorem dX10_isCorner_28 : decode cX10_isCorner 28 = .ok (.aload_n 0, 1) := by decide +kernel
theorem dX10_isCorner_29 : decode cX10_isCorner 29 = .ok (.iload_n 1, 1) := by decide +kernel
theorem dX10_isCorner_30 : decode cX10_isCorner 30 = .ok (.iload_n 2, 1) := by decide +kernel
theorem dX10_isCorner_31 : decode cX10_isCorner 31 = .ok (.iconst 1, 1) := by decide +kernel
theorem dX10_isCorner_32 : decode cX10_isCorner 32 = .ok (.isub, 1) := by decide +kernel
theorem dX10_isCorner_33 : decode cX10_isCorner 33 = .ok (.invokevirtual 163, 3) := by decide +kernel
theorem dX10_isCorner_36 : decode cX10_isCorner 36 = .ok (.ifCond .ne 7, 3) := by decide +kernel
theorem dX10_isCorner_39 : decode cX10_isCorner 39 = .ok (.iconst 1, 1) := by decide +kernel
theorem dX10_isCorner_40 : decode cX10_isCorner 40 = .ok (.goto 4, 3) := by decide +kernel
theorem dX10_isCorner_43 : decode cX10_isCorner 43 = .ok (.iconst 0, 1) := by decide +kernel
theorem dX10_isCorner_44 : decode cX10_isCorner 44 = .ok (.ireturn, 1) := by decide +kernel
theorem dX10_close_0 : decode cX10_close 0 = .ok (.iload_n 1, 1) := by decide +kernel
theorem dX10_close_1 : decode cX10_close 1 = .ok (.invokestatic 136, 3) := by decide +kernel
theorem dX10_close_4 : decode cX10_close 4 = .ok (.ifCond .ne 5, 3) := by decide +kernel
theorem dX10_close_7 : decode cX10_close 7 = .ok (.iconst (-1), 1) := by decide +kernel
theorem dX10_close_8 : decode cX10_close 8 = .ok (.ireturn, 1) := by decide +kernel
theorem dX10_close_9 : decode cX10_close 9 = .ok (.aload_n 0, 1) := by decide +kernel
theorem dX10_close_10 : decode cX10_close 10 = .ok (.getfield 11, 3) := by decide +kernel
theorem dX10_close_13 : decode cX10_close 13 = .ok (.iload_n 1, 1) := by decide +kernel
theorem dX10_close_14 : decode cX10_close 14 = .ok (.iaload, 1) := by decide +kernel
theorem dX10_close_15 : decode cX10_close 15 = .ok (.ifCond .ne 6, 3) := by decide +kernel
theorem dX10_close_18 : decode cX10_close 18 = .ok (.bipush (-3), 2) := by decide +kernel
theorem dX10_close_20 : decode cX10_close 20 = .ok (.ireturn, 1) := by decide +kernel
theorem dX10_close_21 : decode cX10_close 21 = .ok (.aload_n 0, 1) := by decide +kernel
theorem dX10_close_22 : decode cX10_close 22 = .ok (.iload_n 1, 1) := by decide +kernel
theorem dX10_close_23 : decode cX10_close 23 = .ok (.invokevirtual 166, 3) := by decide +kernel
theorem dX10_close_26 : decode cX10_close 26 = .ok (.iconst 0, 1) := by decide +kernel
theorem dX10_close_27 : decode cX10_close 27 = .ok (.istore_n 2, 1) := by decide +kernel
theorem dX10_close_28 : decode cX10_close 28 = .ok (.iconst 0, 1) := by decide +kernel
theorem dX10_close_29 : decode cX10_close 29 = .ok (.istore_n 3, 1) := by decide +kernel
theorem dX10_close_30 : decode cX10_close 30 = .ok (.iload_n 3, 1) := by decide +kernel
theorem dX10_close_31 : decode cX10_close 31 = .ok (.bipush 100, 2) := by decide +kernel
theorem dX10_close_33 : decode cX10_close 33 = .ok (.if_icmp .ge 32, 3) := by decide +kernel
theorem dX10_close_36 : decode cX10_close 36 = .ok (.iload_n 2, 1) := by decide +kernel
theorem dX10_close_37 : decode cX10_close 37 = .ok (.aload_n 0, 1) := by decide +kernel
theorem dX10_close_38 : decode cX10_close 38 = .ok (.iload_n 3, 1) := by decide +kernel
theorem dX10_close_39 : decode cX10_close 39 = .ok (.bipush 10, 2) := by decide +kernel
theorem dX10_close_41 : decode cX10_close 41 = .ok (.idiv, 1) := by decide +kernel
theorem dX10_close_42 : decode cX10_close 42 = .ok (.iload_n 3, 1) := by decide +kernel
theorem dX10_close_43 : decode cX10_close 43 = .ok (.bipush 10, 2) := by decide +kernel
theorem dX10_close_45 : decode cX10_close 45 = .ok (.irem, 1) := by decide +kernel
theorem dX10_close_46 : decode cX10_close 46 = .ok (.invokevirtual 169, 3) := by decide +kernel
theorem dX10_close_49 : decode cX10_close 49 = .ok (.ifCond .eq 7, 3) := by decide +kernel
theorem dX10_close_52 : decode cX10_close 52 = .ok (.iconst 1, 1) := by decide +kernel
theorem dX10_close_53 : decode cX10_close 53 = .ok (.goto 4, 3) := by decide +kernel
theorem dX10_close_56 : decode cX10_close 56 = .ok (.iconst 0, 1) := by decide +kernel
theorem dX10_close_57 : decode cX10_close 57 = .ok (.iadd, 1) := by decide +kernel
theorem dX10_close_58 : decode cX10_close 58 = .ok (.istore_n 2, 1) := by decide +kernel
theorem dX10_close_59 : decode cX10_close 59 = .ok (.iinc 3 1, 3) := by decide +kernel
theorem dX10_close_62 : decode cX10_close 62 = .ok (.goto (-32), 3) := by decide +kernel
theorem dX10_close_65 : decode cX10_close 65 = .ok (.iload_n 2, 1) := by decide +kernel
theorem dX10_close_66 : decode cX10_close 66 = .ok (.bipush 6, 2) := by decide +kernel
theorem dX10_close_68 : decode cX10_close 68 = .ok (.if_icmp .le 6, 3) := by decide +kernel
theorem dX10_close_71 : decode cX10_close 71 = .ok (.bipush (-4), 2) := by decide +kernel
theorem dX10_close_73 : decode cX10_close 73 = .ok (.ireturn, 1) := by decide +kernel
theorem dX10_close_74 : decode cX10_close 74 = .ok (.aload_n 0, 1) := by decide +kernel
theorem dX10_close_75 : decode cX10_close 75 = .ok (.iload_n 1, 1) := by decide +kernel
theorem dX10_close_76 : decode cX10_close 76 = .ok (.invokevirtual 147, 3) := by decide +kernel
theorem dX10_close_79 : decode cX10_close 79 = .ok (.aload_n 0, 1) := by decide +kernel
theorem dX10_close_80 : decode cX10_close 80 = .ok (.getfield 11, 3) := by decide +kernel
theorem dX10_close_83 : decode cX10_close 83 = .ok (.iload_n 1, 1) := by decide +kernel
theorem dX10_close_84 : decode cX10_close 84 = .ok (.iconst 0, 1) := by decide +kernel
theorem dX10_close_85 : decode cX10_close 85 = .ok (.iastore, 1) := by decide +kernel
theorem dX10_close_86 : decode cX10_close 86 = .ok (.iconst 0, 1) := by decide +kernel
theorem dX10_close_87 : decode cX10_close 87 = .ok (.istore_n 3, 1) := by decide +kernel
theorem dX10_close_88 : decode cX10_close 88 = .ok (.iload_n 3, 1) := by decide +kernel
theorem dX10_close_89 : decode cX10_close 89 = .ok (.bipush 100, 2) := by decide +kernel
theorem dX10_close_91 : decode cX10_close 91 = .ok (.if_icmp .ge 37, 3) := by decide +kernel
theorem dX10_close_94 : decode cX10_close 94 = .ok (.aload_n 0, 1) := by decide +kernel
theorem dX10_close_95 : decode cX10_close 95 = .ok (.iload_n 3, 1) := by decide +kernel
theorem dX10_close_96 : decode cX10_close 96 = .ok (.bipush 10, 2) := by decide +kernel
theorem dX10_close_98 : decode cX10_close 98 = .ok (.idiv, 1) := by decide +kernel
theorem dX10_close_99 : decode cX10_close 99 = .ok (.iload_n 3, 1) := by decide +kernel
theorem dX10_close_100 : decode cX10_close 100 = .ok (.bipush 10, 2) := by decide +kernel
theorem dX10_close_102 : decode cX10_close 102 = .ok (.irem, 1) := by decide +kernel
theorem dX10_close_103 : decode cX10_close 103 = .ok (.invokevirtual 169, 3) := by decide +kernel
theorem dX10_close_106 : decode cX10_close 106 = .ok (.ifCond .eq 16, 3) := by decide +kernel
theorem dX10_close_109 : decode cX10_close 109 = .ok (.aload_n 0, 1) := by decide +kernel
theorem dX10_close_110 : decode cX10_close 110 = .ok (.iload_n 1, 1) := by decide +kernel
theorem dX10_close_111 : decode cX10_close 111 = .ok (.iload_n 3, 1) := by decide +kernel
theorem dX10_close_112 : decode cX10_close 112 = .ok (.bipush 10, 2) := by decide +kernel
theorem dX10_close_114 : decode cX10_close 114 = .ok (.idiv, 1) := by decide +kernel
theorem dX10_close_115 : decode cX10_close 115 = .ok (.iload_n 3, 1) := by decide +kernel
theorem dX10_close_116 : decode cX10_close 116 = .ok (.bipush 10, 2) := by decide +kernel
theorem dX10_close_118 : decode cX10_close 118 = .ok (.irem, 1) := by decide +kernel
theorem dX10_close_119 : decode cX10_close 119 = .ok (.invokevirtual 151, 3) := by decide +kernel
theorem dX10_close_122 : decode cX10_close 122 = .ok (.iinc 3 1, 3) := by decide +kernel
theorem dX10_close_125 : decode cX10_close 125 = .ok (.goto (-37), 3) := by decide +kernel
theorem dX10_close_128 : decode cX10_close 128 = .ok (.aload_n 0, 1) := by decide +kernel
theorem dX10_close_129 : decode cX10_close 129 = .ok (.getfield 11, 3) := by decide +kernel
theorem dX10_close_132 : decode cX10_close 132 = .ok (.iload_n 1, 1) := by decide +kernel
theorem dX10_close_133 : decode cX10_close 133 = .ok (.iaload, 1) := by decide +kernel
theorem dX10_close_134 : decode cX10_close 134 = .ok (.ireturn, 1) := by decide +kernel
theorem dX10_back_0 : decode cX10_back 0 = .ok (.aload_n 0, 1) := by decide +kernel
theorem dX10_back_1 : decode cX10_back 1 = .ok (.getfield 132, 3) := by decide +kernel
theorem dX10_back_4 : decode cX10_back 4 = .ok (.ifCond .ne 6, 3) := by decide +kernel
theorem dX10_back_7 : decode cX10_back 7 = .ok (.bipush (-3), 2) := by decide +kernel
theorem dX10_back_9 : decode cX10_back 9 = .ok (.ireturn, 1) := by decide +kernel
theorem dX10_back_10 : decode cX10_back 10 = .ok (.aload_n 0, 1) := by decide +kernel
theorem dX10_back_11 : decode cX10_back 11 = .ok (.dup, 1) := by decide +kernel
theorem dX10_back_12 : decode cX10_back 12 = .ok (.getfield 132, 3) := by decide +kernel
theorem dX10_back_15 : decode cX10_back 15 = .ok (.iconst 1, 1) := by decide +kernel
theorem dX10_back_16 : decode cX10_back 16 = .ok (.isub, 1) := by decide +kernel
theorem dX10_back_17 : decode cX10_back 17 = .ok (.putfield 132, 3) := by decide +kernel
theorem dX10_back_20 : decode cX10_back 20 = .ok (.aload_n 0, 1) := by decide +kernel
theorem dX10_back_21 : decode cX10_back 21 = .ok (.getfield 21, 3) := by decide +kernel
theorem dX10_back_24 : decode cX10_back 24 = .ok (.aload_n 0, 1) := by decide +kernel
theorem dX10_back_25 : decode cX10_back 25 = .ok (.getfield 132, 3) := by decide +kernel
theorem dX10_back_28 : decode cX10_back 28 = .ok (.iaload, 1) := by decide +kernel
theorem dX10_back_29 : decode cX10_back 29 = .ok (.istore_n 1, 1) := by decide +kernel
theorem dX10_back_30 : decode cX10_back 30 = .ok (.aload_n 0, 1) := by decide +kernel
theorem dX10_back_31 : decode cX10_back 31 = .ok (.getfield 11, 3) := by decide +kernel
theorem dX10_back_34 : decode cX10_back 34 = .ok (.iload_n 1, 1) := by decide +kernel
theorem dX10_back_35 : decode cX10_back 35 = .ok (.aload_n 0, 1) := by decide +kernel
theorem dX10_back_36 : decode cX10_back 36 = .ok (.getfield 24, 3) := by decide +kernel
theorem dX10_back_39 : decode cX10_back 39 = .ok (.aload_n 0, 1) := by decide +kernel
theorem dX10_back_40 : decode cX10_back 40 = .ok (.getfield 132, 3) := by decide +kernel
theorem dX10_back_43 : decode cX10_back 43 = .ok (.iaload, 1) := by decide +kernel
theorem dX10_back_44 : decode cX10_back 44 = .ok (.iastore, 1) := by decide +kernel
theorem dX10_back_45 : decode cX10_back 45 = .ok (.iconst 0, 1) := by decide +kernel
theorem dX10_back_46 : decode cX10_back 46 = .ok (.istore_n 2, 1) := by decide +kernel
theorem dX10_back_47 : decode cX10_back 47 = .ok (.iload_n 2, 1) := by decide +kernel
theorem dX10_back_48 : decode cX10_back 48 = .ok (.bipush 6, 2) := by decide +kernel
theorem dX10_back_50 : decode cX10_back 50 = .ok (.if_icmp .ge 59, 3) := by decide +kernel
theorem dX10_back_53 : decode cX10_back 53 = .ok (.aload_n 0, 1) := by decide +kernel
theorem dX10_back_54 : decode cX10_back 54 = .ok (.getfield 15, 3) := by decide +kernel
theorem dX10_back_57 : decode cX10_back 57 = .ok (.bipush 6, 2) := by decide +kernel
theorem dX10_back_59 : decode cX10_back 59 = .ok (.iload_n 1, 1) := by decide +kernel
theorem dX10_back_60 : decode cX10_back 60 = .ok (.imul, 1) := by decide +kernel
theorem dX10_back_61 : decode cX10_back 61 = .ok (.iload_n 2, 1) := by decide +kernel
theorem dX10_back_62 : decode cX10_back 62 = .ok (.iadd, 1) := by decide +kernel
theorem dX10_back_63 : decode cX10_back 63 = .ok (.aload_n 0, 1) := by decide +kernel
theorem dX10_back_64 : decode cX10_back 64 = .ok (.getfield 27, 3) := by decide +kernel
theorem dX10_back_67 : decode cX10_back 67 = .ok (.bipush 6, 2) := by decide +kernel
theorem dX10_back_69 : decode cX10_back 69 = .ok (.aload_n 0, 1) := by decide +kernel
theorem dX10_back_70 : decode cX10_back 70 = .ok (.getfield 132, 3) := by decide +kernel
theorem dX10_back_73 : decode cX10_back 73 = .ok (.imul, 1) := by decide +kernel
theorem dX10_back_74 : decode cX10_back 74 = .ok (.iload_n 2, 1) := by decide +kernel
theorem dX10_back_75 : decode cX10_back 75 = .ok (.iadd, 1) := by decide +kernel
theorem dX10_back_76 : decode cX10_back 76 = .ok (.iaload, 1) := by decide +kernel
theorem dX10_back_77 : decode cX10_back 77 = .ok (.iastore, 1) := by decide +kernel
theorem dX10_back_78 : decode cX10_back 78 = .ok (.aload_n 0, 1) := by decide +kernel
theorem dX10_back_79 : decode cX10_back 79 = .ok (.getfield 18, 3) := by decide +kernel
theorem dX10_back_82 : decode cX10_back 82 = .ok (.bipush 6, 2) := by decide +kernel
theorem dX10_back_84 : decode cX10_back 84 = .ok (.iload_n 1, 1) := by decide +kernel
theorem dX10_back_85 : decode cX10_back 85 = .ok (.imul, 1) := by decide +kernel
theorem dX10_back_86 : decode cX10_back 86 = .ok (.iload_n 2, 1) := by decide +kernel
theorem dX10_back_87 : decode cX10_back 87 = .ok (.iadd, 1) := by decide +kernel
theorem dX10_back_88 : decode cX10_back 88 = .ok (.aload_n 0, 1) := by decide +kernel
theorem dX10_back_89 : decode cX10_back 89 = .ok (.getfield 30, 3) := by decide +kernel
theorem dX10_back_92 : decode cX10_back 92 = .ok (.bipush 6, 2) := by decide +kernel
theorem dX10_back_94 : decode cX10_back 94 = .ok (.aload_n 0, 1) := by decide +kernel
theorem dX10_back_95 : decode cX10_back 95 = .ok (.getfield 132, 3) := by decide +kernel
theorem dX10_back_98 : decode cX10_back 98 = .ok (.imul, 1) := by decide +kernel
theorem dX10_back_99 : decode cX10_back 99 = .ok (.iload_n 2, 1) := by decide +kernel
theorem dX10_back_100 : decode cX10_back 100 = .ok (.iadd, 1) := by decide +kernel
theorem dX10_back_101 : decode cX10_back 101 = .ok (.iaload, 1) := by decide +kernel
theorem dX10_back_102 : decode cX10_back 102 = .ok (.iastore, 1) := by decide +kernel
theorem dX10_back_103 : decode cX10_back 103 = .ok (.iinc 2 1, 3) := by decide +kernel
theorem dX10_back_106 : decode cX10_back 106 = .ok (.goto (-59), 3) := by decide +kernel
theorem dX10_back_109 : decode cX10_back 109 = .ok (.aload_n 0, 1) := by decide +kernel
theorem dX10_back_110 : decode cX10_back 110 = .ok (.getfield 132, 3) := by decide +kernel
theorem dX10_back_113 : decode cX10_back 113 = .ok (.ireturn, 1) := by decide +kernel
theorem dX10_feed_0 : decode cX10_feed 0 = .ok (.iload_n 1, 1) := by decide +kernel
theorem dX10_feed_1 : decode cX10_feed 1 = .ok (.i2l, 1) := by decide +kernel
theorem dX10_feed_2 : decode cX10_feed 2 = .ok (.lconst 0, 1) := by decide +kernel
theorem dX10_feed_3 : decode cX10_feed 3 = .ok (.ldc2_w 172, 3) := by decide +kernel
theorem dX10_feed_6 : decode cX10_feed 6 = .ok (.invokestatic 115, 3) := by decide +kernel
theorem dX10_feed_9 : decode cX10_feed 9 = .ok (.ifCond .ne 6, 3) := by decide +kernel
theorem dX10_feed_12 : decode cX10_feed 12 = .ok (.bipush (-2), 2) := by decide +kernel
theorem dX10_feed_14 : decode cX10_feed 14 = .ok (.ireturn, 1) := by decide +kernel
theorem dX10_feed_15 : decode cX10_feed 15 = .ok (.aload_n 0, 1) := by decide +kernel
theorem dX10_feed_16 : decode cX10_feed 16 = .ok (.getfield 174, 3) := by decide +kernel
theorem dX10_feed_19 : decode cX10_feed 19 = .ok (.bipush 100, 2) := by decide +kernel
theorem dX10_feed_21 : decode cX10_feed 21 = .ok (.if_icmp .ne 6, 3) := by decide +kernel
theorem dX10_feed_24 : decode cX10_feed 24 = .ok (.bipush (-4), 2) := by decide +kernel
theorem dX10_feed_26 : decode cX10_feed 26 = .ok (.ireturn, 1) := by decide +kernel
theorem dX10_feed_27 : decode cX10_feed 27 = .ok (.aload_n 0, 1) := by decide +kernel
theorem dX10_feed_28 : decode cX10_feed 28 = .ok (.getfield 33, 3) := by decide +kernel
theorem dX10_feed_31 : decode cX10_feed 31 = .ok (.aload_n 0, 1) := by decide +kernel
theorem dX10_feed_32 : decode cX10_feed 32 = .ok (.getfield 174, 3) := by decide +kernel
theorem dX10_feed_35 : decode cX10_feed 35 = .ok (.iload_n 1, 1) := by decide +kernel
theorem dX10_feed_36 : decode cX10_feed 36 = .ok (.iastore, 1) := by decide +kernel
theorem dX10_feed_37 : decode cX10_feed 37 = .ok (.aload_n 0, 1) := by decide +kernel
theorem dX10_feed_38 : decode cX10_feed 38 = .ok (.dup, 1) := by decide +kernel
theorem dX10_feed_39 : decode cX10_feed 39 = .ok (.getfield 174, 3) := by decide +kernel
theorem dX10_feed_42 : decode cX10_feed 42 = .ok (.iconst 1, 1) := by decide +kernel
theorem dX10_feed_43 : decode cX10_feed 43 = .ok (.iadd, 1) := by decide +kernel
theorem dX10_feed_44 : decode cX10_feed 44 = .ok (.putfield 174, 3) := by decide +kernel
theorem dX10_feed_47 : decode cX10_feed 47 = .ok (.aload_n 0, 1) := by decide +kernel
theorem dX10_feed_48 : decode cX10_feed 48 = .ok (.getfield 174, 3) := by decide +kernel
theorem dX10_feed_51 : decode cX10_feed 51 = .ok (.ireturn, 1) := by decide +kernel
theorem dX10_digitsOf_0 : decode cX10_digitsOf 0 = .ok (.iload_n 0, 1) := by decide +kernel
theorem dX10_digitsOf_1 : decode cX10_digitsOf 1 = .ok (.lookupswitch 67 #[(43, 59), (45, 61), (99, 63), (109, 63), (117, 65), (122, 63)], 59) := by decide +kernel
theorem dX10_digitsOf_60 : decode cX10_digitsOf 60 = .ok (.iconst 3, 1) := by decide +kernel
theorem dX10_digitsOf_61 : decode cX10_digitsOf 61 = .ok (.ireturn, 1) := by decide +kernel
theorem dX10_digitsOf_62 : decode cX10_digitsOf 62 = .ok (.iconst 2, 1) := by decide +kernel
theorem dX10_digitsOf_63 : decode cX10_digitsOf 63 = .ok (.ireturn, 1) := by decide +kernel
theorem dX10_digitsOf_64 : decode cX10_digitsOf 64 = .ok (.iconst 1, 1) := by decide +kernel
theorem dX10_digitsOf_65 : decode cX10_digitsOf 65 = .ok (.ireturn, 1) := by decide +kernel
theorem dX10_digitsOf_66 : decode cX10_digitsOf 66 = .ok (.iconst 0, 1) := by decide +kernel
theorem dX10_digitsOf_67 : decode cX10_digitsOf 67 = .ok (.ireturn, 1) := by decide +kernel
theorem dX10_digitsOf_68 : decode cX10_digitsOf 68 = .ok (.iconst (-1), 1) := by decide +kernel
theorem dX10_digitsOf_69 : decode cX10_digitsOf 69 = .ok (.ireturn, 1) := by decide +kernel
theorem dX10_clause_0 : decode cX10_clause 0 = .ok (.aload_n 0, 1) := by decide +kernel
theorem dX10_clause_1 : decode cX10_clause 1 = .ok (.getfield 177, 3) := by decide +kernel
theorem dX10_clause_4 : decode cX10_clause 4 = .ok (.aload_n 0, 1) := by decide +kernel
theorem dX10_clause_5 : decode cX10_clause 5 = .ok (.getfield 174, 3) := by decide +kernel
theorem dX10_clause_8 : decode cX10_clause 8 = .ok (.if_icmp .ge 15, 3) := by decide +kernel
theorem dX10_clause_11 : decode cX10_clause 11 = .ok (.aload_n 0, 1) := by decide +kernel
theorem dX10_clause_12 : decode cX10_clause 12 = .ok (.getfield 33, 3) := by decide +kernel
theorem dX10_clause_15 : decode cX10_clause 15 = .ok (.aload_n 0, 1) := by decide +kernel
theorem dX10_clause_16 : decode cX10_clause 16 = .ok (.getfield 177, 3) := by decide +kernel
theorem dX10_clause_19 : decode cX10_clause 19 = .ok (.iaload, 1) := by decide +kernel
theorem dX10_clause_20 : decode cX10_clause 20 = .ok (.goto 4, 3) := by decide +kernel
theorem dX10_clause_23 : decode cX10_clause 23 = .ok (.iconst (-1), 1) := by decide +kernel
theorem dX10_clause_24 : decode cX10_clause 24 = .ok (.istore_n 1, 1) := by decide +kernel
theorem dX10_clause_25 : decode cX10_clause 25 = .ok (.iload_n 1, 1) := by decide +kernel
theorem dX10_clause_26 : decode cX10_clause 26 = .ok (.invokestatic 180, 3) := by decide +kernel
theorem dX10_clause_29 : decode cX10_clause 29 = .ok (.istore_n 2, 1) := by decide +kernel
theorem dX10_clause_30 : decode cX10_clause 30 = .ok (.iload_n 2, 1) := by decide +kernel
theorem dX10_clause_31 : decode cX10_clause 31 = .ok (.iconst (-1), 1) := by decide +kernel
theorem dX10_clause_32 : decode cX10_clause 32 = .ok (.if_icmp .ne 5, 3) := by decide +kernel
theorem dX10_clause_35 : decode cX10_clause 35 = .ok (.iconst (-1), 1) := by decide +kernel
theorem dX10_clause_36 : decode cX10_clause 36 = .ok (.ireturn, 1) := by decide +kernel
theorem dX10_clause_37 : decode cX10_clause 37 = .ok (.aload_n 0, 1) := by decide +kernel
theorem dX10_clause_38 : decode cX10_clause 38 = .ok (.dup, 1) := by decide +kernel
theorem dX10_clause_39 : decode cX10_clause 39 = .ok (.getfield 177, 3) := by decide +kernel
theorem dX10_clause_42 : decode cX10_clause 42 = .ok (.iconst 1, 1) := by decide +kernel
theorem dX10_clause_43 : decode cX10_clause 43 = .ok (.iadd, 1) := by decide +kernel
theorem dX10_clause_44 : decode cX10_clause 44 = .ok (.putfield 177, 3) := by decide +kernel
theorem dX10_clause_47 : decode cX10_clause 47 = .ok (.iconst 0, 1) := by decide +kernel
theorem dX10_clause_48 : decode cX10_clause 48 = .ok (.istore_n 3, 1) := by decide +kernel
theorem dX10_clause_49 : decode cX10_clause 49 = .ok (.iload_n 3, 1) := by decide +kernel
theorem dX10_clause_50 : decode cX10_clause 50 = .ok (.iload_n 2, 1) := by decide +kernel
theorem dX10_clause_51 : decode cX10_clause 51 = .ok (.if_icmp .ge 72, 3) := by decide +kernel
theorem dX10_clause_54 : decode cX10_clause 54 = .ok (.aload_n 0, 1) := by decide +kernel
theorem dX10_clause_55 : decode cX10_clause 55 = .ok (.getfield 177, 3) := by decide +kernel
theorem dX10_clause_58 : decode cX10_clause 58 = .ok (.aload_n 0, 1) := by decide +kernel
theorem dX10_clause_59 : decode cX10_clause 59 = .ok (.getfield 174, 3) := by decide +kernel
theorem dX10_clause_62 : decode cX10_clause 62 = .ok (.if_icmp .eq 25, 3) := by decide +kernel
theorem dX10_clause_65 : decode cX10_clause 65 = .ok (.aload_n 0, 1) := by decide +kernel
theorem dX10_clause_66 : decode cX10_clause 66 = .ok (.getfield 33, 3) := by decide +kernel
theorem dX10_clause_69 : decode cX10_clause 69 = .ok (.aload_n 0, 1) := by decide +kernel
theorem dX10_clause_70 : decode cX10_clause 70 = .ok (.getfield 177, 3) := by decide +kernel
theorem dX10_clause_73 : decode cX10_clause 73 = .ok (.iaload, 1) := by decide +kernel
theorem dX10_clause_74 : decode cX10_clause 74 = .ok (.i2l, 1) := by decide +kernel
theorem dX10_clause_75 : decode cX10_clause 75 = .ok (.ldc2_w 184, 3) := by decide +kernel
theorem dX10_clause_78 : decode cX10_clause 78 = .ok (.ldc2_w 186, 3) := by decide +kernel
theorem dX10_clause_81 : decode cX10_clause 81 = .ok (.invokestatic 115, 3) := by decide +kernel
theorem dX10_clause_84 : decode cX10_clause 84 = .ok (.ifCond .ne 5, 3) := by decide +kernel
theorem dX10_clause_87 : decode cX10_clause 87 = .ok (.iconst (-1), 1) := by decide +kernel
theorem dX10_clause_88 : decode cX10_clause 88 = .ok (.ireturn, 1) := by decide +kernel
theorem dX10_clause_89 : decode cX10_clause 89 = .ok (.aload_n 0, 1) := by decide +kernel
theorem dX10_clause_90 : decode cX10_clause 90 = .ok (.getfield 36, 3) := by decide +kernel
theorem dX10_clause_93 : decode cX10_clause 93 = .ok (.iload_n 3, 1) := by decide +kernel
theorem dX10_clause_94 : decode cX10_clause 94 = .ok (.aload_n 0, 1) := by decide +kernel
theorem dX10_clause_95 : decode cX10_clause 95 = .ok (.getfield 33, 3) := by decide +kernel
theorem dX10_clause_98 : decode cX10_clause 98 = .ok (.aload_n 0, 1) := by decide +kernel
theorem dX10_clause_99 : decode cX10_clause 99 = .ok (.getfield 177, 3) := by decide +kernel
theorem dX10_clause_102 : decode cX10_clause 102 = .ok (.iaload, 1) := by decide +kernel
theorem dX10_clause_103 : decode cX10_clause 103 = .ok (.bipush 48, 2) := by decide +kernel
theorem dX10_clause_105 : decode cX10_clause 105 = .ok (.isub, 1) := by decide +kernel
theorem dX10_clause_106 : decode cX10_clause 106 = .ok (.iastore, 1) := by decide +kernel
theorem dX10_clause_107 : decode cX10_clause 107 = .ok (.aload_n 0, 1) := by decide +kernel
theorem dX10_clause_108 : decode cX10_clause 108 = .ok (.dup, 1) := by decide +kernel
theorem dX10_clause_109 : decode cX10_clause 109 = .ok (.getfield 177, 3) := by decide +kernel
theorem dX10_clause_112 : decode cX10_clause 112 = .ok (.iconst 1, 1) := by decide +kernel
theorem dX10_clause_113 : decode cX10_clause 113 = .ok (.iadd, 1) := by decide +kernel
theorem dX10_clause_114 : decode cX10_clause 114 = .ok (.putfield 177, 3) := by decide +kernel
theorem dX10_clause_117 : decode cX10_clause 117 = .ok (.iinc 3 1, 3) := by decide +kernel
theorem dX10_clause_120 : decode cX10_clause 120 = .ok (.goto (-71), 3) := by decide +kernel
theorem dX10_clause_123 : decode cX10_clause 123 = .ok (.iload_n 1, 1) := by decide +kernel
theorem dX10_clause_124 : decode cX10_clause 124 = .ok (.ireturn, 1) := by decide +kernel
theorem dX10_isDone_0 : decode cX10_isDone 0 = .ok (.iload_n 1, 1) := by decide +kernel
theorem dX10_isDone_1 : decode cX10_isDone 1 = .ok (.lookupswitch 164 #[(43, 51), (45, 82), (99, 126), (109, 145), (122, 107)], 51) := by decide +kernel
theorem dX10_isDone_52 : decode cX10_isDone 52 = .ok (.aload_n 0, 1) := by decide +kernel
theorem dX10_isDone_53 : decode cX10_isDone 53 = .ok (.aload_n 0, 1) := by decide +kernel
theorem dX10_isDone_54 : decode cX10_isDone 54 = .ok (.getfield 36, 3) := by decide +kernel
theorem dX10_isDone_57 : decode cX10_isDone 57 = .ok (.iconst 0, 1) := by decide +kernel
theorem dX10_isDone_58 : decode cX10_isDone 58 = .ok (.iaload, 1) := by decide +kernel
theorem dX10_isDone_59 : decode cX10_isDone 59 = .ok (.aload_n 0, 1) := by decide +kernel
theorem dX10_isDone_60 : decode cX10_isDone 60 = .ok (.getfield 36, 3) := by decide +kernel
theorem dX10_isDone_63 : decode cX10_isDone 63 = .ok (.iconst 1, 1) := by decide +kernel
theorem dX10_isDone_64 : decode cX10_isDone 64 = .ok (.iaload, 1) := by decide +kernel
theorem dX10_isDone_65 : decode cX10_isDone 65 = .ok (.aload_n 0, 1) := by decide +kernel
theorem dX10_isDone_66 : decode cX10_isDone 66 = .ok (.getfield 36, 3) := by decide +kernel
theorem dX10_isDone_69 : decode cX10_isDone 69 = .ok (.iconst 2, 1) := by decide +kernel
theorem dX10_isDone_70 : decode cX10_isDone 70 = .ok (.iaload, 1) := by decide +kernel
theorem dX10_isDone_71 : decode cX10_isDone 71 = .ok (.invokevirtual 188, 3) := by decide +kernel
theorem dX10_isDone_74 : decode cX10_isDone 74 = .ok (.ifCond .lt 7, 3) := by decide +kernel
theorem dX10_isDone_77 : decode cX10_isDone 77 = .ok (.iconst 1, 1) := by decide +kernel
theorem dX10_isDone_78 : decode cX10_isDone 78 = .ok (.goto 4, 3) := by decide +kernel
theorem dX10_isDone_81 : decode cX10_isDone 81 = .ok (.iconst 0, 1) := by decide +kernel
theorem dX10_isDone_82 : decode cX10_isDone 82 = .ok (.ireturn, 1) := by decide +kernel
theorem dX10_isDone_83 : decode cX10_isDone 83 = .ok (.aload_n 0, 1) := by decide +kernel
theorem dX10_isDone_84 : decode cX10_isDone 84 = .ok (.aload_n 0, 1) := by decide +kernel
theorem dX10_isDone_85 : decode cX10_isDone 85 = .ok (.getfield 36, 3) := by decide +kernel
theorem dX10_isDone_88 : decode cX10_isDone 88 = .ok (.iconst 0, 1) := by decide +kernel
theorem dX10_isDone_89 : decode cX10_isDone 89 = .ok (.iaload, 1) := by decide +kernel
theorem dX10_isDone_90 : decode cX10_isDone 90 = .ok (.aload_n 0, 1) := by decide +kernel
theorem dX10_isDone_91 : decode cX10_isDone 91 = .ok (.getfield 36, 3) := by decide +kernel
theorem dX10_isDone_94 : decode cX10_isDone 94 = .ok (.iconst 1, 1) := by decide +kernel
theorem dX10_isDone_95 : decode cX10_isDone 95 = .ok (.iaload, 1) := by decide +kernel
theorem dX10_isDone_96 : decode cX10_isDone 96 = .ok (.invokevirtual 191, 3) := by decide +kernel
theorem dX10_isDone_99 : decode cX10_isDone 99 = .ok (.ifCond .lt 7, 3) := by decide +kernel
theorem dX10_isDone_102 : decode cX10_isDone 102 = .ok (.iconst 1, 1) := by decide +kernel
theorem dX10_isDone_103 : decode cX10_isDone 103 = .ok (.goto 4, 3) := by decide +kernel
theorem dX10_isDone_106 : decode cX10_isDone 106 = .ok (.iconst 0, 1) := by decide +kernel
theorem dX10_isDone_107 : decode cX10_isDone 107 = .ok (.ireturn, 1) := by decide +kernel
theorem dX10_isDone_108 : decode cX10_isDone 108 = .ok (.aload_n 0, 1) := by decide +kernel
theorem dX10_isDone_109 : decode cX10_isDone 109 = .ok (.aload_n 0, 1) := by decide +kernel
theorem dX10_isDone_110 : decode cX10_isDone 110 = .ok (.getfield 36, 3) := by decide +kernel
theorem dX10_isDone_113 : decode cX10_isDone 113 = .ok (.iconst 0, 1) := by decide +kernel
theorem dX10_isDone_114 : decode cX10_isDone 114 = .ok (.iaload, 1) := by decide +kernel
theorem dX10_isDone_115 : decode cX10_isDone 115 = .ok (.invokevirtual 194, 3) := by decide +kernel
theorem dX10_isDone_118 : decode cX10_isDone 118 = .ok (.ifCond .lt 7, 3) := by decide +kernel
theorem dX10_isDone_121 : decode cX10_isDone 121 = .ok (.iconst 1, 1) := by decide +kernel
theorem dX10_isDone_122 : decode cX10_isDone 122 = .ok (.goto 4, 3) := by decide +kernel
theorem dX10_isDone_125 : decode cX10_isDone 125 = .ok (.iconst 0, 1) := by decide +kernel
theorem dX10_isDone_126 : decode cX10_isDone 126 = .ok (.ireturn, 1) := by decide +kernel
theorem dX10_isDone_127 : decode cX10_isDone 127 = .ok (.aload_n 0, 1) := by decide +kernel
theorem dX10_isDone_128 : decode cX10_isDone 128 = .ok (.aload_n 0, 1) := by decide +kernel
theorem dX10_isDone_129 : decode cX10_isDone 129 = .ok (.getfield 36, 3) := by decide +kernel
theorem dX10_isDone_132 : decode cX10_isDone 132 = .ok (.iconst 0, 1) := by decide +kernel
theorem dX10_isDone_133 : decode cX10_isDone 133 = .ok (.iaload, 1) := by decide +kernel
theorem dX10_isDone_134 : decode cX10_isDone 134 = .ok (.invokevirtual 197, 3) := by decide +kernel
theorem dX10_isDone_137 : decode cX10_isDone 137 = .ok (.ifCond .lt 7, 3) := by decide +kernel
theorem dX10_isDone_140 : decode cX10_isDone 140 = .ok (.iconst 1, 1) := by decide +kernel
theorem dX10_isDone_141 : decode cX10_isDone 141 = .ok (.goto 4, 3) := by decide +kernel
theorem dX10_isDone_144 : decode cX10_isDone 144 = .ok (.iconst 0, 1) := by decide +kernel
theorem dX10_isDone_145 : decode cX10_isDone 145 = .ok (.ireturn, 1) := by decide +kernel
theorem dX10_isDone_146 : decode cX10_isDone 146 = .ok (.aload_n 0, 1) := by decide +kernel
theorem dX10_isDone_147 : decode cX10_isDone 147 = .ok (.aload_n 0, 1) := by decide +kernel
theorem dX10_isDone_148 : decode cX10_isDone 148 = .ok (.getfield 36, 3) := by decide +kernel
theorem dX10_isDone_151 : decode cX10_isDone 151 = .ok (.iconst 0, 1) := by decide +kernel
theorem dX10_isDone_152 : decode cX10_isDone 152 = .ok (.iaload, 1) := by decide +kernel
theorem dX10_isDone_153 : decode cX10_isDone 153 = .ok (.invokevirtual 200, 3) := by decide +kernel
theorem dX10_isDone_156 : decode cX10_isDone 156 = .ok (.ifCond .lt 7, 3) := by decide +kernel
theorem dX10_isDone_159 : decode cX10_isDone 159 = .ok (.iconst 1, 1) := by decide +kernel
theorem dX10_isDone_160 : decode cX10_isDone 160 = .ok (.goto 4, 3) := by decide +kernel
theorem dX10_isDone_163 : decode cX10_isDone 163 = .ok (.iconst 0, 1) := by decide +kernel
theorem dX10_isDone_164 : decode cX10_isDone 164 = .ok (.ireturn, 1) := by decide +kernel
theorem dX10_isDone_165 : decode cX10_isDone 165 = .ok (.aload_n 0, 1) := by decide +kernel
theorem dX10_isDone_166 : decode cX10_isDone 166 = .ok (.invokevirtual 203, 3) := by decide +kernel
theorem dX10_isDone_169 : decode cX10_isDone 169 = .ok (.ifCond .lt 7, 3) := by decide +kernel
theorem dX10_isDone_172 : decode cX10_isDone 172 = .ok (.iconst 1, 1) := by decide +kernel
theorem dX10_isDone_173 : decode cX10_isDone 173 = .ok (.goto 4, 3) := by decide +kernel
theorem dX10_isDone_176 : decode cX10_isDone 176 = .ok (.iconst 0, 1) := by decide +kernel
theorem dX10_isDone_177 : decode cX10_isDone 177 = .ok (.ireturn, 1) := by decide +kernel
theorem dX10_clauses_0 : decode cX10_clauses 0 = .ok (.aload_n 0, 1) := by decide +kernel
theorem dX10_clauses_1 : decode cX10_clauses 1 = .ok (.iconst 0, 1) := by decide +kernel
theorem dX10_clauses_2 : decode cX10_clauses 2 = .ok (.putfield 177, 3) := by decide +kernel
theorem dX10_clauses_5 : decode cX10_clauses 5 = .ok (.iconst 0, 1) := by decide +kernel
theorem dX10_clauses_6 : decode cX10_clauses 6 = .ok (.istore_n 1, 1) := by decide +kernel
theorem dX10_clauses_7 : decode cX10_clauses 7 = .ok (.iconst 1, 1) := by decide +kernel
theorem dX10_clauses_8 : decode cX10_clauses 8 = .ok (.istore_n 2, 1) := by decide +kernel
theorem dX10_clauses_9 : decode cX10_clauses 9 = .ok (.iload_n 2, 1) := by decide +kernel
theorem dX10_clauses_10 : decode cX10_clauses 10 = .ok (.ifCond .eq 74, 3) := by decide +kernel
theorem dX10_clauses_13 : decode cX10_clauses 13 = .ok (.aload_n 0, 1) := by decide +kernel
theorem dX10_clauses_14 : decode cX10_clauses 14 = .ok (.invokevirtual 207, 3) := by decide +kernel
theorem dX10_clauses_17 : decode cX10_clauses 17 = .ok (.iconst (-1), 1) := by decide +kernel
theorem dX10_clauses_18 : decode cX10_clauses 18 = .ok (.if_icmp .ne 5, 3) := by decide +kernel
theorem dX10_clauses_21 : decode cX10_clauses 21 = .ok (.iconst (-1), 1) := by decide +kernel
theorem dX10_clauses_22 : decode cX10_clauses 22 = .ok (.ireturn, 1) := by decide +kernel
theorem dX10_clauses_23 : decode cX10_clauses 23 = .ok (.iinc 1 1, 3) := by decide +kernel
theorem dX10_clauses_26 : decode cX10_clauses 26 = .ok (.aload_n 0, 1) := by decide +kernel
theorem dX10_clauses_27 : decode cX10_clauses 27 = .ok (.getfield 177, 3) := by decide +kernel
theorem dX10_clauses_30 : decode cX10_clauses 30 = .ok (.aload_n 0, 1) := by decide +kernel
theorem dX10_clauses_31 : decode cX10_clauses 31 = .ok (.getfield 174, 3) := by decide +kernel
theorem dX10_clauses_34 : decode cX10_clauses 34 = .ok (.if_icmp .ge 27, 3) := by decide +kernel
theorem dX10_clauses_37 : decode cX10_clauses 37 = .ok (.aload_n 0, 1) := by decide +kernel
theorem dX10_clauses_38 : decode cX10_clauses 38 = .ok (.getfield 33, 3) := by decide +kernel
theorem dX10_clauses_41 : decode cX10_clauses 41 = .ok (.aload_n 0, 1) := by decide +kernel
theorem dX10_clauses_42 : decode cX10_clauses 42 = .ok (.getfield 177, 3) := by decide +kernel
theorem dX10_clauses_45 : decode cX10_clauses 45 = .ok (.iaload, 1) := by decide +kernel
theorem dX10_clauses_46 : decode cX10_clauses 46 = .ok (.bipush 59, 2) := by decide +kernel
theorem dX10_clauses_48 : decode cX10_clauses 48 = .ok (.if_icmp .ne 13, 3) := by decide +kernel
theorem dX10_clauses_51 : decode cX10_clauses 51 = .ok (.iload_n 1, 1) := by decide +kernel
theorem dX10_clauses_52 : decode cX10_clauses 52 = .ok (.bipush 12, 2) := by decide +kernel
theorem dX10_clauses_54 : decode cX10_clauses 54 = .ok (.if_icmp .ge 7, 3) := by decide +kernel
theorem dX10_clauses_57 : decode cX10_clauses 57 = .ok (.iconst 1, 1) := by decide +kernel
theorem dX10_clauses_58 : decode cX10_clauses 58 = .ok (.goto 4, 3) := by decide +kernel
theorem dX10_clauses_61 : decode cX10_clauses 61 = .ok (.iconst 0, 1) := by decide +kernel
theorem dX10_clauses_62 : decode cX10_clauses 62 = .ok (.istore_n 2, 1) := by decide +kernel
theorem dX10_clauses_63 : decode cX10_clauses 63 = .ok (.aload_n 0, 1) := by decide +kernel
theorem dX10_clauses_64 : decode cX10_clauses 64 = .ok (.dup, 1) := by decide +kernel
theorem dX10_clauses_65 : decode cX10_clauses 65 = .ok (.getfield 177, 3) := by decide +kernel
theorem dX10_clauses_68 : decode cX10_clauses 68 = .ok (.iload_n 2, 1) := by decide +kernel
theorem dX10_clauses_69 : decode cX10_clauses 69 = .ok (.ifCond .eq 7, 3) := by decide +kernel
theorem dX10_clauses_72 : decode cX10_clauses 72 = .ok (.iconst 1, 1) := by decide +kernel
theorem dX10_clauses_73 : decode cX10_clauses 73 = .ok (.goto 4, 3) := by decide +kernel
theorem dX10_clauses_76 : decode cX10_clauses 76 = .ok (.iconst 0, 1) := by decide +kernel
theorem dX10_clauses_77 : decode cX10_clauses 77 = .ok (.iadd, 1) := by decide +kernel
theorem dX10_clauses_78 : decode cX10_clauses 78 = .ok (.putfield 177, 3) := by decide +kernel
theorem dX10_clauses_81 : decode cX10_clauses 81 = .ok (.goto (-72), 3) := by decide +kernel
theorem dX10_clauses_84 : decode cX10_clauses 84 = .ok (.aload_n 0, 1) := by decide +kernel
theorem dX10_clauses_85 : decode cX10_clauses 85 = .ok (.getfield 177, 3) := by decide +kernel
theorem dX10_clauses_88 : decode cX10_clauses 88 = .ok (.aload_n 0, 1) := by decide +kernel
theorem dX10_clauses_89 : decode cX10_clauses 89 = .ok (.getfield 174, 3) := by decide +kernel
theorem dX10_clauses_92 : decode cX10_clauses 92 = .ok (.if_icmp .ne 7, 3) := by decide +kernel
theorem dX10_clauses_95 : decode cX10_clauses 95 = .ok (.iload_n 1, 1) := by decide +kernel
theorem dX10_clauses_96 : decode cX10_clauses 96 = .ok (.goto 4, 3) := by decide +kernel
theorem dX10_clauses_99 : decode cX10_clauses 99 = .ok (.iconst (-1), 1) := by decide +kernel
theorem dX10_clauses_100 : decode cX10_clauses 100 = .ok (.ireturn, 1) := by decide +kernel
theorem dX10_read_0 : decode cX10_read 0 = .ok (.aload_n 0, 1) := by decide +kernel
theorem dX10_read_1 : decode cX10_read 1 = .ok (.invokevirtual 210, 3) := by decide +kernel
theorem dX10_read_4 : decode cX10_read 4 = .ok (.istore_n 1, 1) := by decide +kernel
theorem dX10_read_5 : decode cX10_read 5 = .ok (.iload_n 1, 1) := by decide +kernel
theorem dX10_read_6 : decode cX10_read 6 = .ok (.iconst (-1), 1) := by decide +kernel
theorem dX10_read_7 : decode cX10_read 7 = .ok (.if_icmp .ne 16, 3) := by decide +kernel
theorem dX10_read_10 : decode cX10_read 10 = .ok (.aload_n 0, 1) := by decide +kernel
theorem dX10_read_11 : decode cX10_read 11 = .ok (.iconst 0, 1) := by decide +kernel
theorem dX10_read_12 : decode cX10_read 12 = .ok (.putfield 174, 3) := by decide +kernel
theorem dX10_read_15 : decode cX10_read 15 = .ok (.bipush (-10), 2) := by decide +kernel
theorem dX10_read_17 : decode cX10_read 17 = .ok (.aload_n 0, 1) := by decide +kernel
theorem dX10_read_18 : decode cX10_read 18 = .ok (.getfield 177, 3) := by decide +kernel
theorem dX10_read_21 : decode cX10_read 21 = .ok (.isub, 1) := by decide +kernel
theorem dX10_read_22 : decode cX10_read 22 = .ok (.ireturn, 1) := by decide +kernel
theorem dX10_read_23 : decode cX10_read 23 = .ok (.aload_n 0, 1) := by decide +kernel
theorem dX10_read_24 : decode cX10_read 24 = .ok (.iconst 0, 1) := by decide +kernel
theorem dX10_read_25 : decode cX10_read 25 = .ok (.putfield 177, 3) := by decide +kernel
theorem dX10_read_28 : decode cX10_read 28 = .ok (.iconst 0, 1) := by decide +kernel
theorem dX10_read_29 : decode cX10_read 29 = .ok (.istore_n 2, 1) := by decide +kernel
theorem dX10_read_30 : decode cX10_read 30 = .ok (.iconst 0, 1) := by decide +kernel
theorem dX10_read_31 : decode cX10_read 31 = .ok (.istore_n 3, 1) := by decide +kernel
theorem dX10_read_32 : decode cX10_read 32 = .ok (.iload_n 3, 1) := by decide +kernel
theorem dX10_read_33 : decode cX10_read 33 = .ok (.iload_n 1, 1) := by decide +kernel
theorem dX10_read_34 : decode cX10_read 34 = .ok (.if_icmp .ge 38, 3) := by decide +kernel
theorem dX10_read_37 : decode cX10_read 37 = .ok (.iload_n 2, 1) := by decide +kernel
theorem dX10_read_38 : decode cX10_read 38 = .ok (.aload_n 0, 1) := by decide +kernel
theorem dX10_read_39 : decode cX10_read 39 = .ok (.aload_n 0, 1) := by decide +kernel
theorem dX10_read_40 : decode cX10_read 40 = .ok (.invokevirtual 207, 3) := by decide +kernel
theorem dX10_read_43 : decode cX10_read 43 = .ok (.invokevirtual 213, 3) := by decide +kernel
theorem dX10_read_46 : decode cX10_read 46 = .ok (.ifCond .eq 7, 3) := by decide +kernel
theorem dX10_read_49 : decode cX10_read 49 = .ok (.iconst 1, 1) := by decide +kernel
theorem dX10_read_50 : decode cX10_read 50 = .ok (.goto 4, 3) := by decide +kernel
theorem dX10_read_53 : decode cX10_read 53 = .ok (.iconst 0, 1) := by decide +kernel
theorem dX10_read_54 : decode cX10_read 54 = .ok (.iadd, 1) := by decide +kernel
theorem dX10_read_55 : decode cX10_read 55 = .ok (.istore_n 2, 1) := by decide +kernel
theorem dX10_read_56 : decode cX10_read 56 = .ok (.aload_n 0, 1) := by decide +kernel
theorem dX10_read_57 : decode cX10_read 57 = .ok (.dup, 1) := by decide +kernel
theorem dX10_read_58 : decode cX10_read 58 = .ok (.getfield 177, 3) := by decide +kernel
theorem dX10_read_61 : decode cX10_read 61 = .ok (.iconst 1, 1) := by decide +kernel
theorem dX10_read_62 : decode cX10_read 62 = .ok (.iadd, 1) := by decide +kernel
theorem dX10_read_63 : decode cX10_read 63 = .ok (.putfield 177, 3) := by decide +kernel
theorem dX10_read_66 : decode cX10_read 66 = .ok (.iinc 3 1, 3) := by decide +kernel
theorem dX10_read_69 : decode cX10_read 69 = .ok (.goto (-37), 3) := by decide +kernel
theorem dX10_read_72 : decode cX10_read 72 = .ok (.aload_n 0, 1) := by decide +kernel
theorem dX10_read_73 : decode cX10_read 73 = .ok (.iconst 0, 1) := by decide +kernel
theorem dX10_read_74 : decode cX10_read 74 = .ok (.putfield 174, 3) := by decide +kernel
theorem dX10_read_77 : decode cX10_read 77 = .ok (.iload_n 2, 1) := by decide +kernel
theorem dX10_read_78 : decode cX10_read 78 = .ok (.ireturn, 1) := by decide +kernel
theorem dX10_levelOf_0 : decode cX10_levelOf 0 = .ok (.sipush 1000, 3) := by decide +kernel
theorem dX10_levelOf_3 : decode cX10_levelOf 3 = .ok (.istore 4, 2) := by decide +kernel
theorem dX10_levelOf_5 : decode cX10_levelOf 5 = .ok (.iconst 0, 1) := by decide +kernel
theorem dX10_levelOf_6 : decode cX10_levelOf 6 = .ok (.istore 5, 2) := by decide +kernel
theorem dX10_levelOf_8 : decode cX10_levelOf 8 = .ok (.iload 5, 2) := by decide +kernel
theorem dX10_levelOf_10 : decode cX10_levelOf 10 = .ok (.aload_n 0, 1) := by decide +kernel
theorem dX10_levelOf_11 : decode cX10_levelOf 11 = .ok (.getfield 11, 3) := by decide +kernel
theorem dX10_levelOf_14 : decode cX10_levelOf 14 = .ok (.iload_n 1, 1) := by decide +kernel
theorem dX10_levelOf_15 : decode cX10_levelOf 15 = .ok (.iaload, 1) := by decide +kernel
theorem dX10_levelOf_16 : decode cX10_levelOf 16 = .ok (.if_icmp .ge 35, 3) := by decide +kernel
theorem dX10_levelOf_19 : decode cX10_levelOf 19 = .ok (.iload 4, 2) := by decide +kernel
theorem dX10_levelOf_21 : decode cX10_levelOf 21 = .ok (.iload_n 2, 1) := by decide +kernel
theorem dX10_levelOf_22 : decode cX10_levelOf 22 = .ok (.aload_n 0, 1) := by decide +kernel
theorem dX10_levelOf_23 : decode cX10_levelOf 23 = .ok (.iload_n 1, 1) := by decide +kernel
theorem dX10_levelOf_24 : decode cX10_levelOf 24 = .ok (.iload 5, 2) := by decide +kernel
theorem dX10_levelOf_26 : decode cX10_levelOf 26 = .ok (.invokevirtual 125, 3) := by decide +kernel
theorem dX10_levelOf_29 : decode cX10_levelOf 29 = .ok (.imul, 1) := by decide +kernel
theorem dX10_levelOf_30 : decode cX10_levelOf 30 = .ok (.iload_n 3, 1) := by decide +kernel
theorem dX10_levelOf_31 : decode cX10_levelOf 31 = .ok (.aload_n 0, 1) := by decide +kernel
theorem dX10_levelOf_32 : decode cX10_levelOf 32 = .ok (.iload_n 1, 1) := by decide +kernel
theorem dX10_levelOf_33 : decode cX10_levelOf 33 = .ok (.iload 5, 2) := by decide +kernel
theorem dX10_levelOf_35 : decode cX10_levelOf 35 = .ok (.invokevirtual 129, 3) := by decide +kernel
theorem dX10_levelOf_38 : decode cX10_levelOf 38 = .ok (.imul, 1) := by decide +kernel
theorem dX10_levelOf_39 : decode cX10_levelOf 39 = .ok (.iadd, 1) := by decide +kernel
theorem dX10_levelOf_40 : decode cX10_levelOf 40 = .ok (.invokestatic 216, 3) := by decide +kernel
theorem dX10_levelOf_43 : decode cX10_levelOf 43 = .ok (.istore 4, 2) := by decide +kernel
theorem dX10_levelOf_45 : decode cX10_levelOf 45 = .ok (.iinc 5 1, 3) := by decide +kernel
theorem dX10_levelOf_48 : decode cX10_levelOf 48 = .ok (.goto (-40), 3) := by decide +kernel
theorem dX10_levelOf_51 : decode cX10_levelOf 51 = .ok (.iload 4, 2) := by decide +kernel
theorem dX10_levelOf_53 : decode cX10_levelOf 53 = .ok (.ireturn, 1) := by decide +kernel
theorem dX10_metBy_0 : decode cX10_metBy 0 = .ok (.iconst 0, 1) := by decide +kernel
theorem dX10_metBy_1 : decode cX10_metBy 1 = .ok (.istore 5, 2) := by decide +kernel
theorem dX10_metBy_3 : decode cX10_metBy 3 = .ok (.iconst 0, 1) := by decide +kernel
theorem dX10_metBy_4 : decode cX10_metBy 4 = .ok (.istore 6, 2) := by decide +kernel
theorem dX10_metBy_6 : decode cX10_metBy 6 = .ok (.iload 6, 2) := by decide +kernel
theorem dX10_metBy_8 : decode cX10_metBy 8 = .ok (.aload_n 0, 1) := by decide +kernel
theorem dX10_metBy_9 : decode cX10_metBy 9 = .ok (.getfield 11, 3) := by decide +kernel
theorem dX10_metBy_12 : decode cX10_metBy 12 = .ok (.iload_n 1, 1) := by decide +kernel
theorem dX10_metBy_13 : decode cX10_metBy 13 = .ok (.iaload, 1) := by decide +kernel
theorem dX10_metBy_14 : decode cX10_metBy 14 = .ok (.if_icmp .ge 43, 3) := by decide +kernel
theorem dX10_metBy_17 : decode cX10_metBy 17 = .ok (.iload 5, 2) := by decide +kernel
theorem dX10_metBy_19 : decode cX10_metBy 19 = .ok (.iload_n 2, 1) := by decide +kernel
theorem dX10_metBy_20 : decode cX10_metBy 20 = .ok (.aload_n 0, 1) := by decide +kernel
theorem dX10_metBy_21 : decode cX10_metBy 21 = .ok (.iload_n 1, 1) := by decide +kernel
theorem dX10_metBy_22 : decode cX10_metBy 22 = .ok (.iload 6, 2) := by decide +kernel
theorem dX10_metBy_24 : decode cX10_metBy 24 = .ok (.invokevirtual 125, 3) := by decide +kernel
theorem dX10_metBy_27 : decode cX10_metBy 27 = .ok (.imul, 1) := by decide +kernel
theorem dX10_metBy_28 : decode cX10_metBy 28 = .ok (.iload_n 3, 1) := by decide +kernel
theorem dX10_metBy_29 : decode cX10_metBy 29 = .ok (.aload_n 0, 1) := by decide +kernel
theorem dX10_metBy_30 : decode cX10_metBy 30 = .ok (.iload_n 1, 1) := by decide +kernel
theorem dX10_metBy_31 : decode cX10_metBy 31 = .ok (.iload 6, 2) := by decide +kernel
theorem dX10_metBy_33 : decode cX10_metBy 33 = .ok (.invokevirtual 129, 3) := by decide +kernel
theorem dX10_metBy_36 : decode cX10_metBy 36 = .ok (.imul, 1) := by decide +kernel
theorem dX10_metBy_37 : decode cX10_metBy 37 = .ok (.iadd, 1) := by decide +kernel
theorem dX10_metBy_38 : decode cX10_metBy 38 = .ok (.iload 4, 2) := by decide +kernel
theorem dX10_metBy_40 : decode cX10_metBy 40 = .ok (.if_icmp .ne 7, 3) := by decide +kernel
theorem dX10_metBy_43 : decode cX10_metBy 43 = .ok (.iconst 1, 1) := by decide +kernel
theorem dX10_metBy_44 : decode cX10_metBy 44 = .ok (.goto 4, 3) := by decide +kernel
theorem dX10_metBy_47 : decode cX10_metBy 47 = .ok (.iconst 0, 1) := by decide +kernel
theorem dX10_metBy_48 : decode cX10_metBy 48 = .ok (.iadd, 1) := by decide +kernel
theorem dX10_metBy_49 : decode cX10_metBy 49 = .ok (.istore 5, 2) := by decide +kernel
theorem dX10_metBy_51 : decode cX10_metBy 51 = .ok (.iinc 6 1, 3) := by decide +kernel
theorem dX10_metBy_54 : decode cX10_metBy 54 = .ok (.goto (-48), 3) := by decide +kernel
theorem dX10_metBy_57 : decode cX10_metBy 57 = .ok (.iload 5, 2) := by decide +kernel
theorem dX10_metBy_59 : decode cX10_metBy 59 = .ok (.ireturn, 1) := by decide +kernel
theorem dX10_comesFace_0 : decode cX10_comesFace 0 = .ok (.aload_n 0, 1) := by decide +kernel
theorem dX10_comesFace_1 : decode cX10_comesFace 1 = .ok (.getfield 221, 3) := by decide +kernel
theorem dX10_comesFace_4 : decode cX10_comesFace 4 = .ok (.istore 4, 2) := by decide +kernel
theorem dX10_comesFace_6 : decode cX10_comesFace 6 = .ok (.iload 4, 2) := by decide +kernel
theorem dX10_comesFace_8 : decode cX10_comesFace 8 = .ok (.ifCond .le 82, 3) := by decide +kernel
theorem dX10_comesFace_11 : decode cX10_comesFace 11 = .ok (.iload_n 2, 1) := by decide +kernel
theorem dX10_comesFace_12 : decode cX10_comesFace 12 = .ok (.aload_n 0, 1) := by decide +kernel
theorem dX10_comesFace_13 : decode cX10_comesFace 13 = .ok (.getfield 42, 3) := by decide +kernel
theorem dX10_comesFace_16 : decode cX10_comesFace 16 = .ok (.iload 4, 2) := by decide +kernel
theorem dX10_comesFace_18 : decode cX10_comesFace 18 = .ok (.iconst 1, 1) := by decide +kernel
theorem dX10_comesFace_19 : decode cX10_comesFace 19 = .ok (.isub, 1) := by decide +kernel
theorem dX10_comesFace_20 : decode cX10_comesFace 20 = .ok (.iaload, 1) := by decide +kernel
theorem dX10_comesFace_21 : decode cX10_comesFace 21 = .ok (.imul, 1) := by decide +kernel
theorem dX10_comesFace_22 : decode cX10_comesFace 22 = .ok (.aload_n 0, 1) := by decide +kernel
theorem dX10_comesFace_23 : decode cX10_comesFace 23 = .ok (.getfield 39, 3) := by decide +kernel
theorem dX10_comesFace_26 : decode cX10_comesFace 26 = .ok (.iload 4, 2) := by decide +kernel
theorem dX10_comesFace_28 : decode cX10_comesFace 28 = .ok (.iconst 1, 1) := by decide +kernel
theorem dX10_comesFace_29 : decode cX10_comesFace 29 = .ok (.isub, 1) := by decide +kernel
theorem dX10_comesFace_30 : decode cX10_comesFace 30 = .ok (.iaload, 1) := by decide +kernel
theorem dX10_comesFace_31 : decode cX10_comesFace 31 = .ok (.iload_n 3, 1) := by decide +kernel
theorem dX10_comesFace_32 : decode cX10_comesFace 32 = .ok (.imul, 1) := by decide +kernel
theorem dX10_comesFace_33 : decode cX10_comesFace 33 = .ok (.if_icmp .le 57, 3) := by decide +kernel
theorem dX10_comesFace_36 : decode cX10_comesFace 36 = .ok (.aload_n 0, 1) := by decide +kernel
theorem dX10_comesFace_37 : decode cX10_comesFace 37 = .ok (.getfield 39, 3) := by decide +kernel
theorem dX10_comesFace_40 : decode cX10_comesFace 40 = .ok (.iload 4, 2) := by decide +kernel
theorem dX10_comesFace_42 : decode cX10_comesFace 42 = .ok (.aload_n 0, 1) := by decide +kernel
theorem dX10_comesFace_43 : decode cX10_comesFace 43 = .ok (.getfield 39, 3) := by decide +kernel
theorem dX10_comesFace_46 : decode cX10_comesFace 46 = .ok (.iload 4, 2) := by decide +kernel
theorem dX10_comesFace_48 : decode cX10_comesFace 48 = .ok (.iconst 1, 1) := by decide +kernel
theorem dX10_comesFace_49 : decode cX10_comesFace 49 = .ok (.isub, 1) := by decide +kernel
theorem dX10_comesFace_50 : decode cX10_comesFace 50 = .ok (.iaload, 1) := by decide +kernel
theorem dX10_comesFace_51 : decode cX10_comesFace 51 = .ok (.iastore, 1) := by decide +kernel
theorem dX10_comesFace_52 : decode cX10_comesFace 52 = .ok (.aload_n 0, 1) := by decide +kernel
theorem dX10_comesFace_53 : decode cX10_comesFace 53 = .ok (.getfield 42, 3) := by decide +kernel
theorem dX10_comesFace_56 : decode cX10_comesFace 56 = .ok (.iload 4, 2) := by decide +kernel
theorem dX10_comesFace_58 : decode cX10_comesFace 58 = .ok (.aload_n 0, 1) := by decide +kernel
theorem dX10_comesFace_59 : decode cX10_comesFace 59 = .ok (.getfield 42, 3) := by decide +kernel
theorem dX10_comesFace_62 : decode cX10_comesFace 62 = .ok (.iload 4, 2) := by decide +kernel
theorem dX10_comesFace_64 : decode cX10_comesFace 64 = .ok (.iconst 1, 1) := by decide +kernel
theorem dX10_comesFace_65 : decode cX10_comesFace 65 = .ok (.isub, 1) := by decide +kernel
theorem dX10_comesFace_66 : decode cX10_comesFace 66 = .ok (.iaload, 1) := by decide +kernel
theorem dX10_comesFace_67 : decode cX10_comesFace 67 = .ok (.iastore, 1) := by decide +kernel
theorem dX10_comesFace_68 : decode cX10_comesFace 68 = .ok (.aload_n 0, 1) := by decide +kernel
theorem dX10_comesFace_69 : decode cX10_comesFace 69 = .ok (.getfield 45, 3) := by decide +kernel
theorem dX10_comesFace_72 : decode cX10_comesFace 72 = .ok (.iload 4, 2) := by decide +kernel
theorem dX10_comesFace_74 : decode cX10_comesFace 74 = .ok (.aload_n 0, 1) := by decide +kernel
theorem dX10_comesFace_75 : decode cX10_comesFace 75 = .ok (.getfield 45, 3) := by decide +kernel
theorem dX10_comesFace_78 : decode cX10_comesFace 78 = .ok (.iload 4, 2) := by decide +kernel
theorem dX10_comesFace_80 : decode cX10_comesFace 80 = .ok (.iconst 1, 1) := by decide +kernel
theorem dX10_comesFace_81 : decode cX10_comesFace 81 = .ok (.isub, 1) := by decide +kernel
theorem dX10_comesFace_82 : decode cX10_comesFace 82 = .ok (.iaload, 1) := by decide +kernel
theorem dX10_comesFace_83 : decode cX10_comesFace 83 = .ok (.iastore, 1) := by decide +kernel
theorem dX10_comesFace_84 : decode cX10_comesFace 84 = .ok (.iinc 4 (-1), 3) := by decide +kernel
theorem dX10_comesFace_87 : decode cX10_comesFace 87 = .ok (.goto (-81), 3) := by decide +kernel
theorem dX10_comesFace_90 : decode cX10_comesFace 90 = .ok (.aload_n 0, 1) := by decide +kernel
theorem dX10_comesFace_91 : decode cX10_comesFace 91 = .ok (.getfield 39, 3) := by decide +kernel
theorem dX10_comesFace_94 : decode cX10_comesFace 94 = .ok (.iload 4, 2) := by decide +kernel
theorem dX10_comesFace_96 : decode cX10_comesFace 96 = .ok (.iload_n 2, 1) := by decide +kernel
theorem dX10_comesFace_97 : decode cX10_comesFace 97 = .ok (.iastore, 1) := by decide +kernel
theorem dX10_comesFace_98 : decode cX10_comesFace 98 = .ok (.aload_n 0, 1) := by decide +kernel
theorem dX10_comesFace_99 : decode cX10_comesFace 99 = .ok (.getfield 42, 3) := by decide +kernel
theorem dX10_comesFace_102 : decode cX10_comesFace 102 = .ok (.iload 4, 2) := by decide +kernel
theorem dX10_comesFace_104 : decode cX10_comesFace 104 = .ok (.iload_n 3, 1) := by decide +kernel
theorem dX10_comesFace_105 : decode cX10_comesFace 105 = .ok (.iastore, 1) := by decide +kernel
theorem dX10_comesFace_106 : decode cX10_comesFace 106 = .ok (.aload_n 0, 1) := by decide +kernel
theorem dX10_comesFace_107 : decode cX10_comesFace 107 = .ok (.getfield 45, 3) := by decide +kernel
theorem dX10_comesFace_110 : decode cX10_comesFace 110 = .ok (.iload 4, 2) := by decide +kernel
theorem dX10_comesFace_112 : decode cX10_comesFace 112 = .ok (.aload_n 0, 1) := by decide +kernel
theorem dX10_comesFace_113 : decode cX10_comesFace 113 = .ok (.iload_n 1, 1) := by decide +kernel
theorem dX10_comesFace_114 : decode cX10_comesFace 114 = .ok (.iload_n 2, 1) := by decide +kernel
theorem dX10_comesFace_115 : decode cX10_comesFace 115 = .ok (.iload_n 3, 1) := by decide +kernel
theorem dX10_comesFace_116 : decode cX10_comesFace 116 = .ok (.invokevirtual 224, 3) := by decide +kernel
theorem dX10_comesFace_119 : decode cX10_comesFace 119 = .ok (.iastore, 1) := by decide +kernel
theorem dX10_comesFace_120 : decode cX10_comesFace 120 = .ok (.aload_n 0, 1) := by decide +kernel
theorem dX10_comesFace_121 : decode cX10_comesFace 121 = .ok (.dup, 1) := by decide +kernel
theorem dX10_comesFace_122 : decode cX10_comesFace 122 = .ok (.getfield 221, 3) := by decide +kernel
theorem dX10_comesFace_125 : decode cX10_comesFace 125 = .ok (.iconst 1, 1) := by decide +kernel
theorem dX10_comesFace_126 : decode cX10_comesFace 126 = .ok (.iadd, 1) := by decide +kernel
theorem dX10_comesFace_127 : decode cX10_comesFace 127 = .ok (.putfield 221, 3) := by decide +kernel
theorem dX10_comesFace_130 : decode cX10_comesFace 130 = .ok (.return_, 1) := by decide +kernel
theorem dX10_tellsFaces_0 : decode cX10_tellsFaces 0 = .ok (.aload_n 0, 1) := by decide +kernel
theorem dX10_tellsFaces_1 : decode cX10_tellsFaces 1 = .ok (.iconst 0, 1) := by decide +kernel
theorem dX10_tellsFaces_2 : decode cX10_tellsFaces 2 = .ok (.putfield 221, 3) := by decide +kernel
theorem dX10_tellsFaces_5 : decode cX10_tellsFaces 5 = .ok (.aload_n 0, 1) := by decide +kernel
theorem dX10_tellsFaces_6 : decode cX10_tellsFaces 6 = .ok (.iload_n 1, 1) := by decide +kernel
theorem dX10_tellsFaces_7 : decode cX10_tellsFaces 7 = .ok (.iconst 1, 1) := by decide +kernel
theorem dX10_tellsFaces_8 : decode cX10_tellsFaces 8 = .ok (.iconst 0, 1) := by decide +kernel
theorem dX10_tellsFaces_9 : decode cX10_tellsFaces 9 = .ok (.invokevirtual 227, 3) := by decide +kernel
theorem dX10_tellsFaces_12 : decode cX10_tellsFaces 12 = .ok (.iconst 1, 1) := by decide +kernel
theorem dX10_tellsFaces_13 : decode cX10_tellsFaces 13 = .ok (.istore_n 2, 1) := by decide +kernel
theorem dX10_tellsFaces_14 : decode cX10_tellsFaces 14 = .ok (.iload_n 2, 1) := by decide +kernel
theorem dX10_tellsFaces_15 : decode cX10_tellsFaces 15 = .ok (.bipush 10, 2) := by decide +kernel
theorem dX10_tellsFaces_17 : decode cX10_tellsFaces 17 = .ok (.if_icmp .ge 60, 3) := by decide +kernel
theorem dX10_tellsFaces_20 : decode cX10_tellsFaces 20 = .ok (.iconst 1, 1) := by decide +kernel
theorem dX10_tellsFaces_21 : decode cX10_tellsFaces 21 = .ok (.istore_n 3, 1) := by decide +kernel
theorem dX10_tellsFaces_22 : decode cX10_tellsFaces 22 = .ok (.iload_n 3, 1) := by decide +kernel
theorem dX10_tellsFaces_23 : decode cX10_tellsFaces 23 = .ok (.bipush 10, 2) := by decide +kernel
theorem dX10_tellsFaces_25 : decode cX10_tellsFaces 25 = .ok (.if_icmp .ge 46, 3) := by decide +kernel
theorem dX10_tellsFaces_28 : decode cX10_tellsFaces 28 = .ok (.iload_n 2, 1) := by decide +kernel
theorem dX10_tellsFaces_29 : decode cX10_tellsFaces 29 = .ok (.i2l, 1) := by decide +kernel
theorem dX10_tellsFaces_30 : decode cX10_tellsFaces 30 = .ok (.iload_n 3, 1) := by decide +kernel
theorem dX10_tellsFaces_31 : decode cX10_tellsFaces 31 = .ok (.i2l, 1) := by decide +kernel
theorem dX10_tellsFaces_32 : decode cX10_tellsFaces 32 = .ok (.invokestatic 121, 3) := by decide +kernel
theorem dX10_tellsFaces_35 : decode cX10_tellsFaces 35 = .ok (.lconst 1, 1) := by decide +kernel
theorem dX10_tellsFaces_36 : decode cX10_tellsFaces 36 = .ok (.lcmp, 1) := by decide +kernel
theorem dX10_tellsFaces_37 : decode cX10_tellsFaces 37 = .ok (.ifCond .ne 28, 3) := by decide +kernel
theorem dX10_tellsFaces_40 : decode cX10_tellsFaces 40 = .ok (.aload_n 0, 1) := by decide +kernel
theorem dX10_tellsFaces_41 : decode cX10_tellsFaces 41 = .ok (.iload_n 1, 1) := by decide +kernel
theorem dX10_tellsFaces_42 : decode cX10_tellsFaces 42 = .ok (.iload_n 2, 1) := by decide +kernel
theorem dX10_tellsFaces_43 : decode cX10_tellsFaces 43 = .ok (.iload_n 3, 1) := by decide +kernel
theorem dX10_tellsFaces_44 : decode cX10_tellsFaces 44 = .ok (.aload_n 0, 1) := by decide +kernel
theorem dX10_tellsFaces_45 : decode cX10_tellsFaces 45 = .ok (.iload_n 1, 1) := by decide +kernel
theorem dX10_tellsFaces_46 : decode cX10_tellsFaces 46 = .ok (.iload_n 2, 1) := by decide +kernel
theorem dX10_tellsFaces_47 : decode cX10_tellsFaces 47 = .ok (.iload_n 3, 1) := by decide +kernel
theorem dX10_tellsFaces_48 : decode cX10_tellsFaces 48 = .ok (.invokevirtual 224, 3) := by decide +kernel
theorem dX10_tellsFaces_51 : decode cX10_tellsFaces 51 = .ok (.invokevirtual 230, 3) := by decide +kernel
theorem dX10_tellsFaces_54 : decode cX10_tellsFaces 54 = .ok (.iconst 1, 1) := by decide +kernel
theorem dX10_tellsFaces_55 : decode cX10_tellsFaces 55 = .ok (.if_icmp .le 10, 3) := by decide +kernel
theorem dX10_tellsFaces_58 : decode cX10_tellsFaces 58 = .ok (.aload_n 0, 1) := by decide +kernel
theorem dX10_tellsFaces_59 : decode cX10_tellsFaces 59 = .ok (.iload_n 1, 1) := by decide +kernel
theorem dX10_tellsFaces_60 : decode cX10_tellsFaces 60 = .ok (.iload_n 2, 1) := by decide +kernel
theorem dX10_tellsFaces_61 : decode cX10_tellsFaces 61 = .ok (.iload_n 3, 1) := by decide +kernel
theorem dX10_tellsFaces_62 : decode cX10_tellsFaces 62 = .ok (.invokevirtual 227, 3) := by decide +kernel
theorem dX10_tellsFaces_65 : decode cX10_tellsFaces 65 = .ok (.iinc 3 1, 3) := by decide +kernel
theorem dX10_tellsFaces_68 : decode cX10_tellsFaces 68 = .ok (.goto (-46), 3) := by decide +kernel
theorem dX10_tellsFaces_71 : decode cX10_tellsFaces 71 = .ok (.iinc 2 1, 3) := by decide +kernel
theorem dX10_tellsFaces_74 : decode cX10_tellsFaces 74 = .ok (.goto (-60), 3) := by decide +kernel
theorem dX10_tellsFaces_77 : decode cX10_tellsFaces 77 = .ok (.aload_n 0, 1) := by decide +kernel
theorem dX10_tellsFaces_78 : decode cX10_tellsFaces 78 = .ok (.iload_n 1, 1) := by decide +kernel
theorem dX10_tellsFaces_79 : decode cX10_tellsFaces 79 = .ok (.iconst 0, 1) := by decide +kernel
theorem dX10_tellsFaces_80 : decode cX10_tellsFaces 80 = .ok (.iconst 1, 1) := by decide +kernel
theorem dX10_tellsFaces_81 : decode cX10_tellsFaces 81 = .ok (.invokevirtual 227, 3) := by decide +kernel
theorem dX10_tellsFaces_84 : decode cX10_tellsFaces 84 = .ok (.return_, 1) := by decide +kernel
theorem dX10_isInHull_0 : decode cX10_isInHull 0 = .ok (.iconst 1, 1) := by decide +kernel
theorem dX10_isInHull_1 : decode cX10_isInHull 1 = .ok (.istore_n 3, 1) := by decide +kernel
theorem dX10_isInHull_2 : decode cX10_isInHull 2 = .ok (.iconst 0, 1) := by decide +kernel
theorem dX10_isInHull_3 : decode cX10_isInHull 3 = .ok (.istore 4, 2) := by decide +kernel
theorem dX10_isInHull_5 : decode cX10_isInHull 5 = .ok (.iload 4, 2) := by decide +kernel
theorem dX10_isInHull_7 : decode cX10_isInHull 7 = .ok (.aload_n 0, 1) := by decide +kernel
theorem dX10_isInHull_8 : decode cX10_isInHull 8 = .ok (.getfield 221, 3) := by decide +kernel
theorem dX10_isInHull_11 : decode cX10_isInHull 11 = .ok (.if_icmp .ge 48, 3) := by decide +kernel
theorem dX10_isInHull_14 : decode cX10_isInHull 14 = .ok (.iload_n 3, 1) := by decide +kernel
theorem dX10_isInHull_15 : decode cX10_isInHull 15 = .ok (.ifCond .eq 36, 3) := by decide +kernel
theorem dX10_isInHull_18 : decode cX10_isInHull 18 = .ok (.aload_n 0, 1) := by decide +kernel
theorem dX10_isInHull_19 : decode cX10_isInHull 19 = .ok (.getfield 39, 3) := by decide +kernel
theorem dX10_isInHull_22 : decode cX10_isInHull 22 = .ok (.iload 4, 2) := by decide +kernel
theorem dX10_isInHull_24 : decode cX10_isInHull 24 = .ok (.iaload, 1) := by decide +kernel
theorem dX10_isInHull_25 : decode cX10_isInHull 25 = .ok (.iload_n 1, 1) := by decide +kernel
theorem dX10_isInHull_26 : decode cX10_isInHull 26 = .ok (.imul, 1) := by decide +kernel
theorem dX10_isInHull_27 : decode cX10_isInHull 27 = .ok (.aload_n 0, 1) := by decide +kernel
theorem dX10_isInHull_28 : decode cX10_isInHull 28 = .ok (.getfield 42, 3) := by decide +kernel
theorem dX10_isInHull_31 : decode cX10_isInHull 31 = .ok (.iload 4, 2) := by decide +kernel
theorem dX10_isInHull_33 : decode cX10_isInHull 33 = .ok (.iaload, 1) := by decide +kernel
theorem dX10_isInHull_34 : decode cX10_isInHull 34 = .ok (.iload_n 2, 1) := by decide +kernel
theorem dX10_isInHull_35 : decode cX10_isInHull 35 = .ok (.imul, 1) := by decide +kernel
theorem dX10_isInHull_36 : decode cX10_isInHull 36 = .ok (.iadd, 1) := by decide +kernel
theorem dX10_isInHull_37 : decode cX10_isInHull 37 = .ok (.aload_n 0, 1) := by decide +kernel
theorem dX10_isInHull_38 : decode cX10_isInHull 38 = .ok (.getfield 45, 3) := by decide +kernel
theorem dX10_isInHull_41 : decode cX10_isInHull 41 = .ok (.iload 4, 2) := by decide +kernel
theorem dX10_isInHull_43 : decode cX10_isInHull 43 = .ok (.iaload, 1) := by decide +kernel
theorem dX10_isInHull_44 : decode cX10_isInHull 44 = .ok (.if_icmp .lt 7, 3) := by decide +kernel
theorem dX10_isInHull_47 : decode cX10_isInHull 47 = .ok (.iconst 1, 1) := by decide +kernel
theorem dX10_isInHull_48 : decode cX10_isInHull 48 = .ok (.goto 4, 3) := by decide +kernel
theorem dX10_isInHull_51 : decode cX10_isInHull 51 = .ok (.iconst 0, 1) := by decide +kernel
theorem dX10_isInHull_52 : decode cX10_isInHull 52 = .ok (.istore_n 3, 1) := by decide +kernel
theorem dX10_isInHull_53 : decode cX10_isInHull 53 = .ok (.iinc 4 1, 3) := by decide +kernel
theorem dX10_isInHull_56 : decode cX10_isInHull 56 = .ok (.goto (-51), 3) := by decide +kernel
theorem dX10_isInHull_59 : decode cX10_isInHull 59 = .ok (.iload_n 3, 1) := by decide +kernel
theorem dX10_isInHull_60 : decode cX10_isInHull 60 = .ok (.ireturn, 1) := by decide +kernel
theorem dX10_isWithin_0 : decode cX10_isWithin 0 = .ok (.iconst 0, 1) := by decide +kernel
theorem dX10_isWithin_1 : decode cX10_isWithin 1 = .ok (.istore 4, 2) := by decide +kernel
theorem dX10_isWithin_3 : decode cX10_isWithin 3 = .ok (.iconst 0, 1) := by decide +kernel
theorem dX10_isWithin_4 : decode cX10_isWithin 4 = .ok (.istore 5, 2) := by decide +kernel
theorem dX10_isWithin_6 : decode cX10_isWithin 6 = .ok (.iload 5, 2) := by decide +kernel
theorem dX10_isWithin_8 : decode cX10_isWithin 8 = .ok (.aload_n 0, 1) := by decide +kernel
theorem dX10_isWithin_9 : decode cX10_isWithin 9 = .ok (.getfield 11, 3) := by decide +kernel
theorem dX10_isWithin_12 : decode cX10_isWithin 12 = .ok (.iload_n 1, 1) := by decide +kernel
theorem dX10_isWithin_13 : decode cX10_isWithin 13 = .ok (.iaload, 1) := by decide +kernel
theorem dX10_isWithin_14 : decode cX10_isWithin 14 = .ok (.if_icmp .ge 43, 3) := by decide +kernel
theorem dX10_isWithin_17 : decode cX10_isWithin 17 = .ok (.iload 4, 2) := by decide +kernel
theorem dX10_isWithin_19 : decode cX10_isWithin 19 = .ok (.ifCond .ne 25, 3) := by decide +kernel
theorem dX10_isWithin_22 : decode cX10_isWithin 22 = .ok (.aload_n 0, 1) := by decide +kernel
theorem dX10_isWithin_23 : decode cX10_isWithin 23 = .ok (.iload_n 1, 1) := by decide +kernel
theorem dX10_isWithin_24 : decode cX10_isWithin 24 = .ok (.iload 5, 2) := by decide +kernel
theorem dX10_isWithin_26 : decode cX10_isWithin 26 = .ok (.invokevirtual 125, 3) := by decide +kernel
theorem dX10_isWithin_29 : decode cX10_isWithin 29 = .ok (.iload_n 2, 1) := by decide +kernel
theorem dX10_isWithin_30 : decode cX10_isWithin 30 = .ok (.if_icmp .gt 18, 3) := by decide +kernel
theorem dX10_isWithin_33 : decode cX10_isWithin 33 = .ok (.aload_n 0, 1) := by decide +kernel
theorem dX10_isWithin_34 : decode cX10_isWithin 34 = .ok (.iload_n 1, 1) := by decide +kernel
theorem dX10_isWithin_35 : decode cX10_isWithin 35 = .ok (.iload 5, 2) := by decide +kernel
theorem dX10_isWithin_37 : decode cX10_isWithin 37 = .ok (.invokevirtual 129, 3) := by decide +kernel
theorem dX10_isWithin_40 : decode cX10_isWithin 40 = .ok (.iload_n 3, 1) := by decide +kernel
theorem dX10_isWithin_41 : decode cX10_isWithin 41 = .ok (.if_icmp .gt 7, 3) := by decide +kernel
theorem dX10_isWithin_44 : decode cX10_isWithin 44 = .ok (.iconst 1, 1) := by decide +kernel
theorem dX10_isWithin_45 : decode cX10_isWithin 45 = .ok (.goto 4, 3) := by decide +kernel
theorem dX10_isWithin_48 : decode cX10_isWithin 48 = .ok (.iconst 0, 1) := by decide +kernel
theorem dX10_isWithin_49 : decode cX10_isWithin 49 = .ok (.istore 4, 2) := by decide +kernel
theorem dX10_isWithin_51 : decode cX10_isWithin 51 = .ok (.iinc 5 1, 3) := by decide +kernel
theorem dX10_isWithin_54 : decode cX10_isWithin 54 = .ok (.goto (-48), 3) := by decide +kernel
theorem dX10_isWithin_57 : decode cX10_isWithin 57 = .ok (.iload 4, 2) := by decide +kernel
theorem dX10_isWithin_59 : decode cX10_isWithin 59 = .ok (.ireturn, 1) := by decide +kernel
theorem dX10_isClosed_0 : decode cX10_isClosed 0 = .ok (.aload_n 0, 1) := by decide +kernel
theorem dX10_isClosed_1 : decode cX10_isClosed 1 = .ok (.iload_n 1, 1) := by decide +kernel
theorem dX10_isClosed_2 : decode cX10_isClosed 2 = .ok (.invokevirtual 166, 3) := by decide +kernel
theorem dX10_isClosed_5 : decode cX10_isClosed 5 = .ok (.iconst 1, 1) := by decide +kernel
theorem dX10_isClosed_6 : decode cX10_isClosed 6 = .ok (.istore_n 2, 1) := by decide +kernel
theorem dX10_isClosed_7 : decode cX10_isClosed 7 = .ok (.iconst 0, 1) := by decide +kernel
theorem dX10_isClosed_8 : decode cX10_isClosed 8 = .ok (.istore_n 3, 1) := by decide +kernel
theorem dX10_isClosed_9 : decode cX10_isClosed 9 = .ok (.iload_n 3, 1) := by decide +kernel
theorem dX10_isClosed_10 : decode cX10_isClosed 10 = .ok (.bipush 100, 2) := by decide +kernel
theorem dX10_isClosed_12 : decode cX10_isClosed 12 = .ok (.if_icmp .ge 50, 3) := by decide +kernel
theorem dX10_isClosed_15 : decode cX10_isClosed 15 = .ok (.iload_n 2, 1) := by decide +kernel
theorem dX10_isClosed_16 : decode cX10_isClosed 16 = .ok (.ifCond .eq 38, 3) := by decide +kernel
theorem dX10_isClosed_19 : decode cX10_isClosed 19 = .ok (.aload_n 0, 1) := by decide +kernel
theorem dX10_isClosed_20 : decode cX10_isClosed 20 = .ok (.iload_n 3, 1) := by decide +kernel
theorem dX10_isClosed_21 : decode cX10_isClosed 21 = .ok (.bipush 10, 2) := by decide +kernel
theorem dX10_isClosed_23 : decode cX10_isClosed 23 = .ok (.idiv, 1) := by decide +kernel
theorem dX10_isClosed_24 : decode cX10_isClosed 24 = .ok (.iload_n 3, 1) := by decide +kernel
theorem dX10_isClosed_25 : decode cX10_isClosed 25 = .ok (.bipush 10, 2) := by decide +kernel
theorem dX10_isClosed_27 : decode cX10_isClosed 27 = .ok (.irem, 1) := by decide +kernel
theorem dX10_isClosed_28 : decode cX10_isClosed 28 = .ok (.invokevirtual 163, 3) := by decide +kernel
theorem dX10_isClosed_31 : decode cX10_isClosed 31 = .ok (.ifCond .eq 19, 3) := by decide +kernel
theorem dX10_isClosed_34 : decode cX10_isClosed 34 = .ok (.aload_n 0, 1) := by decide +kernel
theorem dX10_isClosed_35 : decode cX10_isClosed 35 = .ok (.iload_n 1, 1) := by decide +kernel
theorem dX10_isClosed_36 : decode cX10_isClosed 36 = .ok (.iload_n 3, 1) := by decide +kernel
theorem dX10_isClosed_37 : decode cX10_isClosed 37 = .ok (.bipush 10, 2) := by decide +kernel
theorem dX10_isClosed_39 : decode cX10_isClosed 39 = .ok (.idiv, 1) := by decide +kernel
theorem dX10_isClosed_40 : decode cX10_isClosed 40 = .ok (.iload_n 3, 1) := by decide +kernel
theorem dX10_isClosed_41 : decode cX10_isClosed 41 = .ok (.bipush 10, 2) := by decide +kernel
theorem dX10_isClosed_43 : decode cX10_isClosed 43 = .ok (.irem, 1) := by decide +kernel
theorem dX10_isClosed_44 : decode cX10_isClosed 44 = .ok (.invokevirtual 234, 3) := by decide +kernel
theorem dX10_isClosed_47 : decode cX10_isClosed 47 = .ok (.ifCond .eq 7, 3) := by decide +kernel
theorem dX10_isClosed_50 : decode cX10_isClosed 50 = .ok (.iconst 1, 1) := by decide +kernel
theorem dX10_isClosed_51 : decode cX10_isClosed 51 = .ok (.goto 4, 3) := by decide +kernel
theorem dX10_isClosed_54 : decode cX10_isClosed 54 = .ok (.iconst 0, 1) := by decide +kernel
theorem dX10_isClosed_55 : decode cX10_isClosed 55 = .ok (.istore_n 2, 1) := by decide +kernel
theorem dX10_isClosed_56 : decode cX10_isClosed 56 = .ok (.iinc 3 1, 3) := by decide +kernel
theorem dX10_isClosed_59 : decode cX10_isClosed 59 = .ok (.goto (-50), 3) := by decide +kernel
theorem dX10_isClosed_62 : decode cX10_isClosed 62 = .ok (.iload_n 2, 1) := by decide +kernel
theorem dX10_isClosed_63 : decode cX10_isClosed 63 = .ok (.ireturn, 1) := by decide +kernel
theorem dX10_isLeast_0 : decode cX10_isLeast 0 = .ok (.iconst 1, 1) := by decide +kernel
theorem dX10_isLeast_1 : decode cX10_isLeast 1 = .ok (.istore_n 3, 1) := by decide +kernel
theorem dX10_isLeast_2 : decode cX10_isLeast 2 = .ok (.iconst 0, 1) := by decide +kernel
theorem dX10_isLeast_3 : decode cX10_isLeast 3 = .ok (.istore 4, 2) := by decide +kernel
theorem dX10_isLeast_5 : decode cX10_isLeast 5 = .ok (.iload 4, 2) := by decide +kernel
theorem dX10_isLeast_7 : decode cX10_isLeast 7 = .ok (.aload_n 0, 1) := by decide +kernel
theorem dX10_isLeast_8 : decode cX10_isLeast 8 = .ok (.getfield 11, 3) := by decide +kernel
theorem dX10_isLeast_11 : decode cX10_isLeast 11 = .ok (.iload_n 1, 1) := by decide +kernel
theorem dX10_isLeast_12 : decode cX10_isLeast 12 = .ok (.iaload, 1) := by decide +kernel
theorem dX10_isLeast_13 : decode cX10_isLeast 13 = .ok (.if_icmp .ge 57, 3) := by decide +kernel
theorem dX10_isLeast_16 : decode cX10_isLeast 16 = .ok (.iload_n 3, 1) := by decide +kernel
theorem dX10_isLeast_17 : decode cX10_isLeast 17 = .ok (.ifCond .eq 45, 3) := by decide +kernel
theorem dX10_isLeast_20 : decode cX10_isLeast 20 = .ok (.iload 4, 2) := by decide +kernel
theorem dX10_isLeast_22 : decode cX10_isLeast 22 = .ok (.iload_n 2, 1) := by decide +kernel
theorem dX10_isLeast_23 : decode cX10_isLeast 23 = .ok (.if_icmp .eq 35, 3) := by decide +kernel
theorem dX10_isLeast_26 : decode cX10_isLeast 26 = .ok (.aload_n 0, 1) := by decide +kernel
theorem dX10_isLeast_27 : decode cX10_isLeast 27 = .ok (.iload_n 1, 1) := by decide +kernel
theorem dX10_isLeast_28 : decode cX10_isLeast 28 = .ok (.iload 4, 2) := by decide +kernel
theorem dX10_isLeast_30 : decode cX10_isLeast 30 = .ok (.invokevirtual 125, 3) := by decide +kernel
theorem dX10_isLeast_33 : decode cX10_isLeast 33 = .ok (.aload_n 0, 1) := by decide +kernel
theorem dX10_isLeast_34 : decode cX10_isLeast 34 = .ok (.iload_n 1, 1) := by decide +kernel
theorem dX10_isLeast_35 : decode cX10_isLeast 35 = .ok (.iload_n 2, 1) := by decide +kernel
theorem dX10_isLeast_36 : decode cX10_isLeast 36 = .ok (.invokevirtual 125, 3) := by decide +kernel
theorem dX10_isLeast_39 : decode cX10_isLeast 39 = .ok (.if_icmp .gt 19, 3) := by decide +kernel
theorem dX10_isLeast_42 : decode cX10_isLeast 42 = .ok (.aload_n 0, 1) := by decide +kernel
theorem dX10_isLeast_43 : decode cX10_isLeast 43 = .ok (.iload_n 1, 1) := by decide +kernel
theorem dX10_isLeast_44 : decode cX10_isLeast 44 = .ok (.iload 4, 2) := by decide +kernel
theorem dX10_isLeast_46 : decode cX10_isLeast 46 = .ok (.invokevirtual 129, 3) := by decide +kernel
theorem dX10_isLeast_49 : decode cX10_isLeast 49 = .ok (.aload_n 0, 1) := by decide +kernel
theorem dX10_isLeast_50 : decode cX10_isLeast 50 = .ok (.iload_n 1, 1) := by decide +kernel
theorem dX10_isLeast_51 : decode cX10_isLeast 51 = .ok (.iload_n 2, 1) := by decide +kernel
theorem dX10_isLeast_52 : decode cX10_isLeast 52 = .ok (.invokevirtual 129, 3) := by decide +kernel
theorem dX10_isLeast_55 : decode cX10_isLeast 55 = .ok (.if_icmp .le 7, 3) := by decide +kernel
theorem dX10_isLeast_58 : decode cX10_isLeast 58 = .ok (.iconst 1, 1) := by decide +kernel
theorem dX10_isLeast_59 : decode cX10_isLeast 59 = .ok (.goto 4, 3) := by decide +kernel
theorem dX10_isLeast_62 : decode cX10_isLeast 62 = .ok (.iconst 0, 1) := by decide +kernel
theorem dX10_isLeast_63 : decode cX10_isLeast 63 = .ok (.istore_n 3, 1) := by decide +kernel
theorem dX10_isLeast_64 : decode cX10_isLeast 64 = .ok (.iinc 4 1, 3) := by decide +kernel
theorem dX10_isLeast_67 : decode cX10_isLeast 67 = .ok (.goto (-62), 3) := by decide +kernel
theorem dX10_isLeast_70 : decode cX10_isLeast 70 = .ok (.iload_n 3, 1) := by decide +kernel
theorem dX10_isLeast_71 : decode cX10_isLeast 71 = .ok (.ireturn, 1) := by decide +kernel
theorem dX10_leastMany_0 : decode cX10_leastMany 0 = .ok (.iconst 0, 1) := by decide +kernel
theorem dX10_leastMany_1 : decode cX10_leastMany 1 = .ok (.istore_n 2, 1) := by decide +kernel
theorem dX10_leastMany_2 : decode cX10_leastMany 2 = .ok (.iconst 0, 1) := by decide +kernel
theorem dX10_leastMany_3 : decode cX10_leastMany 3 = .ok (.istore_n 3, 1) := by decide +kernel
theorem dX10_leastMany_4 : decode cX10_leastMany 4 = .ok (.iload_n 3, 1) := by decide +kernel
theorem dX10_leastMany_5 : decode cX10_leastMany 5 = .ok (.aload_n 0, 1) := by decide +kernel
theorem dX10_leastMany_6 : decode cX10_leastMany 6 = .ok (.getfield 11, 3) := by decide +kernel
theorem dX10_leastMany_9 : decode cX10_leastMany 9 = .ok (.iload_n 1, 1) := by decide +kernel
theorem dX10_leastMany_10 : decode cX10_leastMany 10 = .ok (.iaload, 1) := by decide +kernel
theorem dX10_leastMany_11 : decode cX10_leastMany 11 = .ok (.if_icmp .ge 26, 3) := by decide +kernel
theorem dX10_leastMany_14 : decode cX10_leastMany 14 = .ok (.iload_n 2, 1) := by decide +kernel
theorem dX10_leastMany_15 : decode cX10_leastMany 15 = .ok (.aload_n 0, 1) := by decide +kernel
theorem dX10_leastMany_16 : decode cX10_leastMany 16 = .ok (.iload_n 1, 1) := by decide +kernel
theorem dX10_leastMany_17 : decode cX10_leastMany 17 = .ok (.iload_n 3, 1) := by decide +kernel
theorem dX10_leastMany_18 : decode cX10_leastMany 18 = .ok (.invokevirtual 238, 3) := by decide +kernel
theorem dX10_leastMany_21 : decode cX10_leastMany 21 = .ok (.ifCond .eq 7, 3) := by decide +kernel
theorem dX10_leastMany_24 : decode cX10_leastMany 24 = .ok (.iconst 1, 1) := by decide +kernel
theorem dX10_leastMany_25 : decode cX10_leastMany 25 = .ok (.goto 4, 3) := by decide +kernel
theorem dX10_leastMany_28 : decode cX10_leastMany 28 = .ok (.iconst 0, 1) := by decide +kernel
theorem dX10_leastMany_29 : decode cX10_leastMany 29 = .ok (.iadd, 1) := by decide +kernel
theorem dX10_leastMany_30 : decode cX10_leastMany 30 = .ok (.istore_n 2, 1) := by decide +kernel
theorem dX10_leastMany_31 : decode cX10_leastMany 31 = .ok (.iinc 3 1, 3) := by decide +kernel
theorem dX10_leastMany_34 : decode cX10_leastMany 34 = .ok (.goto (-30), 3) := by decide +kernel
theorem dX10_leastMany_37 : decode cX10_leastMany 37 = .ok (.iload_n 2, 1) := by decide +kernel
theorem dX10_leastMany_38 : decode cX10_leastMany 38 = .ok (.ireturn, 1) := by decide +kernel
theorem dX10_of_0 : decode cX10_of 0 = .ok (.aload_n 0, 1) := by decide +kernel
theorem dX10_of_1 : decode cX10_of 1 = .ok (.iload_n 1, 1) := by decide +kernel
theorem dX10_of_2 : decode cX10_of 2 = .ok (.iload_n 2, 1) := by decide +kernel
theorem dX10_of_3 : decode cX10_of 3 = .ok (.invokevirtual 155, 3) := by decide +kernel
theorem dX10_of_6 : decode cX10_of 6 = .ok (.ifCond .eq 15, 3) := by decide +kernel
theorem dX10_of_9 : decode cX10_of 9 = .ok (.iload_n 3, 1) := by decide +kernel
theorem dX10_of_10 : decode cX10_of 10 = .ok (.i2l, 1) := by decide +kernel
theorem dX10_of_11 : decode cX10_of 11 = .ok (.lconst 0, 1) := by decide +kernel
theorem dX10_of_12 : decode cX10_of 12 = .ok (.ldc2_w 241, 3) := by decide +kernel
theorem dX10_of_15 : decode cX10_of 15 = .ok (.invokestatic 115, 3) := by decide +kernel
theorem dX10_of_18 : decode cX10_of 18 = .ok (.ifCond .ne 5, 3) := by decide +kernel
theorem dX10_of_21 : decode cX10_of 21 = .ok (.iconst (-1), 1) := by decide +kernel
theorem dX10_of_22 : decode cX10_of 22 = .ok (.ireturn, 1) := by decide +kernel
theorem dX10_of_23 : decode cX10_of 23 = .ok (.iload_n 3, 1) := by decide +kernel
theorem dX10_of_24 : decode cX10_of 24 = .ok (.ifCond .ne 12, 3) := by decide +kernel
theorem dX10_of_27 : decode cX10_of 27 = .ok (.aload_n 0, 1) := by decide +kernel
theorem dX10_of_28 : decode cX10_of 28 = .ok (.iload_n 1, 1) := by decide +kernel
theorem dX10_of_29 : decode cX10_of 29 = .ok (.iload_n 2, 1) := by decide +kernel
theorem dX10_of_30 : decode cX10_of 30 = .ok (.invokevirtual 125, 3) := by decide +kernel
theorem dX10_of_33 : decode cX10_of 33 = .ok (.goto 31, 3) := by decide +kernel
theorem dX10_of_36 : decode cX10_of 36 = .ok (.iload_n 3, 1) := by decide +kernel
theorem dX10_of_37 : decode cX10_of 37 = .ok (.iconst 1, 1) := by decide +kernel
theorem dX10_of_38 : decode cX10_of 38 = .ok (.if_icmp .ne 12, 3) := by decide +kernel
theorem dX10_of_41 : decode cX10_of 41 = .ok (.aload_n 0, 1) := by decide +kernel
theorem dX10_of_42 : decode cX10_of 42 = .ok (.iload_n 1, 1) := by decide +kernel
theorem dX10_of_43 : decode cX10_of 43 = .ok (.iload_n 2, 1) := by decide +kernel
theorem dX10_of_44 : decode cX10_of 44 = .ok (.invokevirtual 129, 3) := by decide +kernel
theorem dX10_of_47 : decode cX10_of 47 = .ok (.goto 17, 3) := by decide +kernel
theorem dX10_of_50 : decode cX10_of 50 = .ok (.aload_n 0, 1) := by decide +kernel
theorem dX10_of_51 : decode cX10_of 51 = .ok (.iload_n 1, 1) := by decide +kernel
theorem dX10_of_52 : decode cX10_of 52 = .ok (.iload_n 2, 1) := by decide +kernel
theorem dX10_of_53 : decode cX10_of 53 = .ok (.invokevirtual 238, 3) := by decide +kernel
theorem dX10_of_56 : decode cX10_of 56 = .ok (.ifCond .eq 7, 3) := by decide +kernel
theorem dX10_of_59 : decode cX10_of 59 = .ok (.iconst 1, 1) := by decide +kernel
theorem dX10_of_60 : decode cX10_of 60 = .ok (.goto 4, 3) := by decide +kernel
theorem dX10_of_63 : decode cX10_of 63 = .ok (.iconst 0, 1) := by decide +kernel
theorem dX10_of_64 : decode cX10_of 64 = .ok (.ireturn, 1) := by decide +kernel
theorem dX10_told_0 : decode cX10_told 0 = .ok (.iload_n 1, 1) := by decide +kernel
theorem dX10_told_1 : decode cX10_told 1 = .ok (.invokestatic 136, 3) := by decide +kernel
theorem dX10_told_4 : decode cX10_told 4 = .ok (.ifCond .eq 15, 3) := by decide +kernel
theorem dX10_told_7 : decode cX10_told 7 = .ok (.iload_n 2, 1) := by decide +kernel
theorem dX10_told_8 : decode cX10_told 8 = .ok (.i2l, 1) := by decide +kernel
theorem dX10_told_9 : decode cX10_told 9 = .ok (.lconst 0, 1) := by decide +kernel
theorem dX10_told_10 : decode cX10_told 10 = .ok (.ldc2_w 243, 3) := by decide +kernel
theorem dX10_told_13 : decode cX10_told 13 = .ok (.invokestatic 115, 3) := by decide +kernel
theorem dX10_told_16 : decode cX10_told 16 = .ok (.ifCond .ne 5, 3) := by decide +kernel
theorem dX10_told_19 : decode cX10_told 19 = .ok (.iconst (-1), 1) := by decide +kernel
theorem dX10_told_20 : decode cX10_told 20 = .ok (.ireturn, 1) := by decide +kernel
theorem dX10_told_21 : decode cX10_told 21 = .ok (.iload_n 2, 1) := by decide +kernel
theorem dX10_told_22 : decode cX10_told 22 = .ok (.iconst 2, 1) := by decide +kernel
theorem dX10_told_23 : decode cX10_told 23 = .ok (.if_icmp .ge 22, 3) := by decide +kernel
theorem dX10_told_26 : decode cX10_told 26 = .ok (.iload_n 2, 1) := by decide +kernel
theorem dX10_told_27 : decode cX10_told 27 = .ok (.ifCond .ne 12, 3) := by decide +kernel
theorem dX10_told_30 : decode cX10_told 30 = .ok (.aload_n 0, 1) := by decide +kernel
theorem dX10_told_31 : decode cX10_told 31 = .ok (.getfield 11, 3) := by decide +kernel
theorem dX10_told_34 : decode cX10_told 34 = .ok (.iload_n 1, 1) := by decide +kernel
theorem dX10_told_35 : decode cX10_told 35 = .ok (.iaload, 1) := by decide +kernel
theorem dX10_told_36 : decode cX10_told 36 = .ok (.goto 8, 3) := by decide +kernel
theorem dX10_told_39 : decode cX10_told 39 = .ok (.aload_n 0, 1) := by decide +kernel
theorem dX10_told_40 : decode cX10_told 40 = .ok (.iload_n 1, 1) := by decide +kernel
theorem dX10_told_41 : decode cX10_told 41 = .ok (.invokevirtual 245, 3) := by decide +kernel
theorem dX10_told_44 : decode cX10_told 44 = .ok (.ireturn, 1) := by decide +kernel
theorem dX10_told_45 : decode cX10_told 45 = .ok (.aload_n 0, 1) := by decide +kernel
theorem dX10_told_46 : decode cX10_told 46 = .ok (.getfield 11, 3) := by decide +kernel
theorem dX10_told_49 : decode cX10_told 49 = .ok (.iload_n 1, 1) := by decide +kernel
theorem dX10_told_50 : decode cX10_told 50 = .ok (.iaload, 1) := by decide +kernel
theorem dX10_told_51 : decode cX10_told 51 = .ok (.ifCond .ne 6, 3) := by decide +kernel
theorem dX10_told_54 : decode cX10_told 54 = .ok (.bipush (-3), 2) := by decide +kernel
theorem dX10_told_56 : decode cX10_told 56 = .ok (.ireturn, 1) := by decide +kernel
theorem dX10_told_57 : decode cX10_told 57 = .ok (.aload_n 0, 1) := by decide +kernel
theorem dX10_told_58 : decode cX10_told 58 = .ok (.iload_n 1, 1) := by decide +kernel
theorem dX10_told_59 : decode cX10_told 59 = .ok (.iload_n 2, 1) := by decide +kernel
theorem dX10_told_60 : decode cX10_told 60 = .ok (.invokevirtual 248, 3) := by decide +kernel
theorem dX10_told_63 : decode cX10_told 63 = .ok (.ireturn, 1) := by decide +kernel
theorem dX10_asked_0 : decode cX10_asked 0 = .ok (.iload_n 2, 1) := by decide +kernel
theorem dX10_asked_1 : decode cX10_asked 1 = .ok (.iconst 3, 1) := by decide +kernel
theorem dX10_asked_2 : decode cX10_asked 2 = .ok (.if_icmp .ne 17, 3) := by decide +kernel
theorem dX10_asked_5 : decode cX10_asked 5 = .ok (.aload_n 0, 1) := by decide +kernel
theorem dX10_asked_6 : decode cX10_asked 6 = .ok (.iload_n 1, 1) := by decide +kernel
theorem dX10_asked_7 : decode cX10_asked 7 = .ok (.invokevirtual 251, 3) := by decide +kernel
theorem dX10_asked_10 : decode cX10_asked 10 = .ok (.ifCond .eq 7, 3) := by decide +kernel
theorem dX10_asked_13 : decode cX10_asked 13 = .ok (.iconst 1, 1) := by decide +kernel
theorem dX10_asked_14 : decode cX10_asked 14 = .ok (.goto 4, 3) := by decide +kernel
theorem dX10_asked_17 : decode cX10_asked 17 = .ok (.iconst 0, 1) := by decide +kernel
theorem dX10_asked_18 : decode cX10_asked 18 = .ok (.ireturn, 1) := by decide +kernel
theorem dX10_asked_19 : decode cX10_asked 19 = .ok (.aload_n 0, 1) := by decide +kernel
theorem dX10_asked_20 : decode cX10_asked 20 = .ok (.iload_n 1, 1) := by decide +kernel
theorem dX10_asked_21 : decode cX10_asked 21 = .ok (.invokevirtual 166, 3) := by decide +kernel
theorem dX10_asked_24 : decode cX10_asked 24 = .ok (.iload_n 2, 1) := by decide +kernel
theorem dX10_asked_25 : decode cX10_asked 25 = .ok (.iconst 2, 1) := by decide +kernel
theorem dX10_asked_26 : decode cX10_asked 26 = .ok (.if_icmp .ne 8, 3) := by decide +kernel
theorem dX10_asked_29 : decode cX10_asked 29 = .ok (.aload_n 0, 1) := by decide +kernel
theorem dX10_asked_30 : decode cX10_asked 30 = .ok (.getfield 221, 3) := by decide +kernel
theorem dX10_asked_33 : decode cX10_asked 33 = .ok (.ireturn, 1) := by decide +kernel
theorem dX10_asked_34 : decode cX10_asked 34 = .ok (.aload_n 0, 1) := by decide +kernel
theorem dX10_asked_35 : decode cX10_asked 35 = .ok (.invokevirtual 254, 3) := by decide +kernel
theorem dX10_asked_38 : decode cX10_asked 38 = .ok (.aload_n 0, 1) := by decide +kernel
theorem dX10_asked_39 : decode cX10_asked 39 = .ok (.getfield 257, 3) := by decide +kernel
theorem dX10_asked_42 : decode cX10_asked 42 = .ok (.ireturn, 1) := by decide +kernel
theorem dX10_in_0 : decode cX10_in 0 = .ok (.iload_n 1, 1) := by decide +kernel
theorem dX10_in_1 : decode cX10_in 1 = .ok (.invokestatic 136, 3) := by decide +kernel
theorem dX10_in_4 : decode cX10_in 4 = .ok (.ifCond .eq 14, 3) := by decide +kernel
theorem dX10_in_7 : decode cX10_in 7 = .ok (.iload 4, 2) := by decide +kernel
theorem dX10_in_9 : decode cX10_in 9 = .ok (.i2l, 1) := by decide +kernel
theorem dX10_in_10 : decode cX10_in 10 = .ok (.lconst 0, 1) := by decide +kernel
theorem dX10_in_11 : decode cX10_in 11 = .ok (.lconst 1, 1) := by decide +kernel
theorem dX10_in_12 : decode cX10_in 12 = .ok (.invokestatic 115, 3) := by decide +kernel
theorem dX10_in_15 : decode cX10_in 15 = .ok (.ifCond .ne 5, 3) := by decide +kernel
theorem dX10_in_18 : decode cX10_in 18 = .ok (.iconst (-1), 1) := by decide +kernel
theorem dX10_in_19 : decode cX10_in 19 = .ok (.ireturn, 1) := by decide +kernel
theorem dX10_in_20 : decode cX10_in 20 = .ok (.iload_n 2, 1) := by decide +kernel
theorem dX10_in_21 : decode cX10_in 21 = .ok (.invokestatic 140, 3) := by decide +kernel
theorem dX10_in_24 : decode cX10_in 24 = .ok (.ifCond .eq 10, 3) := by decide +kernel
theorem dX10_in_27 : decode cX10_in 27 = .ok (.iload_n 3, 1) := by decide +kernel
theorem dX10_in_28 : decode cX10_in 28 = .ok (.invokestatic 140, 3) := by decide +kernel
theorem dX10_in_31 : decode cX10_in 31 = .ok (.ifCond .ne 6, 3) := by decide +kernel
theorem dX10_in_34 : decode cX10_in 34 = .ok (.bipush (-2), 2) := by decide +kernel
theorem dX10_in_36 : decode cX10_in 36 = .ok (.ireturn, 1) := by decide +kernel
theorem dX10_in_37 : decode cX10_in 37 = .ok (.iload 4, 2) := by decide +kernel
theorem dX10_in_39 : decode cX10_in 39 = .ok (.ifCond .ne 19, 3) := by decide +kernel
theorem dX10_in_42 : decode cX10_in 42 = .ok (.aload_n 0, 1) := by decide +kernel
theorem dX10_in_43 : decode cX10_in 43 = .ok (.iload_n 1, 1) := by decide +kernel
theorem dX10_in_44 : decode cX10_in 44 = .ok (.iload_n 2, 1) := by decide +kernel
theorem dX10_in_45 : decode cX10_in 45 = .ok (.iload_n 3, 1) := by decide +kernel
theorem dX10_in_46 : decode cX10_in 46 = .ok (.invokevirtual 234, 3) := by decide +kernel
theorem dX10_in_49 : decode cX10_in 49 = .ok (.ifCond .eq 7, 3) := by decide +kernel
theorem dX10_in_52 : decode cX10_in 52 = .ok (.iconst 1, 1) := by decide +kernel
theorem dX10_in_53 : decode cX10_in 53 = .ok (.goto 4, 3) := by decide +kernel
theorem dX10_in_56 : decode cX10_in 56 = .ok (.iconst 0, 1) := by decide +kernel
theorem dX10_in_57 : decode cX10_in 57 = .ok (.ireturn, 1) := by decide +kernel
theorem dX10_in_58 : decode cX10_in 58 = .ok (.aload_n 0, 1) := by decide +kernel
theorem dX10_in_59 : decode cX10_in 59 = .ok (.getfield 11, 3) := by decide +kernel
theorem dX10_in_62 : decode cX10_in 62 = .ok (.iload_n 1, 1) := by decide +kernel
theorem dX10_in_63 : decode cX10_in 63 = .ok (.iaload, 1) := by decide +kernel
theorem dX10_in_64 : decode cX10_in 64 = .ok (.ifCond .ne 6, 3) := by decide +kernel
theorem dX10_in_67 : decode cX10_in 67 = .ok (.bipush (-3), 2) := by decide +kernel
theorem dX10_in_69 : decode cX10_in 69 = .ok (.ireturn, 1) := by decide +kernel
theorem dX10_in_70 : decode cX10_in 70 = .ok (.aload_n 0, 1) := by decide +kernel
theorem dX10_in_71 : decode cX10_in 71 = .ok (.iload_n 1, 1) := by decide +kernel
theorem dX10_in_72 : decode cX10_in 72 = .ok (.invokevirtual 166, 3) := by decide +kernel
theorem dX10_in_75 : decode cX10_in 75 = .ok (.aload_n 0, 1) := by decide +kernel
theorem dX10_in_76 : decode cX10_in 76 = .ok (.iload_n 2, 1) := by decide +kernel
theorem dX10_in_77 : decode cX10_in 77 = .ok (.iload_n 3, 1) := by decide +kernel
theorem dX10_in_78 : decode cX10_in 78 = .ok (.invokevirtual 163, 3) := by decide +kernel
theorem dX10_in_81 : decode cX10_in 81 = .ok (.ifCond .eq 7, 3) := by decide +kernel
theorem dX10_in_84 : decode cX10_in 84 = .ok (.iconst 1, 1) := by decide +kernel
theorem dX10_in_85 : decode cX10_in 85 = .ok (.goto 4, 3) := by decide +kernel
theorem dX10_in_88 : decode cX10_in 88 = .ok (.iconst 0, 1) := by decide +kernel
theorem dX10_in_89 : decode cX10_in 89 = .ok (.ireturn, 1) := by decide +kernel
theorem dX10_face_0 : decode cX10_face 0 = .ok (.iload_n 1, 1) := by decide +kernel
theorem dX10_face_1 : decode cX10_face 1 = .ok (.invokestatic 136, 3) := by decide +kernel
theorem dX10_face_4 : decode cX10_face 4 = .ok (.ifCond .ne 5, 3) := by decide +kernel
theorem dX10_face_7 : decode cX10_face 7 = .ok (.iconst (-1), 1) := by decide +kernel
theorem dX10_face_8 : decode cX10_face 8 = .ok (.ireturn, 1) := by decide +kernel
theorem dX10_face_9 : decode cX10_face 9 = .ok (.aload_n 0, 1) := by decide +kernel
theorem dX10_face_10 : decode cX10_face 10 = .ok (.getfield 11, 3) := by decide +kernel
theorem dX10_face_13 : decode cX10_face 13 = .ok (.iload_n 1, 1) := by decide +kernel
theorem dX10_face_14 : decode cX10_face 14 = .ok (.iaload, 1) := by decide +kernel
theorem dX10_face_15 : decode cX10_face 15 = .ok (.ifCond .ne 6, 3) := by decide +kernel
theorem dX10_face_18 : decode cX10_face 18 = .ok (.bipush (-3), 2) := by decide +kernel
theorem dX10_face_20 : decode cX10_face 20 = .ok (.ireturn, 1) := by decide +kernel
theorem dX10_face_21 : decode cX10_face 21 = .ok (.aload_n 0, 1) := by decide +kernel
theorem dX10_face_22 : decode cX10_face 22 = .ok (.iload_n 1, 1) := by decide +kernel
theorem dX10_face_23 : decode cX10_face 23 = .ok (.invokevirtual 166, 3) := by decide +kernel
theorem dX10_face_26 : decode cX10_face 26 = .ok (.iload_n 2, 1) := by decide +kernel
theorem dX10_face_27 : decode cX10_face 27 = .ok (.i2l, 1) := by decide +kernel
theorem dX10_face_28 : decode cX10_face 28 = .ok (.lconst 0, 1) := by decide +kernel
theorem dX10_face_29 : decode cX10_face 29 = .ok (.aload_n 0, 1) := by decide +kernel
theorem dX10_face_30 : decode cX10_face 30 = .ok (.getfield 221, 3) := by decide +kernel
theorem dX10_face_33 : decode cX10_face 33 = .ok (.iconst 1, 1) := by decide +kernel
theorem dX10_face_34 : decode cX10_face 34 = .ok (.isub, 1) := by decide +kernel
theorem dX10_face_35 : decode cX10_face 35 = .ok (.i2l, 1) := by decide +kernel
theorem dX10_face_36 : decode cX10_face 36 = .ok (.invokestatic 115, 3) := by decide +kernel
theorem dX10_face_39 : decode cX10_face 39 = .ok (.ifCond .eq 15, 3) := by decide +kernel
theorem dX10_face_42 : decode cX10_face 42 = .ok (.iload_n 3, 1) := by decide +kernel
theorem dX10_face_43 : decode cX10_face 43 = .ok (.i2l, 1) := by decide +kernel
theorem dX10_face_44 : decode cX10_face 44 = .ok (.lconst 0, 1) := by decide +kernel
theorem dX10_face_45 : decode cX10_face 45 = .ok (.ldc2_w 241, 3) := by decide +kernel
theorem dX10_face_48 : decode cX10_face 48 = .ok (.invokestatic 115, 3) := by decide +kernel
theorem dX10_face_51 : decode cX10_face 51 = .ok (.ifCond .ne 5, 3) := by decide +kernel
theorem dX10_face_54 : decode cX10_face 54 = .ok (.iconst (-1), 1) := by decide +kernel
theorem dX10_face_55 : decode cX10_face 55 = .ok (.ireturn, 1) := by decide +kernel
theorem dX10_face_56 : decode cX10_face 56 = .ok (.iload_n 3, 1) := by decide +kernel
theorem dX10_face_57 : decode cX10_face 57 = .ok (.ifCond .ne 12, 3) := by decide +kernel
theorem dX10_face_60 : decode cX10_face 60 = .ok (.aload_n 0, 1) := by decide +kernel
theorem dX10_face_61 : decode cX10_face 61 = .ok (.getfield 39, 3) := by decide +kernel
theorem dX10_face_64 : decode cX10_face 64 = .ok (.iload_n 2, 1) := by decide +kernel
theorem dX10_face_65 : decode cX10_face 65 = .ok (.iaload, 1) := by decide +kernel
theorem dX10_face_66 : decode cX10_face 66 = .ok (.goto 23, 3) := by decide +kernel
theorem dX10_face_69 : decode cX10_face 69 = .ok (.iload_n 3, 1) := by decide +kernel
theorem dX10_face_70 : decode cX10_face 70 = .ok (.iconst 1, 1) := by decide +kernel
theorem dX10_face_71 : decode cX10_face 71 = .ok (.if_icmp .ne 12, 3) := by decide +kernel
theorem dX10_face_74 : decode cX10_face 74 = .ok (.aload_n 0, 1) := by decide +kernel
theorem dX10_face_75 : decode cX10_face 75 = .ok (.getfield 42, 3) := by decide +kernel
theorem dX10_face_78 : decode cX10_face 78 = .ok (.iload_n 2, 1) := by decide +kernel
theorem dX10_face_79 : decode cX10_face 79 = .ok (.iaload, 1) := by decide +kernel
theorem dX10_face_80 : decode cX10_face 80 = .ok (.goto 9, 3) := by decide +kernel
theorem dX10_face_83 : decode cX10_face 83 = .ok (.aload_n 0, 1) := by decide +kernel
theorem dX10_face_84 : decode cX10_face 84 = .ok (.getfield 45, 3) := by decide +kernel
theorem dX10_face_87 : decode cX10_face 87 = .ok (.iload_n 2, 1) := by decide +kernel
theorem dX10_face_88 : decode cX10_face 88 = .ok (.iaload, 1) := by decide +kernel
theorem dX10_face_89 : decode cX10_face 89 = .ok (.ireturn, 1) := by decide +kernel
theorem dX10_heavy_0 : decode cX10_heavy 0 = .ok (.aload_n 0, 1) := by decide +kernel
theorem dX10_heavy_1 : decode cX10_heavy 1 = .ok (.getfield 39, 3) := by decide +kernel
theorem dX10_heavy_4 : decode cX10_heavy 4 = .ok (.iload_n 1, 1) := by decide +kernel
theorem dX10_heavy_5 : decode cX10_heavy 5 = .ok (.iaload, 1) := by decide +kernel
theorem dX10_heavy_6 : decode cX10_heavy 6 = .ok (.iload_n 2, 1) := by decide +kernel
theorem dX10_heavy_7 : decode cX10_heavy 7 = .ok (.iconst 1, 1) := by decide +kernel
theorem dX10_heavy_8 : decode cX10_heavy 8 = .ok (.iadd, 1) := by decide +kernel
theorem dX10_heavy_9 : decode cX10_heavy 9 = .ok (.imul, 1) := by decide +kernel
theorem dX10_heavy_10 : decode cX10_heavy 10 = .ok (.aload_n 0, 1) := by decide +kernel
theorem dX10_heavy_11 : decode cX10_heavy 11 = .ok (.getfield 42, 3) := by decide +kernel
theorem dX10_heavy_14 : decode cX10_heavy 14 = .ok (.iload_n 1, 1) := by decide +kernel
theorem dX10_heavy_15 : decode cX10_heavy 15 = .ok (.iaload, 1) := by decide +kernel
theorem dX10_heavy_16 : decode cX10_heavy 16 = .ok (.iload_n 3, 1) := by decide +kernel
theorem dX10_heavy_17 : decode cX10_heavy 17 = .ok (.iconst 1, 1) := by decide +kernel
theorem dX10_heavy_18 : decode cX10_heavy 18 = .ok (.iadd, 1) := by decide +kernel
theorem dX10_heavy_19 : decode cX10_heavy 19 = .ok (.imul, 1) := by decide +kernel
theorem dX10_heavy_20 : decode cX10_heavy 20 = .ok (.iadd, 1) := by decide +kernel
theorem dX10_heavy_21 : decode cX10_heavy 21 = .ok (.ireturn, 1) := by decide +kernel
theorem dX10_barring_0 : decode cX10_barring 0 = .ok (.iconst 0, 1) := by decide +kernel
theorem dX10_barring_1 : decode cX10_barring 1 = .ok (.istore 5, 2) := by decide +kernel
theorem dX10_barring_3 : decode cX10_barring 3 = .ok (.iload 5, 2) := by decide +kernel
theorem dX10_barring_5 : decode cX10_barring 5 = .ok (.aload_n 0, 1) := by decide +kernel
theorem dX10_barring_6 : decode cX10_barring 6 = .ok (.getfield 221, 3) := by decide +kernel
theorem dX10_barring_9 : decode cX10_barring 9 = .ok (.if_icmp .ge 45, 3) := by decide +kernel
theorem dX10_barring_12 : decode cX10_barring 12 = .ok (.aload_n 0, 1) := by decide +kernel
theorem dX10_barring_13 : decode cX10_barring 13 = .ok (.getfield 45, 3) := by decide +kernel
theorem dX10_barring_16 : decode cX10_barring 16 = .ok (.iload 5, 2) := by decide +kernel
theorem dX10_barring_18 : decode cX10_barring 18 = .ok (.iaload, 1) := by decide +kernel
theorem dX10_barring_19 : decode cX10_barring 19 = .ok (.ifCond .le 29, 3) := by decide +kernel
theorem dX10_barring_22 : decode cX10_barring 22 = .ok (.aload_n 0, 1) := by decide +kernel
theorem dX10_barring_23 : decode cX10_barring 23 = .ok (.iload 5, 2) := by decide +kernel
theorem dX10_barring_25 : decode cX10_barring 25 = .ok (.iload_n 1, 1) := by decide +kernel
theorem dX10_barring_26 : decode cX10_barring 26 = .ok (.iload_n 2, 1) := by decide +kernel
theorem dX10_barring_27 : decode cX10_barring 27 = .ok (.invokevirtual 260, 3) := by decide +kernel
theorem dX10_barring_30 : decode cX10_barring 30 = .ok (.iload 4, 2) := by decide +kernel
theorem dX10_barring_32 : decode cX10_barring 32 = .ok (.imul, 1) := by decide +kernel
theorem dX10_barring_33 : decode cX10_barring 33 = .ok (.iload_n 3, 1) := by decide +kernel
theorem dX10_barring_34 : decode cX10_barring 34 = .ok (.aload_n 0, 1) := by decide +kernel
theorem dX10_barring_35 : decode cX10_barring 35 = .ok (.getfield 45, 3) := by decide +kernel
theorem dX10_barring_38 : decode cX10_barring 38 = .ok (.iload 5, 2) := by decide +kernel
theorem dX10_barring_40 : decode cX10_barring 40 = .ok (.iaload, 1) := by decide +kernel
theorem dX10_barring_41 : decode cX10_barring 41 = .ok (.imul, 1) := by decide +kernel
theorem dX10_barring_42 : decode cX10_barring 42 = .ok (.if_icmp .gt 6, 3) := by decide +kernel
theorem dX10_barring_45 : decode cX10_barring 45 = .ok (.iload 5, 2) := by decide +kernel
theorem dX10_barring_47 : decode cX10_barring 47 = .ok (.ireturn, 1) := by decide +kernel
theorem dX10_barring_48 : decode cX10_barring 48 = .ok (.iinc 5 1, 3) := by decide +kernel
theorem dX10_barring_51 : decode cX10_barring 51 = .ok (.goto (-48), 3) := by decide +kernel
theorem dX10_barring_54 : decode cX10_barring 54 = .ok (.iconst (-1), 1) := by decide +kernel
theorem dX10_barring_55 : decode cX10_barring 55 = .ok (.ireturn, 1) := by decide +kernel
theorem dX10_isFraction_0 : decode cX10_isFraction 0 = .ok (.iload_n 0, 1) := by decide +kernel
theorem dX10_isFraction_1 : decode cX10_isFraction 1 = .ok (.i2l, 1) := by decide +kernel
theorem dX10_isFraction_2 : decode cX10_isFraction 2 = .ok (.lconst 1, 1) := by decide +kernel
theorem dX10_isFraction_3 : decode cX10_isFraction 3 = .ok (.ldc2_w 263, 3) := by decide +kernel
theorem dX10_isFraction_6 : decode cX10_isFraction 6 = .ok (.invokestatic 115, 3) := by decide +kernel
theorem dX10_isFraction_9 : decode cX10_isFraction 9 = .ok (.ifCond .eq 19, 3) := by decide +kernel
theorem dX10_isFraction_12 : decode cX10_isFraction 12 = .ok (.iload_n 1, 1) := by decide +kernel
theorem dX10_isFraction_13 : decode cX10_isFraction 13 = .ok (.i2l, 1) := by decide +kernel
theorem dX10_isFraction_14 : decode cX10_isFraction 14 = .ok (.lconst 1, 1) := by decide +kernel
theorem dX10_isFraction_15 : decode cX10_isFraction 15 = .ok (.ldc2_w 263, 3) := by decide +kernel
theorem dX10_isFraction_18 : decode cX10_isFraction 18 = .ok (.invokestatic 115, 3) := by decide +kernel
theorem dX10_isFraction_21 : decode cX10_isFraction 21 = .ok (.ifCond .eq 7, 3) := by decide +kernel
theorem dX10_isFraction_24 : decode cX10_isFraction 24 = .ok (.iconst 1, 1) := by decide +kernel
theorem dX10_isFraction_25 : decode cX10_isFraction 25 = .ok (.goto 4, 3) := by decide +kernel
theorem dX10_isFraction_28 : decode cX10_isFraction 28 = .ok (.iconst 0, 1) := by decide +kernel
theorem dX10_isFraction_29 : decode cX10_isFraction 29 = .ok (.ireturn, 1) := by decide +kernel
theorem dX10_held_0 : decode cX10_held 0 = .ok (.iload_n 1, 1) := by decide +kernel
theorem dX10_held_1 : decode cX10_held 1 = .ok (.invokestatic 136, 3) := by decide +kernel
theorem dX10_held_4 : decode cX10_held 4 = .ok (.ifCond .ne 5, 3) := by decide +kernel
theorem dX10_held_7 : decode cX10_held 7 = .ok (.iconst (-1), 1) := by decide +kernel
theorem dX10_held_8 : decode cX10_held 8 = .ok (.ireturn, 1) := by decide +kernel
theorem dX10_held_9 : decode cX10_held 9 = .ok (.iload_n 2, 1) := by decide +kernel
theorem dX10_held_10 : decode cX10_held 10 = .ok (.invokestatic 140, 3) := by decide +kernel
theorem dX10_held_13 : decode cX10_held 13 = .ok (.ifCond .eq 20, 3) := by decide +kernel
theorem dX10_held_16 : decode cX10_held 16 = .ok (.iload_n 3, 1) := by decide +kernel
theorem dX10_held_17 : decode cX10_held 17 = .ok (.invokestatic 140, 3) := by decide +kernel
theorem dX10_held_20 : decode cX10_held 20 = .ok (.ifCond .eq 13, 3) := by decide +kernel
theorem dX10_held_23 : decode cX10_held 23 = .ok (.iload 4, 2) := by decide +kernel
theorem dX10_held_25 : decode cX10_held 25 = .ok (.iload 5, 2) := by decide +kernel
theorem dX10_held_27 : decode cX10_held 27 = .ok (.invokestatic 265, 3) := by decide +kernel
theorem dX10_held_30 : decode cX10_held 30 = .ok (.ifCond .ne 6, 3) := by decide +kernel
theorem dX10_held_33 : decode cX10_held 33 = .ok (.bipush (-2), 2) := by decide +kernel
theorem dX10_held_35 : decode cX10_held 35 = .ok (.ireturn, 1) := by decide +kernel
theorem dX10_held_36 : decode cX10_held 36 = .ok (.aload_n 0, 1) := by decide +kernel
theorem dX10_held_37 : decode cX10_held 37 = .ok (.getfield 11, 3) := by decide +kernel
theorem dX10_held_40 : decode cX10_held 40 = .ok (.iload_n 1, 1) := by decide +kernel
theorem dX10_held_41 : decode cX10_held 41 = .ok (.iaload, 1) := by decide +kernel
theorem dX10_held_42 : decode cX10_held 42 = .ok (.ifCond .ne 6, 3) := by decide +kernel
theorem dX10_held_45 : decode cX10_held 45 = .ok (.bipush (-3), 2) := by decide +kernel
theorem dX10_held_47 : decode cX10_held 47 = .ok (.ireturn, 1) := by decide +kernel
theorem dX10_held_48 : decode cX10_held 48 = .ok (.aload_n 0, 1) := by decide +kernel
theorem dX10_held_49 : decode cX10_held 49 = .ok (.iload_n 1, 1) := by decide +kernel
theorem dX10_held_50 : decode cX10_held 50 = .ok (.invokevirtual 166, 3) := by decide +kernel
theorem dX10_held_53 : decode cX10_held 53 = .ok (.aload_n 0, 1) := by decide +kernel
theorem dX10_held_54 : decode cX10_held 54 = .ok (.iload_n 2, 1) := by decide +kernel
theorem dX10_held_55 : decode cX10_held 55 = .ok (.iload_n 3, 1) := by decide +kernel
theorem dX10_held_56 : decode cX10_held 56 = .ok (.iload 4, 2) := by decide +kernel
theorem dX10_held_58 : decode cX10_held 58 = .ok (.iload 5, 2) := by decide +kernel
theorem dX10_held_60 : decode cX10_held 60 = .ok (.invokevirtual 268, 3) := by decide +kernel
theorem dX10_held_63 : decode cX10_held 63 = .ok (.iconst (-1), 1) := by decide +kernel
theorem dX10_held_64 : decode cX10_held 64 = .ok (.if_icmp .ne 7, 3) := by decide +kernel
theorem dX10_held_67 : decode cX10_held 67 = .ok (.iconst 1, 1) := by decide +kernel
theorem dX10_held_68 : decode cX10_held 68 = .ok (.goto 4, 3) := by decide +kernel
theorem dX10_held_71 : decode cX10_held 71 = .ok (.iconst 0, 1) := by decide +kernel
theorem dX10_held_72 : decode cX10_held 72 = .ok (.ireturn, 1) := by decide +kernel
theorem dX10_reason_0 : decode cX10_reason 0 = .ok (.iload_n 1, 1) := by decide +kernel
theorem dX10_reason_1 : decode cX10_reason 1 = .ok (.invokestatic 136, 3) := by decide +kernel
theorem dX10_reason_4 : decode cX10_reason 4 = .ok (.ifCond .eq 16, 3) := by decide +kernel
theorem dX10_reason_7 : decode cX10_reason 7 = .ok (.iload 6, 2) := by decide +kernel
theorem dX10_reason_9 : decode cX10_reason 9 = .ok (.i2l, 1) := by decide +kernel
theorem dX10_reason_10 : decode cX10_reason 10 = .ok (.lconst 0, 1) := by decide +kernel
theorem dX10_reason_11 : decode cX10_reason 11 = .ok (.ldc2_w 243, 3) := by decide +kernel
theorem dX10_reason_14 : decode cX10_reason 14 = .ok (.invokestatic 115, 3) := by decide +kernel
theorem dX10_reason_17 : decode cX10_reason 17 = .ok (.ifCond .ne 5, 3) := by decide +kernel
theorem dX10_reason_20 : decode cX10_reason 20 = .ok (.iconst (-1), 1) := by decide +kernel
theorem dX10_reason_21 : decode cX10_reason 21 = .ok (.ireturn, 1) := by decide +kernel
theorem dX10_reason_22 : decode cX10_reason 22 = .ok (.iload_n 2, 1) := by decide +kernel
theorem dX10_reason_23 : decode cX10_reason 23 = .ok (.invokestatic 140, 3) := by decide +kernel
theorem dX10_reason_26 : decode cX10_reason 26 = .ok (.ifCond .eq 20, 3) := by decide +kernel
theorem dX10_reason_29 : decode cX10_reason 29 = .ok (.iload_n 3, 1) := by decide +kernel
theorem dX10_reason_30 : decode cX10_reason 30 = .ok (.invokestatic 140, 3) := by decide +kernel
theorem dX10_reason_33 : decode cX10_reason 33 = .ok (.ifCond .eq 13, 3) := by decide +kernel
theorem dX10_reason_36 : decode cX10_reason 36 = .ok (.iload 4, 2) := by decide +kernel
theorem dX10_reason_38 : decode cX10_reason 38 = .ok (.iload 5, 2) := by decide +kernel
theorem dX10_reason_40 : decode cX10_reason 40 = .ok (.invokestatic 265, 3) := by decide +kernel
theorem dX10_reason_43 : decode cX10_reason 43 = .ok (.ifCond .ne 6, 3) := by decide +kernel
theorem dX10_reason_46 : decode cX10_reason 46 = .ok (.bipush (-2), 2) := by decide +kernel
theorem dX10_reason_48 : decode cX10_reason 48 = .ok (.ireturn, 1) := by decide +kernel
theorem dX10_reason_49 : decode cX10_reason 49 = .ok (.aload_n 0, 1) := by decide +kernel
theorem dX10_reason_50 : decode cX10_reason 50 = .ok (.getfield 11, 3) := by decide +kernel
theorem dX10_reason_53 : decode cX10_reason 53 = .ok (.iload_n 1, 1) := by decide +kernel
theorem dX10_reason_54 : decode cX10_reason 54 = .ok (.iaload, 1) := by decide +kernel
theorem dX10_reason_55 : decode cX10_reason 55 = .ok (.ifCond .ne 6, 3) := by decide +kernel
theorem dX10_reason_58 : decode cX10_reason 58 = .ok (.bipush (-3), 2) := by decide +kernel
theorem dX10_reason_60 : decode cX10_reason 60 = .ok (.ireturn, 1) := by decide +kernel
theorem dX10_reason_61 : decode cX10_reason 61 = .ok (.aload_n 0, 1) := by decide +kernel
theorem dX10_reason_62 : decode cX10_reason 62 = .ok (.iload_n 1, 1) := by decide +kernel
theorem dX10_reason_63 : decode cX10_reason 63 = .ok (.invokevirtual 166, 3) := by decide +kernel
theorem dX10_reason_66 : decode cX10_reason 66 = .ok (.aload_n 0, 1) := by decide +kernel
theorem dX10_reason_67 : decode cX10_reason 67 = .ok (.iload_n 2, 1) := by decide +kernel
theorem dX10_reason_68 : decode cX10_reason 68 = .ok (.iload_n 3, 1) := by decide +kernel
theorem dX10_reason_69 : decode cX10_reason 69 = .ok (.iload 4, 2) := by decide +kernel
theorem dX10_reason_71 : decode cX10_reason 71 = .ok (.iload 5, 2) := by decide +kernel
theorem dX10_reason_73 : decode cX10_reason 73 = .ok (.invokevirtual 268, 3) := by decide +kernel
theorem dX10_reason_76 : decode cX10_reason 76 = .ok (.istore 7, 2) := by decide +kernel
theorem dX10_reason_78 : decode cX10_reason 78 = .ok (.iload 7, 2) := by decide +kernel
theorem dX10_reason_80 : decode cX10_reason 80 = .ok (.iconst (-1), 1) := by decide +kernel
theorem dX10_reason_81 : decode cX10_reason 81 = .ok (.if_icmp .ne 6, 3) := by decide +kernel
theorem dX10_reason_84 : decode cX10_reason 84 = .ok (.bipush (-5), 2) := by decide +kernel
theorem dX10_reason_86 : decode cX10_reason 86 = .ok (.ireturn, 1) := by decide +kernel
theorem dX10_reason_87 : decode cX10_reason 87 = .ok (.iload 6, 2) := by decide +kernel
theorem dX10_reason_89 : decode cX10_reason 89 = .ok (.ifCond .ne 8, 3) := by decide +kernel
theorem dX10_reason_92 : decode cX10_reason 92 = .ok (.iload 7, 2) := by decide +kernel
theorem dX10_reason_94 : decode cX10_reason 94 = .ok (.goto 49, 3) := by decide +kernel
theorem dX10_reason_97 : decode cX10_reason 97 = .ok (.iload 6, 2) := by decide +kernel
theorem dX10_reason_99 : decode cX10_reason 99 = .ok (.iconst 1, 1) := by decide +kernel
theorem dX10_reason_100 : decode cX10_reason 100 = .ok (.if_icmp .ne 14, 3) := by decide +kernel
theorem dX10_reason_103 : decode cX10_reason 103 = .ok (.aload_n 0, 1) := by decide +kernel
theorem dX10_reason_104 : decode cX10_reason 104 = .ok (.iload 7, 2) := by decide +kernel
theorem dX10_reason_106 : decode cX10_reason 106 = .ok (.iload_n 2, 1) := by decide +kernel
theorem dX10_reason_107 : decode cX10_reason 107 = .ok (.iload_n 3, 1) := by decide +kernel
theorem dX10_reason_108 : decode cX10_reason 108 = .ok (.invokevirtual 260, 3) := by decide +kernel
theorem dX10_reason_111 : decode cX10_reason 111 = .ok (.goto 32, 3) := by decide +kernel
theorem dX10_reason_114 : decode cX10_reason 114 = .ok (.iload 6, 2) := by decide +kernel
theorem dX10_reason_116 : decode cX10_reason 116 = .ok (.iconst 2, 1) := by decide +kernel
theorem dX10_reason_117 : decode cX10_reason 117 = .ok (.if_icmp .ne 13, 3) := by decide +kernel
theorem dX10_reason_120 : decode cX10_reason 120 = .ok (.aload_n 0, 1) := by decide +kernel
theorem dX10_reason_121 : decode cX10_reason 121 = .ok (.getfield 45, 3) := by decide +kernel
theorem dX10_reason_124 : decode cX10_reason 124 = .ok (.iload 7, 2) := by decide +kernel
theorem dX10_reason_126 : decode cX10_reason 126 = .ok (.iaload, 1) := by decide +kernel
theorem dX10_reason_127 : decode cX10_reason 127 = .ok (.goto 16, 3) := by decide +kernel
theorem dX10_reason_130 : decode cX10_reason 130 = .ok (.iload 6, 2) := by decide +kernel
theorem dX10_reason_132 : decode cX10_reason 132 = .ok (.iconst 3, 1) := by decide +kernel
theorem dX10_reason_133 : decode cX10_reason 133 = .ok (.if_icmp .ne 8, 3) := by decide +kernel
theorem dX10_reason_136 : decode cX10_reason 136 = .ok (.iload 4, 2) := by decide +kernel
theorem dX10_reason_138 : decode cX10_reason 138 = .ok (.goto 5, 3) := by decide +kernel
theorem dX10_reason_141 : decode cX10_reason 141 = .ok (.iload 5, 2) := by decide +kernel
theorem dX10_reason_143 : decode cX10_reason 143 = .ok (.ireturn, 1) := by decide +kernel
theorem dX10_jumpFace_0 : decode cX10_jumpFace 0 = .ok (.iconst (-1), 1) := by decide +kernel
theorem dX10_jumpFace_1 : decode cX10_jumpFace 1 = .ok (.istore_n 3, 1) := by decide +kernel
theorem dX10_jumpFace_2 : decode cX10_jumpFace 2 = .ok (.iconst 0, 1) := by decide +kernel
theorem dX10_jumpFace_3 : decode cX10_jumpFace 3 = .ok (.istore 4, 2) := by decide +kernel
theorem dX10_jumpFace_5 : decode cX10_jumpFace 5 = .ok (.iload 4, 2) := by decide +kernel
theorem dX10_jumpFace_7 : decode cX10_jumpFace 7 = .ok (.aload_n 0, 1) := by decide +kernel
theorem dX10_jumpFace_8 : decode cX10_jumpFace 8 = .ok (.getfield 221, 3) := by decide +kernel
theorem dX10_jumpFace_11 : decode cX10_jumpFace 11 = .ok (.if_icmp .ge 60, 3) := by decide +kernel
theorem dX10_jumpFace_14 : decode cX10_jumpFace 14 = .ok (.aload_n 0, 1) := by decide +kernel
theorem dX10_jumpFace_15 : decode cX10_jumpFace 15 = .ok (.getfield 45, 3) := by decide +kernel
theorem dX10_jumpFace_18 : decode cX10_jumpFace 18 = .ok (.iload 4, 2) := by decide +kernel
theorem dX10_jumpFace_20 : decode cX10_jumpFace 20 = .ok (.iaload, 1) := by decide +kernel
theorem dX10_jumpFace_21 : decode cX10_jumpFace 21 = .ok (.ifCond .le 44, 3) := by decide +kernel
theorem dX10_jumpFace_24 : decode cX10_jumpFace 24 = .ok (.iload_n 3, 1) := by decide +kernel
theorem dX10_jumpFace_25 : decode cX10_jumpFace 25 = .ok (.iconst (-1), 1) := by decide +kernel
theorem dX10_jumpFace_26 : decode cX10_jumpFace 26 = .ok (.if_icmp .eq 36, 3) := by decide +kernel
theorem dX10_jumpFace_29 : decode cX10_jumpFace 29 = .ok (.aload_n 0, 1) := by decide +kernel
theorem dX10_jumpFace_30 : decode cX10_jumpFace 30 = .ok (.iload 4, 2) := by decide +kernel
theorem dX10_jumpFace_32 : decode cX10_jumpFace 32 = .ok (.iload_n 1, 1) := by decide +kernel
theorem dX10_jumpFace_33 : decode cX10_jumpFace 33 = .ok (.iload_n 2, 1) := by decide +kernel
theorem dX10_jumpFace_34 : decode cX10_jumpFace 34 = .ok (.invokevirtual 260, 3) := by decide +kernel
theorem dX10_jumpFace_37 : decode cX10_jumpFace 37 = .ok (.aload_n 0, 1) := by decide +kernel
theorem dX10_jumpFace_38 : decode cX10_jumpFace 38 = .ok (.getfield 45, 3) := by decide +kernel
theorem dX10_jumpFace_41 : decode cX10_jumpFace 41 = .ok (.iload_n 3, 1) := by decide +kernel
theorem dX10_jumpFace_42 : decode cX10_jumpFace 42 = .ok (.iaload, 1) := by decide +kernel
theorem dX10_jumpFace_43 : decode cX10_jumpFace 43 = .ok (.imul, 1) := by decide +kernel
theorem dX10_jumpFace_44 : decode cX10_jumpFace 44 = .ok (.aload_n 0, 1) := by decide +kernel
theorem dX10_jumpFace_45 : decode cX10_jumpFace 45 = .ok (.iload_n 3, 1) := by decide +kernel
theorem dX10_jumpFace_46 : decode cX10_jumpFace 46 = .ok (.iload_n 1, 1) := by decide +kernel
theorem dX10_jumpFace_47 : decode cX10_jumpFace 47 = .ok (.iload_n 2, 1) := by decide +kernel
theorem dX10_jumpFace_48 : decode cX10_jumpFace 48 = .ok (.invokevirtual 260, 3) := by decide +kernel
theorem dX10_jumpFace_51 : decode cX10_jumpFace 51 = .ok (.aload_n 0, 1) := by decide +kernel
theorem dX10_jumpFace_52 : decode cX10_jumpFace 52 = .ok (.getfield 45, 3) := by decide +kernel
theorem dX10_jumpFace_55 : decode cX10_jumpFace 55 = .ok (.iload 4, 2) := by decide +kernel
theorem dX10_jumpFace_57 : decode cX10_jumpFace 57 = .ok (.iaload, 1) := by decide +kernel
theorem dX10_jumpFace_58 : decode cX10_jumpFace 58 = .ok (.imul, 1) := by decide +kernel
theorem dX10_jumpFace_59 : decode cX10_jumpFace 59 = .ok (.if_icmp .ge 6, 3) := by decide +kernel
theorem dX10_jumpFace_62 : decode cX10_jumpFace 62 = .ok (.iload 4, 2) := by decide +kernel
theorem dX10_jumpFace_64 : decode cX10_jumpFace 64 = .ok (.istore_n 3, 1) := by decide +kernel
theorem dX10_jumpFace_65 : decode cX10_jumpFace 65 = .ok (.iinc 4 1, 3) := by decide +kernel
theorem dX10_jumpFace_68 : decode cX10_jumpFace 68 = .ok (.goto (-63), 3) := by decide +kernel
theorem dX10_jumpFace_71 : decode cX10_jumpFace 71 = .ok (.iload_n 3, 1) := by decide +kernel
theorem dX10_jumpFace_72 : decode cX10_jumpFace 72 = .ok (.ireturn, 1) := by decide +kernel
theorem dX10_jump_0 : decode cX10_jump 0 = .ok (.iload_n 1, 1) := by decide +kernel
theorem dX10_jump_1 : decode cX10_jump 1 = .ok (.invokestatic 136, 3) := by decide +kernel
theorem dX10_jump_4 : decode cX10_jump 4 = .ok (.ifCond .eq 37, 3) := by decide +kernel
theorem dX10_jump_7 : decode cX10_jump 7 = .ok (.iload_n 2, 1) := by decide +kernel
theorem dX10_jump_8 : decode cX10_jump 8 = .ok (.invokestatic 140, 3) := by decide +kernel
theorem dX10_jump_11 : decode cX10_jump 11 = .ok (.ifCond .eq 30, 3) := by decide +kernel
theorem dX10_jump_14 : decode cX10_jump 14 = .ok (.iload_n 3, 1) := by decide +kernel
theorem dX10_jump_15 : decode cX10_jump 15 = .ok (.invokestatic 140, 3) := by decide +kernel
theorem dX10_jump_18 : decode cX10_jump 18 = .ok (.ifCond .eq 23, 3) := by decide +kernel
theorem dX10_jump_21 : decode cX10_jump 21 = .ok (.iload 4, 2) := by decide +kernel
theorem dX10_jump_23 : decode cX10_jump 23 = .ok (.i2l, 1) := by decide +kernel
theorem dX10_jump_24 : decode cX10_jump 24 = .ok (.lconst 0, 1) := by decide +kernel
theorem dX10_jump_25 : decode cX10_jump 25 = .ok (.lconst 1, 1) := by decide +kernel
theorem dX10_jump_26 : decode cX10_jump 26 = .ok (.invokestatic 115, 3) := by decide +kernel
theorem dX10_jump_29 : decode cX10_jump 29 = .ok (.ifCond .eq 12, 3) := by decide +kernel
theorem dX10_jump_32 : decode cX10_jump 32 = .ok (.aload_n 0, 1) := by decide +kernel
theorem dX10_jump_33 : decode cX10_jump 33 = .ok (.getfield 11, 3) := by decide +kernel
theorem dX10_jump_36 : decode cX10_jump 36 = .ok (.iload_n 1, 1) := by decide +kernel
theorem dX10_jump_37 : decode cX10_jump 37 = .ok (.iaload, 1) := by decide +kernel
theorem dX10_jump_38 : decode cX10_jump 38 = .ok (.ifCond .ne 7, 3) := by decide +kernel
theorem dX10_jump_41 : decode cX10_jump 41 = .ok (.ldc2_w 271, 3) := by decide +kernel
theorem dX10_jump_44 : decode cX10_jump 44 = .ok (.lreturn, 1) := by decide +kernel
theorem dX10_jump_45 : decode cX10_jump 45 = .ok (.aload_n 0, 1) := by decide +kernel
theorem dX10_jump_46 : decode cX10_jump 46 = .ok (.iload_n 1, 1) := by decide +kernel
theorem dX10_jump_47 : decode cX10_jump 47 = .ok (.invokevirtual 166, 3) := by decide +kernel
theorem dX10_jump_50 : decode cX10_jump 50 = .ok (.aload_n 0, 1) := by decide +kernel
theorem dX10_jump_51 : decode cX10_jump 51 = .ok (.iload_n 2, 1) := by decide +kernel
theorem dX10_jump_52 : decode cX10_jump 52 = .ok (.iload_n 3, 1) := by decide +kernel
theorem dX10_jump_53 : decode cX10_jump 53 = .ok (.invokevirtual 273, 3) := by decide +kernel
theorem dX10_jump_56 : decode cX10_jump 56 = .ok (.istore 5, 2) := by decide +kernel
theorem dX10_jump_58 : decode cX10_jump 58 = .ok (.iload 5, 2) := by decide +kernel
theorem dX10_jump_60 : decode cX10_jump 60 = .ok (.iconst (-1), 1) := by decide +kernel
theorem dX10_jump_61 : decode cX10_jump 61 = .ok (.if_icmp .ne 9, 3) := by decide +kernel
theorem dX10_jump_64 : decode cX10_jump 64 = .ok (.ldc2_w 271, 3) := by decide +kernel
theorem dX10_jump_67 : decode cX10_jump 67 = .ok (.goto 25, 3) := by decide +kernel
theorem dX10_jump_70 : decode cX10_jump 70 = .ok (.aload_n 0, 1) := by decide +kernel
theorem dX10_jump_71 : decode cX10_jump 71 = .ok (.iload 5, 2) := by decide +kernel
theorem dX10_jump_73 : decode cX10_jump 73 = .ok (.iload_n 2, 1) := by decide +kernel
theorem dX10_jump_74 : decode cX10_jump 74 = .ok (.iload_n 3, 1) := by decide +kernel
theorem dX10_jump_75 : decode cX10_jump 75 = .ok (.invokevirtual 260, 3) := by decide +kernel
theorem dX10_jump_78 : decode cX10_jump 78 = .ok (.i2l, 1) := by decide +kernel
theorem dX10_jump_79 : decode cX10_jump 79 = .ok (.aload_n 0, 1) := by decide +kernel
theorem dX10_jump_80 : decode cX10_jump 80 = .ok (.getfield 45, 3) := by decide +kernel
theorem dX10_jump_83 : decode cX10_jump 83 = .ok (.iload 5, 2) := by decide +kernel
theorem dX10_jump_85 : decode cX10_jump 85 = .ok (.iaload, 1) := by decide +kernel
theorem dX10_jump_86 : decode cX10_jump 86 = .ok (.i2l, 1) := by decide +kernel
theorem dX10_jump_87 : decode cX10_jump 87 = .ok (.iload 4, 2) := by decide +kernel
theorem dX10_jump_89 : decode cX10_jump 89 = .ok (.invokestatic 276, 3) := by decide +kernel
theorem dX10_jump_92 : decode cX10_jump 92 = .ok (.lreturn, 1) := by decide +kernel
theorem dX10_comesJump_0 : decode cX10_comesJump 0 = .ok (.iconst 0, 1) := by decide +kernel
theorem dX10_comesJump_1 : decode cX10_comesJump 1 = .ok (.istore_n 3, 1) := by decide +kernel
theorem dX10_comesJump_2 : decode cX10_comesJump 2 = .ok (.iload_n 3, 1) := by decide +kernel
theorem dX10_comesJump_3 : decode cX10_comesJump 3 = .ok (.aload_n 0, 1) := by decide +kernel
theorem dX10_comesJump_4 : decode cX10_comesJump 4 = .ok (.getfield 257, 3) := by decide +kernel
theorem dX10_comesJump_7 : decode cX10_comesJump 7 = .ok (.if_icmp .ge 28, 3) := by decide +kernel
theorem dX10_comesJump_10 : decode cX10_comesJump 10 = .ok (.aload_n 0, 1) := by decide +kernel
theorem dX10_comesJump_11 : decode cX10_comesJump 11 = .ok (.getfield 48, 3) := by decide +kernel
theorem dX10_comesJump_14 : decode cX10_comesJump 14 = .ok (.iload_n 3, 1) := by decide +kernel
theorem dX10_comesJump_15 : decode cX10_comesJump 15 = .ok (.iaload, 1) := by decide +kernel
theorem dX10_comesJump_16 : decode cX10_comesJump 16 = .ok (.iload_n 2, 1) := by decide +kernel
theorem dX10_comesJump_17 : decode cX10_comesJump 17 = .ok (.imul, 1) := by decide +kernel
theorem dX10_comesJump_18 : decode cX10_comesJump 18 = .ok (.iload_n 1, 1) := by decide +kernel
theorem dX10_comesJump_19 : decode cX10_comesJump 19 = .ok (.aload_n 0, 1) := by decide +kernel
theorem dX10_comesJump_20 : decode cX10_comesJump 20 = .ok (.getfield 51, 3) := by decide +kernel
theorem dX10_comesJump_23 : decode cX10_comesJump 23 = .ok (.iload_n 3, 1) := by decide +kernel
theorem dX10_comesJump_24 : decode cX10_comesJump 24 = .ok (.iaload, 1) := by decide +kernel
theorem dX10_comesJump_25 : decode cX10_comesJump 25 = .ok (.imul, 1) := by decide +kernel
theorem dX10_comesJump_26 : decode cX10_comesJump 26 = .ok (.if_icmp .ge 9, 3) := by decide +kernel
theorem dX10_comesJump_29 : decode cX10_comesJump 29 = .ok (.iinc 3 1, 3) := by decide +kernel
theorem dX10_comesJump_32 : decode cX10_comesJump 32 = .ok (.goto (-30), 3) := by decide +kernel
theorem dX10_comesJump_35 : decode cX10_comesJump 35 = .ok (.iload_n 3, 1) := by decide +kernel
theorem dX10_comesJump_36 : decode cX10_comesJump 36 = .ok (.aload_n 0, 1) := by decide +kernel
theorem dX10_comesJump_37 : decode cX10_comesJump 37 = .ok (.getfield 257, 3) := by decide +kernel
theorem dX10_comesJump_40 : decode cX10_comesJump 40 = .ok (.if_icmp .ge 24, 3) := by decide +kernel
theorem dX10_comesJump_43 : decode cX10_comesJump 43 = .ok (.aload_n 0, 1) := by decide +kernel
theorem dX10_comesJump_44 : decode cX10_comesJump 44 = .ok (.getfield 48, 3) := by decide +kernel
theorem dX10_comesJump_47 : decode cX10_comesJump 47 = .ok (.iload_n 3, 1) := by decide +kernel
theorem dX10_comesJump_48 : decode cX10_comesJump 48 = .ok (.iaload, 1) := by decide +kernel
theorem dX10_comesJump_49 : decode cX10_comesJump 49 = .ok (.iload_n 1, 1) := by decide +kernel
theorem dX10_comesJump_50 : decode cX10_comesJump 50 = .ok (.if_icmp .ne 14, 3) := by decide +kernel
theorem dX10_comesJump_53 : decode cX10_comesJump 53 = .ok (.aload_n 0, 1) := by decide +kernel
theorem dX10_comesJump_54 : decode cX10_comesJump 54 = .ok (.getfield 51, 3) := by decide +kernel
theorem dX10_comesJump_57 : decode cX10_comesJump 57 = .ok (.iload_n 3, 1) := by decide +kernel
theorem dX10_comesJump_58 : decode cX10_comesJump 58 = .ok (.iaload, 1) := by decide +kernel
theorem dX10_comesJump_59 : decode cX10_comesJump 59 = .ok (.iload_n 2, 1) := by decide +kernel
theorem dX10_comesJump_60 : decode cX10_comesJump 60 = .ok (.if_icmp .ne 4, 3) := by decide +kernel
theorem dX10_comesJump_63 : decode cX10_comesJump 63 = .ok (.return_, 1) := by decide +kernel
theorem dX10_comesJump_64 : decode cX10_comesJump 64 = .ok (.aload_n 0, 1) := by decide +kernel
theorem dX10_comesJump_65 : decode cX10_comesJump 65 = .ok (.getfield 257, 3) := by decide +kernel
theorem dX10_comesJump_68 : decode cX10_comesJump 68 = .ok (.istore 4, 2) := by decide +kernel
theorem dX10_comesJump_70 : decode cX10_comesJump 70 = .ok (.iload 4, 2) := by decide +kernel
theorem dX10_comesJump_72 : decode cX10_comesJump 72 = .ok (.iload_n 3, 1) := by decide +kernel
theorem dX10_comesJump_73 : decode cX10_comesJump 73 = .ok (.if_icmp .le 41, 3) := by decide +kernel
theorem dX10_comesJump_76 : decode cX10_comesJump 76 = .ok (.aload_n 0, 1) := by decide +kernel
theorem dX10_comesJump_77 : decode cX10_comesJump 77 = .ok (.getfield 48, 3) := by decide +kernel
theorem dX10_comesJump_80 : decode cX10_comesJump 80 = .ok (.iload 4, 2) := by decide +kernel
theorem dX10_comesJump_82 : decode cX10_comesJump 82 = .ok (.aload_n 0, 1) := by decide +kernel
theorem dX10_comesJump_83 : decode cX10_comesJump 83 = .ok (.getfield 48, 3) := by decide +kernel
theorem dX10_comesJump_86 : decode cX10_comesJump 86 = .ok (.iload 4, 2) := by decide +kernel
theorem dX10_comesJump_88 : decode cX10_comesJump 88 = .ok (.iconst 1, 1) := by decide +kernel
theorem dX10_comesJump_89 : decode cX10_comesJump 89 = .ok (.isub, 1) := by decide +kernel
theorem dX10_comesJump_90 : decode cX10_comesJump 90 = .ok (.iaload, 1) := by decide +kernel
theorem dX10_comesJump_91 : decode cX10_comesJump 91 = .ok (.iastore, 1) := by decide +kernel
theorem dX10_comesJump_92 : decode cX10_comesJump 92 = .ok (.aload_n 0, 1) := by decide +kernel
theorem dX10_comesJump_93 : decode cX10_comesJump 93 = .ok (.getfield 51, 3) := by decide +kernel
theorem dX10_comesJump_96 : decode cX10_comesJump 96 = .ok (.iload 4, 2) := by decide +kernel
theorem dX10_comesJump_98 : decode cX10_comesJump 98 = .ok (.aload_n 0, 1) := by decide +kernel
theorem dX10_comesJump_99 : decode cX10_comesJump 99 = .ok (.getfield 51, 3) := by decide +kernel
theorem dX10_comesJump_102 : decode cX10_comesJump 102 = .ok (.iload 4, 2) := by decide +kernel
theorem dX10_comesJump_104 : decode cX10_comesJump 104 = .ok (.iconst 1, 1) := by decide +kernel
theorem dX10_comesJump_105 : decode cX10_comesJump 105 = .ok (.isub, 1) := by decide +kernel
theorem dX10_comesJump_106 : decode cX10_comesJump 106 = .ok (.iaload, 1) := by decide +kernel
theorem dX10_comesJump_107 : decode cX10_comesJump 107 = .ok (.iastore, 1) := by decide +kernel
theorem dX10_comesJump_108 : decode cX10_comesJump 108 = .ok (.iinc 4 (-1), 3) := by decide +kernel
theorem dX10_comesJump_111 : decode cX10_comesJump 111 = .ok (.goto (-41), 3) := by decide +kernel
theorem dX10_comesJump_114 : decode cX10_comesJump 114 = .ok (.aload_n 0, 1) := by decide +kernel
theorem dX10_comesJump_115 : decode cX10_comesJump 115 = .ok (.getfield 48, 3) := by decide +kernel
theorem dX10_comesJump_118 : decode cX10_comesJump 118 = .ok (.iload_n 3, 1) := by decide +kernel
theorem dX10_comesJump_119 : decode cX10_comesJump 119 = .ok (.iload_n 1, 1) := by decide +kernel
theorem dX10_comesJump_120 : decode cX10_comesJump 120 = .ok (.iastore, 1) := by decide +kernel
theorem dX10_comesJump_121 : decode cX10_comesJump 121 = .ok (.aload_n 0, 1) := by decide +kernel
theorem dX10_comesJump_122 : decode cX10_comesJump 122 = .ok (.getfield 51, 3) := by decide +kernel
theorem dX10_comesJump_125 : decode cX10_comesJump 125 = .ok (.iload_n 3, 1) := by decide +kernel
theorem dX10_comesJump_126 : decode cX10_comesJump 126 = .ok (.iload_n 2, 1) := by decide +kernel
theorem dX10_comesJump_127 : decode cX10_comesJump 127 = .ok (.iastore, 1) := by decide +kernel
theorem dX10_comesJump_128 : decode cX10_comesJump 128 = .ok (.aload_n 0, 1) := by decide +kernel
theorem dX10_comesJump_129 : decode cX10_comesJump 129 = .ok (.dup, 1) := by decide +kernel
theorem dX10_comesJump_130 : decode cX10_comesJump 130 = .ok (.getfield 257, 3) := by decide +kernel
theorem dX10_comesJump_133 : decode cX10_comesJump 133 = .ok (.iconst 1, 1) := by decide +kernel
theorem dX10_comesJump_134 : decode cX10_comesJump 134 = .ok (.iadd, 1) := by decide +kernel
theorem dX10_comesJump_135 : decode cX10_comesJump 135 = .ok (.putfield 257, 3) := by decide +kernel
theorem dX10_comesJump_138 : decode cX10_comesJump 138 = .ok (.return_, 1) := by decide +kernel
theorem dX10_tellsJumps_0 : decode cX10_tellsJumps 0 = .ok (.aload_n 0, 1) := by decide +kernel
theorem dX10_tellsJumps_1 : decode cX10_tellsJumps 1 = .ok (.iconst 0, 1) := by decide +kernel
theorem dX10_tellsJumps_2 : decode cX10_tellsJumps 2 = .ok (.putfield 257, 3) := by decide +kernel
theorem dX10_tellsJumps_5 : decode cX10_tellsJumps 5 = .ok (.iconst 0, 1) := by decide +kernel
theorem dX10_tellsJumps_6 : decode cX10_tellsJumps 6 = .ok (.istore_n 1, 1) := by decide +kernel
theorem dX10_tellsJumps_7 : decode cX10_tellsJumps 7 = .ok (.iload_n 1, 1) := by decide +kernel
theorem dX10_tellsJumps_8 : decode cX10_tellsJumps 8 = .ok (.bipush 100, 2) := by decide +kernel
theorem dX10_tellsJumps_10 : decode cX10_tellsJumps 10 = .ok (.if_icmp .ge 73, 3) := by decide +kernel
theorem dX10_tellsJumps_13 : decode cX10_tellsJumps 13 = .ok (.aload_n 0, 1) := by decide +kernel
theorem dX10_tellsJumps_14 : decode cX10_tellsJumps 14 = .ok (.iload_n 1, 1) := by decide +kernel
theorem dX10_tellsJumps_15 : decode cX10_tellsJumps 15 = .ok (.bipush 10, 2) := by decide +kernel
theorem dX10_tellsJumps_17 : decode cX10_tellsJumps 17 = .ok (.idiv, 1) := by decide +kernel
theorem dX10_tellsJumps_18 : decode cX10_tellsJumps 18 = .ok (.iload_n 1, 1) := by decide +kernel
theorem dX10_tellsJumps_19 : decode cX10_tellsJumps 19 = .ok (.bipush 10, 2) := by decide +kernel
theorem dX10_tellsJumps_21 : decode cX10_tellsJumps 21 = .ok (.irem, 1) := by decide +kernel
theorem dX10_tellsJumps_22 : decode cX10_tellsJumps 22 = .ok (.invokevirtual 273, 3) := by decide +kernel
theorem dX10_tellsJumps_25 : decode cX10_tellsJumps 25 = .ok (.istore_n 2, 1) := by decide +kernel
theorem dX10_tellsJumps_26 : decode cX10_tellsJumps 26 = .ok (.iload_n 2, 1) := by decide +kernel
theorem dX10_tellsJumps_27 : decode cX10_tellsJumps 27 = .ok (.iconst (-1), 1) := by decide +kernel
theorem dX10_tellsJumps_28 : decode cX10_tellsJumps 28 = .ok (.if_icmp .eq 49, 3) := by decide +kernel
theorem dX10_tellsJumps_31 : decode cX10_tellsJumps 31 = .ok (.aload_n 0, 1) := by decide +kernel
theorem dX10_tellsJumps_32 : decode cX10_tellsJumps 32 = .ok (.iload_n 2, 1) := by decide +kernel
theorem dX10_tellsJumps_33 : decode cX10_tellsJumps 33 = .ok (.iload_n 1, 1) := by decide +kernel
theorem dX10_tellsJumps_34 : decode cX10_tellsJumps 34 = .ok (.bipush 10, 2) := by decide +kernel
theorem dX10_tellsJumps_36 : decode cX10_tellsJumps 36 = .ok (.idiv, 1) := by decide +kernel
theorem dX10_tellsJumps_37 : decode cX10_tellsJumps 37 = .ok (.iload_n 1, 1) := by decide +kernel
theorem dX10_tellsJumps_38 : decode cX10_tellsJumps 38 = .ok (.bipush 10, 2) := by decide +kernel
theorem dX10_tellsJumps_40 : decode cX10_tellsJumps 40 = .ok (.irem, 1) := by decide +kernel
theorem dX10_tellsJumps_41 : decode cX10_tellsJumps 41 = .ok (.invokevirtual 260, 3) := by decide +kernel
theorem dX10_tellsJumps_44 : decode cX10_tellsJumps 44 = .ok (.istore_n 3, 1) := by decide +kernel
theorem dX10_tellsJumps_45 : decode cX10_tellsJumps 45 = .ok (.aload_n 0, 1) := by decide +kernel
theorem dX10_tellsJumps_46 : decode cX10_tellsJumps 46 = .ok (.iload_n 3, 1) := by decide +kernel
theorem dX10_tellsJumps_47 : decode cX10_tellsJumps 47 = .ok (.i2l, 1) := by decide +kernel
theorem dX10_tellsJumps_48 : decode cX10_tellsJumps 48 = .ok (.aload_n 0, 1) := by decide +kernel
theorem dX10_tellsJumps_49 : decode cX10_tellsJumps 49 = .ok (.getfield 45, 3) := by decide +kernel
theorem dX10_tellsJumps_52 : decode cX10_tellsJumps 52 = .ok (.iload_n 2, 1) := by decide +kernel
theorem dX10_tellsJumps_53 : decode cX10_tellsJumps 53 = .ok (.iaload, 1) := by decide +kernel
theorem dX10_tellsJumps_54 : decode cX10_tellsJumps 54 = .ok (.i2l, 1) := by decide +kernel
theorem dX10_tellsJumps_55 : decode cX10_tellsJumps 55 = .ok (.iconst 0, 1) := by decide +kernel
theorem dX10_tellsJumps_56 : decode cX10_tellsJumps 56 = .ok (.invokestatic 276, 3) := by decide +kernel
theorem dX10_tellsJumps_59 : decode cX10_tellsJumps 59 = .ok (.l2i, 1) := by decide +kernel
theorem dX10_tellsJumps_60 : decode cX10_tellsJumps 60 = .ok (.iload_n 3, 1) := by decide +kernel
theorem dX10_tellsJumps_61 : decode cX10_tellsJumps 61 = .ok (.i2l, 1) := by decide +kernel
theorem dX10_tellsJumps_62 : decode cX10_tellsJumps 62 = .ok (.aload_n 0, 1) := by decide +kernel
theorem dX10_tellsJumps_63 : decode cX10_tellsJumps 63 = .ok (.getfield 45, 3) := by decide +kernel
theorem dX10_tellsJumps_66 : decode cX10_tellsJumps 66 = .ok (.iload_n 2, 1) := by decide +kernel
theorem dX10_tellsJumps_67 : decode cX10_tellsJumps 67 = .ok (.iaload, 1) := by decide +kernel
theorem dX10_tellsJumps_68 : decode cX10_tellsJumps 68 = .ok (.i2l, 1) := by decide +kernel
theorem dX10_tellsJumps_69 : decode cX10_tellsJumps 69 = .ok (.iconst 1, 1) := by decide +kernel
theorem dX10_tellsJumps_70 : decode cX10_tellsJumps 70 = .ok (.invokestatic 276, 3) := by decide +kernel
theorem dX10_tellsJumps_73 : decode cX10_tellsJumps 73 = .ok (.l2i, 1) := by decide +kernel
theorem dX10_tellsJumps_74 : decode cX10_tellsJumps 74 = .ok (.invokevirtual 280, 3) := by decide +kernel
theorem dX10_tellsJumps_77 : decode cX10_tellsJumps 77 = .ok (.iinc 1 1, 3) := by decide +kernel
theorem dX10_tellsJumps_80 : decode cX10_tellsJumps 80 = .ok (.goto (-73), 3) := by decide +kernel
theorem dX10_tellsJumps_83 : decode cX10_tellsJumps 83 = .ok (.return_, 1) := by decide +kernel
theorem dX10_jumps_0 : decode cX10_jumps 0 = .ok (.iload_n 1, 1) := by decide +kernel
theorem dX10_jumps_1 : decode cX10_jumps 1 = .ok (.invokestatic 136, 3) := by decide +kernel
