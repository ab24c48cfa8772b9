theorem dX10_jumps_4 : decode cX10_jumps 4 = .ok (.ifCond .eq 22, 3) := by decide +kernel
theorem dX10_jumps_7 : decode cX10_jumps 7 = .ok (.iload_n 3, 1) := by decide +kernel
theorem dX10_jumps_8 : decode cX10_jumps 8 = .ok (.i2l, 1) := by decide +kernel
theorem dX10_jumps_9 : decode cX10_jumps 9 = .ok (.lconst 0, 1) := by decide +kernel
theorem dX10_jumps_10 : decode cX10_jumps 10 = .ok (.lconst 1, 1) := by decide +kernel
theorem dX10_jumps_11 : decode cX10_jumps 11 = .ok (.invokestatic 115, 3) := by decide +kernel
theorem dX10_jumps_14 : decode cX10_jumps 14 = .ok (.ifCond .eq 12, 3) := by decide +kernel
theorem dX10_jumps_17 : decode cX10_jumps 17 = .ok (.aload_n 0, 1) := by decide +kernel
theorem dX10_jumps_18 : decode cX10_jumps 18 = .ok (.getfield 11, 3) := by decide +kernel
theorem dX10_jumps_21 : decode cX10_jumps 21 = .ok (.iload_n 1, 1) := by decide +kernel
theorem dX10_jumps_22 : decode cX10_jumps 22 = .ok (.iaload, 1) := by decide +kernel
theorem dX10_jumps_23 : decode cX10_jumps 23 = .ok (.ifCond .ne 7, 3) := by decide +kernel
theorem dX10_jumps_26 : decode cX10_jumps 26 = .ok (.ldc2_w 271, 3) := by decide +kernel
theorem dX10_jumps_29 : decode cX10_jumps 29 = .ok (.lreturn, 1) := by decide +kernel
theorem dX10_jumps_30 : decode cX10_jumps 30 = .ok (.aload_n 0, 1) := by decide +kernel
theorem dX10_jumps_31 : decode cX10_jumps 31 = .ok (.iload_n 1, 1) := by decide +kernel
theorem dX10_jumps_32 : decode cX10_jumps 32 = .ok (.invokevirtual 166, 3) := by decide +kernel
theorem dX10_jumps_35 : decode cX10_jumps 35 = .ok (.aload_n 0, 1) := by decide +kernel
theorem dX10_jumps_36 : decode cX10_jumps 36 = .ok (.invokevirtual 254, 3) := by decide +kernel
theorem dX10_jumps_39 : decode cX10_jumps 39 = .ok (.iload_n 2, 1) := by decide +kernel
theorem dX10_jumps_40 : decode cX10_jumps 40 = .ok (.i2l, 1) := by decide +kernel
theorem dX10_jumps_41 : decode cX10_jumps 41 = .ok (.lconst 0, 1) := by decide +kernel
theorem dX10_jumps_42 : decode cX10_jumps 42 = .ok (.aload_n 0, 1) := by decide +kernel
theorem dX10_jumps_43 : decode cX10_jumps 43 = .ok (.getfield 257, 3) := by decide +kernel
theorem dX10_jumps_46 : decode cX10_jumps 46 = .ok (.iconst 1, 1) := by decide +kernel
theorem dX10_jumps_47 : decode cX10_jumps 47 = .ok (.isub, 1) := by decide +kernel
theorem dX10_jumps_48 : decode cX10_jumps 48 = .ok (.i2l, 1) := by decide +kernel
theorem dX10_jumps_49 : decode cX10_jumps 49 = .ok (.invokestatic 115, 3) := by decide +kernel
theorem dX10_jumps_52 : decode cX10_jumps 52 = .ok (.ifCond .ne 9, 3) := by decide +kernel
theorem dX10_jumps_55 : decode cX10_jumps 55 = .ok (.ldc2_w 271, 3) := by decide +kernel
theorem dX10_jumps_58 : decode cX10_jumps 58 = .ok (.goto 24, 3) := by decide +kernel
theorem dX10_jumps_61 : decode cX10_jumps 61 = .ok (.iload_n 3, 1) := by decide +kernel
theorem dX10_jumps_62 : decode cX10_jumps 62 = .ok (.ifCond .ne 13, 3) := by decide +kernel
theorem dX10_jumps_65 : decode cX10_jumps 65 = .ok (.aload_n 0, 1) := by decide +kernel
theorem dX10_jumps_66 : decode cX10_jumps 66 = .ok (.getfield 48, 3) := by decide +kernel
theorem dX10_jumps_69 : decode cX10_jumps 69 = .ok (.iload_n 2, 1) := by decide +kernel
theorem dX10_jumps_70 : decode cX10_jumps 70 = .ok (.iaload, 1) := by decide +kernel
theorem dX10_jumps_71 : decode cX10_jumps 71 = .ok (.i2l, 1) := by decide +kernel
theorem dX10_jumps_72 : decode cX10_jumps 72 = .ok (.goto 10, 3) := by decide +kernel
theorem dX10_jumps_75 : decode cX10_jumps 75 = .ok (.aload_n 0, 1) := by decide +kernel
theorem dX10_jumps_76 : decode cX10_jumps 76 = .ok (.getfield 51, 3) := by decide +kernel
theorem dX10_jumps_79 : decode cX10_jumps 79 = .ok (.iload_n 2, 1) := by decide +kernel
theorem dX10_jumps_80 : decode cX10_jumps 80 = .ok (.iaload, 1) := by decide +kernel
theorem dX10_jumps_81 : decode cX10_jumps 81 = .ok (.i2l, 1) := by decide +kernel
theorem dX10_jumps_82 : decode cX10_jumps 82 = .ok (.lreturn, 1) := by decide +kernel
theorem dX10_lacking_0 : decode cX10_lacking 0 = .ok (.aload_n 0, 1) := by decide +kernel
theorem dX10_lacking_1 : decode cX10_lacking 1 = .ok (.iload_n 1, 1) := by decide +kernel
theorem dX10_lacking_2 : decode cX10_lacking 2 = .ok (.invokevirtual 166, 3) := by decide +kernel
theorem dX10_lacking_5 : decode cX10_lacking 5 = .ok (.iconst 0, 1) := by decide +kernel
theorem dX10_lacking_6 : decode cX10_lacking 6 = .ok (.istore 4, 2) := by decide +kernel
theorem dX10_lacking_8 : decode cX10_lacking 8 = .ok (.iconst 0, 1) := by decide +kernel
theorem dX10_lacking_9 : decode cX10_lacking 9 = .ok (.istore 5, 2) := by decide +kernel
theorem dX10_lacking_11 : decode cX10_lacking 11 = .ok (.iload 5, 2) := by decide +kernel
theorem dX10_lacking_13 : decode cX10_lacking 13 = .ok (.bipush 100, 2) := by decide +kernel
theorem dX10_lacking_15 : decode cX10_lacking 15 = .ok (.if_icmp .ge 39, 3) := by decide +kernel
theorem dX10_lacking_18 : decode cX10_lacking 18 = .ok (.iload 4, 2) := by decide +kernel
theorem dX10_lacking_20 : decode cX10_lacking 20 = .ok (.aload_n 0, 1) := by decide +kernel
theorem dX10_lacking_21 : decode cX10_lacking 21 = .ok (.iload 5, 2) := by decide +kernel
theorem dX10_lacking_23 : decode cX10_lacking 23 = .ok (.bipush 10, 2) := by decide +kernel
theorem dX10_lacking_25 : decode cX10_lacking 25 = .ok (.idiv, 1) := by decide +kernel
theorem dX10_lacking_26 : decode cX10_lacking 26 = .ok (.iload 5, 2) := by decide +kernel
theorem dX10_lacking_28 : decode cX10_lacking 28 = .ok (.bipush 10, 2) := by decide +kernel
theorem dX10_lacking_30 : decode cX10_lacking 30 = .ok (.irem, 1) := by decide +kernel
theorem dX10_lacking_31 : decode cX10_lacking 31 = .ok (.iload_n 2, 1) := by decide +kernel
theorem dX10_lacking_32 : decode cX10_lacking 32 = .ok (.iload_n 3, 1) := by decide +kernel
theorem dX10_lacking_33 : decode cX10_lacking 33 = .ok (.invokevirtual 268, 3) := by decide +kernel
theorem dX10_lacking_36 : decode cX10_lacking 36 = .ok (.iconst (-1), 1) := by decide +kernel
theorem dX10_lacking_37 : decode cX10_lacking 37 = .ok (.if_icmp .ne 7, 3) := by decide +kernel
theorem dX10_lacking_40 : decode cX10_lacking 40 = .ok (.iconst 0, 1) := by decide +kernel
theorem dX10_lacking_41 : decode cX10_lacking 41 = .ok (.goto 4, 3) := by decide +kernel
theorem dX10_lacking_44 : decode cX10_lacking 44 = .ok (.iconst 1, 1) := by decide +kernel
theorem dX10_lacking_45 : decode cX10_lacking 45 = .ok (.iadd, 1) := by decide +kernel
theorem dX10_lacking_46 : decode cX10_lacking 46 = .ok (.istore 4, 2) := by decide +kernel
theorem dX10_lacking_48 : decode cX10_lacking 48 = .ok (.iinc 5 1, 3) := by decide +kernel
theorem dX10_lacking_51 : decode cX10_lacking 51 = .ok (.goto (-40), 3) := by decide +kernel
theorem dX10_lacking_54 : decode cX10_lacking 54 = .ok (.iload 4, 2) := by decide +kernel
theorem dX10_lacking_56 : decode cX10_lacking 56 = .ok (.ireturn, 1) := by decide +kernel
theorem dX10_lacks_0 : decode cX10_lacks 0 = .ok (.iload_n 1, 1) := by decide +kernel
theorem dX10_lacks_1 : decode cX10_lacks 1 = .ok (.invokestatic 136, 3) := by decide +kernel
theorem dX10_lacks_4 : decode cX10_lacks 4 = .ok (.ifCond .ne 5, 3) := by decide +kernel
theorem dX10_lacks_7 : decode cX10_lacks 7 = .ok (.iconst (-1), 1) := by decide +kernel
theorem dX10_lacks_8 : decode cX10_lacks 8 = .ok (.ireturn, 1) := by decide +kernel
theorem dX10_lacks_9 : decode cX10_lacks 9 = .ok (.iload_n 2, 1) := by decide +kernel
theorem dX10_lacks_10 : decode cX10_lacks 10 = .ok (.iload_n 3, 1) := by decide +kernel
theorem dX10_lacks_11 : decode cX10_lacks 11 = .ok (.invokestatic 265, 3) := by decide +kernel
theorem dX10_lacks_14 : decode cX10_lacks 14 = .ok (.ifCond .ne 6, 3) := by decide +kernel
theorem dX10_lacks_17 : decode cX10_lacks 17 = .ok (.bipush (-2), 2) := by decide +kernel
theorem dX10_lacks_19 : decode cX10_lacks 19 = .ok (.ireturn, 1) := by decide +kernel
theorem dX10_lacks_20 : decode cX10_lacks 20 = .ok (.aload_n 0, 1) := by decide +kernel
theorem dX10_lacks_21 : decode cX10_lacks 21 = .ok (.getfield 11, 3) := by decide +kernel
theorem dX10_lacks_24 : decode cX10_lacks 24 = .ok (.iload_n 1, 1) := by decide +kernel
theorem dX10_lacks_25 : decode cX10_lacks 25 = .ok (.iaload, 1) := by decide +kernel
theorem dX10_lacks_26 : decode cX10_lacks 26 = .ok (.ifCond .ne 8, 3) := by decide +kernel
theorem dX10_lacks_29 : decode cX10_lacks 29 = .ok (.bipush (-3), 2) := by decide +kernel
theorem dX10_lacks_31 : decode cX10_lacks 31 = .ok (.goto 10, 3) := by decide +kernel
theorem dX10_lacks_34 : decode cX10_lacks 34 = .ok (.aload_n 0, 1) := by decide +kernel
theorem dX10_lacks_35 : decode cX10_lacks 35 = .ok (.iload_n 1, 1) := by decide +kernel
theorem dX10_lacks_36 : decode cX10_lacks 36 = .ok (.iload_n 2, 1) := by decide +kernel
theorem dX10_lacks_37 : decode cX10_lacks 37 = .ok (.iload_n 3, 1) := by decide +kernel
theorem dX10_lacks_38 : decode cX10_lacks 38 = .ok (.invokevirtual 283, 3) := by decide +kernel
theorem dX10_lacks_41 : decode cX10_lacks 41 = .ok (.ireturn, 1) := by decide +kernel
theorem dX10_begins_0 : decode cX10_begins 0 = .ok (.iconst 0, 1) := by decide +kernel
theorem dX10_begins_1 : decode cX10_begins 1 = .ok (.istore_n 1, 1) := by decide +kernel
theorem dX10_begins_2 : decode cX10_begins 2 = .ok (.iload_n 1, 1) := by decide +kernel
theorem dX10_begins_3 : decode cX10_begins 3 = .ok (.bipush 72, 2) := by decide +kernel
theorem dX10_begins_5 : decode cX10_begins 5 = .ok (.if_icmp .ge 26, 3) := by decide +kernel
theorem dX10_begins_8 : decode cX10_begins 8 = .ok (.aload_n 0, 1) := by decide +kernel
theorem dX10_begins_9 : decode cX10_begins 9 = .ok (.getfield 54, 3) := by decide +kernel
theorem dX10_begins_12 : decode cX10_begins 12 = .ok (.iload_n 1, 1) := by decide +kernel
theorem dX10_begins_13 : decode cX10_begins 13 = .ok (.iload_n 1, 1) := by decide +kernel
theorem dX10_begins_14 : decode cX10_begins 14 = .ok (.ifCond .ne 7, 3) := by decide +kernel
theorem dX10_begins_17 : decode cX10_begins 17 = .ok (.iconst 0, 1) := by decide +kernel
theorem dX10_begins_18 : decode cX10_begins 18 = .ok (.goto 6, 3) := by decide +kernel
theorem dX10_begins_21 : decode cX10_begins 21 = .ok (.sipush 1000, 3) := by decide +kernel
theorem dX10_begins_24 : decode cX10_begins 24 = .ok (.iastore, 1) := by decide +kernel
theorem dX10_begins_25 : decode cX10_begins 25 = .ok (.iinc 1 1, 3) := by decide +kernel
theorem dX10_begins_28 : decode cX10_begins 28 = .ok (.goto (-26), 3) := by decide +kernel
theorem dX10_begins_31 : decode cX10_begins 31 = .ok (.return_, 1) := by decide +kernel
theorem dX10_times_0 : decode cX10_times 0 = .ok (.iconst 0, 1) := by decide +kernel
theorem dX10_times_1 : decode cX10_times 1 = .ok (.istore_n 2, 1) := by decide +kernel
theorem dX10_times_2 : decode cX10_times 2 = .ok (.iload_n 2, 1) := by decide +kernel
theorem dX10_times_3 : decode cX10_times 3 = .ok (.bipush 72, 2) := by decide +kernel
theorem dX10_times_5 : decode cX10_times 5 = .ok (.if_icmp .ge 18, 3) := by decide +kernel
theorem dX10_times_8 : decode cX10_times 8 = .ok (.aload_n 0, 1) := by decide +kernel
theorem dX10_times_9 : decode cX10_times 9 = .ok (.getfield 57, 3) := by decide +kernel
theorem dX10_times_12 : decode cX10_times 12 = .ok (.iload_n 2, 1) := by decide +kernel
theorem dX10_times_13 : decode cX10_times 13 = .ok (.sipush 1000, 3) := by decide +kernel
theorem dX10_times_16 : decode cX10_times 16 = .ok (.iastore, 1) := by decide +kernel
theorem dX10_times_17 : decode cX10_times 17 = .ok (.iinc 2 1, 3) := by decide +kernel
theorem dX10_times_20 : decode cX10_times 20 = .ok (.goto (-18), 3) := by decide +kernel
theorem dX10_times_23 : decode cX10_times 23 = .ok (.iconst 0, 1) := by decide +kernel
theorem dX10_times_24 : decode cX10_times 24 = .ok (.istore_n 2, 1) := by decide +kernel
theorem dX10_times_25 : decode cX10_times 25 = .ok (.iload_n 2, 1) := by decide +kernel
theorem dX10_times_26 : decode cX10_times 26 = .ok (.aload_n 0, 1) := by decide +kernel
theorem dX10_times_27 : decode cX10_times 27 = .ok (.getfield 11, 3) := by decide +kernel
theorem dX10_times_30 : decode cX10_times 30 = .ok (.iload_n 1, 1) := by decide +kernel
theorem dX10_times_31 : decode cX10_times 31 = .ok (.iaload, 1) := by decide +kernel
theorem dX10_times_32 : decode cX10_times 32 = .ok (.if_icmp .ge 72, 3) := by decide +kernel
theorem dX10_times_35 : decode cX10_times 35 = .ok (.iconst 0, 1) := by decide +kernel
theorem dX10_times_36 : decode cX10_times 36 = .ok (.istore_n 3, 1) := by decide +kernel
theorem dX10_times_37 : decode cX10_times 37 = .ok (.iload_n 3, 1) := by decide +kernel
theorem dX10_times_38 : decode cX10_times 38 = .ok (.aload_n 0, 1) := by decide +kernel
theorem dX10_times_39 : decode cX10_times 39 = .ok (.iload_n 1, 1) := by decide +kernel
theorem dX10_times_40 : decode cX10_times 40 = .ok (.iload_n 2, 1) := by decide +kernel
theorem dX10_times_41 : decode cX10_times 41 = .ok (.invokevirtual 125, 3) := by decide +kernel
theorem dX10_times_44 : decode cX10_times 44 = .ok (.iadd, 1) := by decide +kernel
theorem dX10_times_45 : decode cX10_times 45 = .ok (.bipush 72, 2) := by decide +kernel
theorem dX10_times_47 : decode cX10_times 47 = .ok (.if_icmp .ge 51, 3) := by decide +kernel
theorem dX10_times_50 : decode cX10_times 50 = .ok (.aload_n 0, 1) := by decide +kernel
theorem dX10_times_51 : decode cX10_times 51 = .ok (.getfield 57, 3) := by decide +kernel
theorem dX10_times_54 : decode cX10_times 54 = .ok (.iload_n 3, 1) := by decide +kernel
theorem dX10_times_55 : decode cX10_times 55 = .ok (.aload_n 0, 1) := by decide +kernel
theorem dX10_times_56 : decode cX10_times 56 = .ok (.iload_n 1, 1) := by decide +kernel
theorem dX10_times_57 : decode cX10_times 57 = .ok (.iload_n 2, 1) := by decide +kernel
theorem dX10_times_58 : decode cX10_times 58 = .ok (.invokevirtual 125, 3) := by decide +kernel
theorem dX10_times_61 : decode cX10_times 61 = .ok (.iadd, 1) := by decide +kernel
theorem dX10_times_62 : decode cX10_times 62 = .ok (.aload_n 0, 1) := by decide +kernel
theorem dX10_times_63 : decode cX10_times 63 = .ok (.getfield 57, 3) := by decide +kernel
theorem dX10_times_66 : decode cX10_times 66 = .ok (.iload_n 3, 1) := by decide +kernel
theorem dX10_times_67 : decode cX10_times 67 = .ok (.aload_n 0, 1) := by decide +kernel
theorem dX10_times_68 : decode cX10_times 68 = .ok (.iload_n 1, 1) := by decide +kernel
theorem dX10_times_69 : decode cX10_times 69 = .ok (.iload_n 2, 1) := by decide +kernel
theorem dX10_times_70 : decode cX10_times 70 = .ok (.invokevirtual 125, 3) := by decide +kernel
theorem dX10_times_73 : decode cX10_times 73 = .ok (.iadd, 1) := by decide +kernel
theorem dX10_times_74 : decode cX10_times 74 = .ok (.iaload, 1) := by decide +kernel
theorem dX10_times_75 : decode cX10_times 75 = .ok (.aload_n 0, 1) := by decide +kernel
theorem dX10_times_76 : decode cX10_times 76 = .ok (.getfield 54, 3) := by decide +kernel
theorem dX10_times_79 : decode cX10_times 79 = .ok (.iload_n 3, 1) := by decide +kernel
theorem dX10_times_80 : decode cX10_times 80 = .ok (.iaload, 1) := by decide +kernel
theorem dX10_times_81 : decode cX10_times 81 = .ok (.aload_n 0, 1) := by decide +kernel
theorem dX10_times_82 : decode cX10_times 82 = .ok (.iload_n 1, 1) := by decide +kernel
theorem dX10_times_83 : decode cX10_times 83 = .ok (.iload_n 2, 1) := by decide +kernel
theorem dX10_times_84 : decode cX10_times 84 = .ok (.invokevirtual 129, 3) := by decide +kernel
theorem dX10_times_87 : decode cX10_times 87 = .ok (.iadd, 1) := by decide +kernel
theorem dX10_times_88 : decode cX10_times 88 = .ok (.invokestatic 216, 3) := by decide +kernel
theorem dX10_times_91 : decode cX10_times 91 = .ok (.iastore, 1) := by decide +kernel
theorem dX10_times_92 : decode cX10_times 92 = .ok (.iinc 3 1, 3) := by decide +kernel
theorem dX10_times_95 : decode cX10_times 95 = .ok (.goto (-58), 3) := by decide +kernel
theorem dX10_times_98 : decode cX10_times 98 = .ok (.iinc 2 1, 3) := by decide +kernel
theorem dX10_times_101 : decode cX10_times 101 = .ok (.goto (-76), 3) := by decide +kernel
theorem dX10_times_104 : decode cX10_times 104 = .ok (.iconst 0, 1) := by decide +kernel
theorem dX10_times_105 : decode cX10_times 105 = .ok (.istore_n 2, 1) := by decide +kernel
theorem dX10_times_106 : decode cX10_times 106 = .ok (.iload_n 2, 1) := by decide +kernel
theorem dX10_times_107 : decode cX10_times 107 = .ok (.bipush 72, 2) := by decide +kernel
theorem dX10_times_109 : decode cX10_times 109 = .ok (.if_icmp .ge 27, 3) := by decide +kernel
theorem dX10_times_112 : decode cX10_times 112 = .ok (.aload_n 0, 1) := by decide +kernel
theorem dX10_times_113 : decode cX10_times 113 = .ok (.getfield 54, 3) := by decide +kernel
theorem dX10_times_116 : decode cX10_times 116 = .ok (.iload_n 2, 1) := by decide +kernel
theorem dX10_times_117 : decode cX10_times 117 = .ok (.aload_n 0, 1) := by decide +kernel
theorem dX10_times_118 : decode cX10_times 118 = .ok (.getfield 57, 3) := by decide +kernel
theorem dX10_times_121 : decode cX10_times 121 = .ok (.iload_n 2, 1) := by decide +kernel
theorem dX10_times_122 : decode cX10_times 122 = .ok (.iaload, 1) := by decide +kernel
theorem dX10_times_123 : decode cX10_times 123 = .ok (.sipush 1000, 3) := by decide +kernel
theorem dX10_times_126 : decode cX10_times 126 = .ok (.invokestatic 216, 3) := by decide +kernel
theorem dX10_times_129 : decode cX10_times 129 = .ok (.iastore, 1) := by decide +kernel
theorem dX10_times_130 : decode cX10_times 130 = .ok (.iinc 2 1, 3) := by decide +kernel
theorem dX10_times_133 : decode cX10_times 133 = .ok (.goto (-27), 3) := by decide +kernel
theorem dX10_times_136 : decode cX10_times 136 = .ok (.return_, 1) := by decide +kernel
theorem dX10_settles_0 : decode cX10_settles 0 = .ok (.iconst 1, 1) := by decide +kernel
theorem dX10_settles_1 : decode cX10_settles 1 = .ok (.istore_n 1, 1) := by decide +kernel
theorem dX10_settles_2 : decode cX10_settles 2 = .ok (.iload_n 1, 1) := by decide +kernel
theorem dX10_settles_3 : decode cX10_settles 3 = .ok (.bipush 72, 2) := by decide +kernel
theorem dX10_settles_5 : decode cX10_settles 5 = .ok (.if_icmp .ge 32, 3) := by decide +kernel
theorem dX10_settles_8 : decode cX10_settles 8 = .ok (.aload_n 0, 1) := by decide +kernel
theorem dX10_settles_9 : decode cX10_settles 9 = .ok (.getfield 54, 3) := by decide +kernel
theorem dX10_settles_12 : decode cX10_settles 12 = .ok (.iload_n 1, 1) := by decide +kernel
theorem dX10_settles_13 : decode cX10_settles 13 = .ok (.aload_n 0, 1) := by decide +kernel
theorem dX10_settles_14 : decode cX10_settles 14 = .ok (.getfield 54, 3) := by decide +kernel
theorem dX10_settles_17 : decode cX10_settles 17 = .ok (.iload_n 1, 1) := by decide +kernel
theorem dX10_settles_18 : decode cX10_settles 18 = .ok (.iaload, 1) := by decide +kernel
theorem dX10_settles_19 : decode cX10_settles 19 = .ok (.aload_n 0, 1) := by decide +kernel
theorem dX10_settles_20 : decode cX10_settles 20 = .ok (.getfield 54, 3) := by decide +kernel
theorem dX10_settles_23 : decode cX10_settles 23 = .ok (.iload_n 1, 1) := by decide +kernel
theorem dX10_settles_24 : decode cX10_settles 24 = .ok (.iconst 1, 1) := by decide +kernel
theorem dX10_settles_25 : decode cX10_settles 25 = .ok (.isub, 1) := by decide +kernel
theorem dX10_settles_26 : decode cX10_settles 26 = .ok (.iaload, 1) := by decide +kernel
theorem dX10_settles_27 : decode cX10_settles 27 = .ok (.invokestatic 216, 3) := by decide +kernel
theorem dX10_settles_30 : decode cX10_settles 30 = .ok (.iastore, 1) := by decide +kernel
theorem dX10_settles_31 : decode cX10_settles 31 = .ok (.iinc 1 1, 3) := by decide +kernel
theorem dX10_settles_34 : decode cX10_settles 34 = .ok (.goto (-32), 3) := by decide +kernel
theorem dX10_settles_37 : decode cX10_settles 37 = .ok (.return_, 1) := by decide +kernel
theorem dX10_powers_0 : decode cX10_powers 0 = .ok (.aload_n 0, 1) := by decide +kernel
theorem dX10_powers_1 : decode cX10_powers 1 = .ok (.invokevirtual 286, 3) := by decide +kernel
theorem dX10_powers_4 : decode cX10_powers 4 = .ok (.iconst 0, 1) := by decide +kernel
theorem dX10_powers_5 : decode cX10_powers 5 = .ok (.istore_n 3, 1) := by decide +kernel
theorem dX10_powers_6 : decode cX10_powers 6 = .ok (.iload_n 3, 1) := by decide +kernel
theorem dX10_powers_7 : decode cX10_powers 7 = .ok (.iload_n 2, 1) := by decide +kernel
theorem dX10_powers_8 : decode cX10_powers 8 = .ok (.if_icmp .ge 14, 3) := by decide +kernel
theorem dX10_powers_11 : decode cX10_powers 11 = .ok (.aload_n 0, 1) := by decide +kernel
theorem dX10_powers_12 : decode cX10_powers 12 = .ok (.iload_n 1, 1) := by decide +kernel
theorem dX10_powers_13 : decode cX10_powers 13 = .ok (.invokevirtual 289, 3) := by decide +kernel
theorem dX10_powers_16 : decode cX10_powers 16 = .ok (.iinc 3 1, 3) := by decide +kernel
theorem dX10_powers_19 : decode cX10_powers 19 = .ok (.goto (-13), 3) := by decide +kernel
theorem dX10_powers_22 : decode cX10_powers 22 = .ok (.return_, 1) := by decide +kernel
theorem dX10_heightAt_0 : decode cX10_heightAt 0 = .ok (.aload_n 0, 1) := by decide +kernel
theorem dX10_heightAt_1 : decode cX10_heightAt 1 = .ok (.invokevirtual 292, 3) := by decide +kernel
theorem dX10_heightAt_4 : decode cX10_heightAt 4 = .ok (.aload_n 0, 1) := by decide +kernel
theorem dX10_heightAt_5 : decode cX10_heightAt 5 = .ok (.getfield 54, 3) := by decide +kernel
theorem dX10_heightAt_8 : decode cX10_heightAt 8 = .ok (.iload_n 1, 1) := by decide +kernel
theorem dX10_heightAt_9 : decode cX10_heightAt 9 = .ok (.iaload, 1) := by decide +kernel
theorem dX10_heightAt_10 : decode cX10_heightAt 10 = .ok (.sipush 1000, 3) := by decide +kernel
theorem dX10_heightAt_13 : decode cX10_heightAt 13 = .ok (.if_icmp .ne 8, 3) := by decide +kernel
theorem dX10_heightAt_16 : decode cX10_heightAt 16 = .ok (.bipush (-5), 2) := by decide +kernel
theorem dX10_heightAt_18 : decode cX10_heightAt 18 = .ok (.goto 9, 3) := by decide +kernel
theorem dX10_heightAt_21 : decode cX10_heightAt 21 = .ok (.aload_n 0, 1) := by decide +kernel
theorem dX10_heightAt_22 : decode cX10_heightAt 22 = .ok (.getfield 54, 3) := by decide +kernel
theorem dX10_heightAt_25 : decode cX10_heightAt 25 = .ok (.iload_n 1, 1) := by decide +kernel
theorem dX10_heightAt_26 : decode cX10_heightAt 26 = .ok (.iaload, 1) := by decide +kernel
theorem dX10_heightAt_27 : decode cX10_heightAt 27 = .ok (.ireturn, 1) := by decide +kernel
theorem dX10_heightOf_0 : decode cX10_heightOf 0 = .ok (.aload_n 0, 1) := by decide +kernel
theorem dX10_heightOf_1 : decode cX10_heightOf 1 = .ok (.iload_n 1, 1) := by decide +kernel
theorem dX10_heightOf_2 : decode cX10_heightOf 2 = .ok (.iconst 1, 1) := by decide +kernel
theorem dX10_heightOf_3 : decode cX10_heightOf 3 = .ok (.invokevirtual 295, 3) := by decide +kernel
theorem dX10_heightOf_6 : decode cX10_heightOf 6 = .ok (.aload_n 0, 1) := by decide +kernel
theorem dX10_heightOf_7 : decode cX10_heightOf 7 = .ok (.iload_n 2, 1) := by decide +kernel
theorem dX10_heightOf_8 : decode cX10_heightOf 8 = .ok (.invokevirtual 298, 3) := by decide +kernel
theorem dX10_heightOf_11 : decode cX10_heightOf 11 = .ok (.ireturn, 1) := by decide +kernel
theorem dX10_sumHeight_0 : decode cX10_sumHeight 0 = .ok (.aload_n 0, 1) := by decide +kernel
theorem dX10_sumHeight_1 : decode cX10_sumHeight 1 = .ok (.iconst 0, 1) := by decide +kernel
theorem dX10_sumHeight_2 : decode cX10_sumHeight 2 = .ok (.iload_n 1, 1) := by decide +kernel
theorem dX10_sumHeight_3 : decode cX10_sumHeight 3 = .ok (.invokevirtual 301, 3) := by decide +kernel
theorem dX10_sumHeight_6 : decode cX10_sumHeight 6 = .ok (.istore_n 2, 1) := by decide +kernel
theorem dX10_sumHeight_7 : decode cX10_sumHeight 7 = .ok (.aload_n 0, 1) := by decide +kernel
theorem dX10_sumHeight_8 : decode cX10_sumHeight 8 = .ok (.iconst 1, 1) := by decide +kernel
theorem dX10_sumHeight_9 : decode cX10_sumHeight 9 = .ok (.iload_n 1, 1) := by decide +kernel
theorem dX10_sumHeight_10 : decode cX10_sumHeight 10 = .ok (.invokevirtual 301, 3) := by decide +kernel
theorem dX10_sumHeight_13 : decode cX10_sumHeight 13 = .ok (.istore_n 3, 1) := by decide +kernel
theorem dX10_sumHeight_14 : decode cX10_sumHeight 14 = .ok (.iload_n 2, 1) := by decide +kernel
theorem dX10_sumHeight_15 : decode cX10_sumHeight 15 = .ok (.bipush (-5), 2) := by decide +kernel
theorem dX10_sumHeight_17 : decode cX10_sumHeight 17 = .ok (.if_icmp .ne 7, 3) := by decide +kernel
theorem dX10_sumHeight_20 : decode cX10_sumHeight 20 = .ok (.iload_n 3, 1) := by decide +kernel
theorem dX10_sumHeight_21 : decode cX10_sumHeight 21 = .ok (.goto 18, 3) := by decide +kernel
theorem dX10_sumHeight_24 : decode cX10_sumHeight 24 = .ok (.iload_n 3, 1) := by decide +kernel
theorem dX10_sumHeight_25 : decode cX10_sumHeight 25 = .ok (.bipush (-5), 2) := by decide +kernel
theorem dX10_sumHeight_27 : decode cX10_sumHeight 27 = .ok (.if_icmp .ne 7, 3) := by decide +kernel
theorem dX10_sumHeight_30 : decode cX10_sumHeight 30 = .ok (.iload_n 2, 1) := by decide +kernel
theorem dX10_sumHeight_31 : decode cX10_sumHeight 31 = .ok (.goto 8, 3) := by decide +kernel
theorem dX10_sumHeight_34 : decode cX10_sumHeight 34 = .ok (.iload_n 2, 1) := by decide +kernel
theorem dX10_sumHeight_35 : decode cX10_sumHeight 35 = .ok (.iload_n 3, 1) := by decide +kernel
theorem dX10_sumHeight_36 : decode cX10_sumHeight 36 = .ok (.invokestatic 216, 3) := by decide +kernel
theorem dX10_sumHeight_39 : decode cX10_sumHeight 39 = .ok (.ireturn, 1) := by decide +kernel
theorem dX10_height_0 : decode cX10_height 0 = .ok (.iload_n 1, 1) := by decide +kernel
theorem dX10_height_1 : decode cX10_height 1 = .ok (.invokestatic 136, 3) := by decide +kernel
theorem dX10_height_4 : decode cX10_height 4 = .ok (.ifCond .eq 29, 3) := by decide +kernel
theorem dX10_height_7 : decode cX10_height 7 = .ok (.iload_n 2, 1) := by decide +kernel
theorem dX10_height_8 : decode cX10_height 8 = .ok (.i2l, 1) := by decide +kernel
theorem dX10_height_9 : decode cX10_height 9 = .ok (.lconst 0, 1) := by decide +kernel
theorem dX10_height_10 : decode cX10_height 10 = .ok (.ldc2_w 241, 3) := by decide +kernel
theorem dX10_height_13 : decode cX10_height 13 = .ok (.invokestatic 115, 3) := by decide +kernel
theorem dX10_height_16 : decode cX10_height 16 = .ok (.ifCond .ne 19, 3) := by decide +kernel
theorem dX10_height_19 : decode cX10_height 19 = .ok (.iload_n 2, 1) := by decide +kernel
theorem dX10_height_20 : decode cX10_height 20 = .ok (.i2l, 1) := by decide +kernel
theorem dX10_height_21 : decode cX10_height 21 = .ok (.ldc2_w 304, 3) := by decide +kernel
theorem dX10_height_24 : decode cX10_height 24 = .ok (.ldc2_w 306, 3) := by decide +kernel
theorem dX10_height_27 : decode cX10_height 27 = .ok (.invokestatic 115, 3) := by decide +kernel
theorem dX10_height_30 : decode cX10_height 30 = .ok (.ifCond .ne 5, 3) := by decide +kernel
theorem dX10_height_33 : decode cX10_height 33 = .ok (.iconst (-1), 1) := by decide +kernel
theorem dX10_height_34 : decode cX10_height 34 = .ok (.ireturn, 1) := by decide +kernel
theorem dX10_height_35 : decode cX10_height 35 = .ok (.iload_n 3, 1) := by decide +kernel
theorem dX10_height_36 : decode cX10_height 36 = .ok (.i2l, 1) := by decide +kernel
theorem dX10_height_37 : decode cX10_height 37 = .ok (.lconst 0, 1) := by decide +kernel
theorem dX10_height_38 : decode cX10_height 38 = .ok (.ldc2_w 308, 3) := by decide +kernel
theorem dX10_height_41 : decode cX10_height 41 = .ok (.invokestatic 115, 3) := by decide +kernel
theorem dX10_height_44 : decode cX10_height 44 = .ok (.ifCond .ne 6, 3) := by decide +kernel
theorem dX10_height_47 : decode cX10_height 47 = .ok (.bipush (-2), 2) := by decide +kernel
theorem dX10_height_49 : decode cX10_height 49 = .ok (.ireturn, 1) := by decide +kernel
theorem dX10_height_50 : decode cX10_height 50 = .ok (.iload_n 2, 1) := by decide +kernel
theorem dX10_height_51 : decode cX10_height 51 = .ok (.ifCond .ne 10, 3) := by decide +kernel
theorem dX10_height_54 : decode cX10_height 54 = .ok (.aload_n 0, 1) := by decide +kernel
theorem dX10_height_55 : decode cX10_height 55 = .ok (.iload_n 1, 1) := by decide +kernel
theorem dX10_height_56 : decode cX10_height 56 = .ok (.iload_n 3, 1) := by decide +kernel
theorem dX10_height_57 : decode cX10_height 57 = .ok (.invokevirtual 301, 3) := by decide +kernel
theorem dX10_height_60 : decode cX10_height 60 = .ok (.ireturn, 1) := by decide +kernel
theorem dX10_height_61 : decode cX10_height 61 = .ok (.iload_n 2, 1) := by decide +kernel
theorem dX10_height_62 : decode cX10_height 62 = .ok (.iconst 1, 1) := by decide +kernel
theorem dX10_height_63 : decode cX10_height 63 = .ok (.if_icmp .ne 9, 3) := by decide +kernel
theorem dX10_height_66 : decode cX10_height 66 = .ok (.aload_n 0, 1) := by decide +kernel
theorem dX10_height_67 : decode cX10_height 67 = .ok (.iload_n 3, 1) := by decide +kernel
theorem dX10_height_68 : decode cX10_height 68 = .ok (.invokevirtual 310, 3) := by decide +kernel
theorem dX10_height_71 : decode cX10_height 71 = .ok (.ireturn, 1) := by decide +kernel
theorem dX10_height_72 : decode cX10_height 72 = .ok (.iload_n 2, 1) := by decide +kernel
theorem dX10_height_73 : decode cX10_height 73 = .ok (.iconst 2, 1) := by decide +kernel
theorem dX10_height_74 : decode cX10_height 74 = .ok (.if_icmp .ne 17, 3) := by decide +kernel
theorem dX10_height_77 : decode cX10_height 77 = .ok (.aload_n 0, 1) := by decide +kernel
theorem dX10_height_78 : decode cX10_height 78 = .ok (.iconst 0, 1) := by decide +kernel
theorem dX10_height_79 : decode cX10_height 79 = .ok (.iconst 1, 1) := by decide +kernel
theorem dX10_height_80 : decode cX10_height 80 = .ok (.invokevirtual 295, 3) := by decide +kernel
theorem dX10_height_83 : decode cX10_height 83 = .ok (.aload_n 0, 1) := by decide +kernel
theorem dX10_height_84 : decode cX10_height 84 = .ok (.iconst 1, 1) := by decide +kernel
theorem dX10_height_85 : decode cX10_height 85 = .ok (.invokevirtual 289, 3) := by decide +kernel
theorem dX10_height_88 : decode cX10_height 88 = .ok (.goto 12, 3) := by decide +kernel
theorem dX10_height_91 : decode cX10_height 91 = .ok (.aload_n 0, 1) := by decide +kernel
theorem dX10_height_92 : decode cX10_height 92 = .ok (.iload_n 1, 1) := by decide +kernel
theorem dX10_height_93 : decode cX10_height 93 = .ok (.iload_n 2, 1) := by decide +kernel
theorem dX10_height_94 : decode cX10_height 94 = .ok (.bipush 10, 2) := by decide +kernel
theorem dX10_height_96 : decode cX10_height 96 = .ok (.isub, 1) := by decide +kernel
theorem dX10_height_97 : decode cX10_height 97 = .ok (.invokevirtual 295, 3) := by decide +kernel
theorem dX10_height_100 : decode cX10_height 100 = .ok (.aload_n 0, 1) := by decide +kernel
theorem dX10_height_101 : decode cX10_height 101 = .ok (.iload_n 3, 1) := by decide +kernel
theorem dX10_height_102 : decode cX10_height 102 = .ok (.invokevirtual 298, 3) := by decide +kernel
theorem dX10_height_105 : decode cX10_height 105 = .ok (.ireturn, 1) := by decide +kernel
theorem dX10_isReduction_0 : decode cX10_isReduction 0 = .ok (.aload_n 0, 1) := by decide +kernel
theorem dX10_isReduction_1 : decode cX10_isReduction 1 = .ok (.getfield 11, 3) := by decide +kernel
theorem dX10_isReduction_4 : decode cX10_isReduction 4 = .ok (.iconst 0, 1) := by decide +kernel
theorem dX10_isReduction_5 : decode cX10_isReduction 5 = .ok (.iaload, 1) := by decide +kernel
theorem dX10_isReduction_6 : decode cX10_isReduction 6 = .ok (.ifCond .eq 12, 3) := by decide +kernel
theorem dX10_isReduction_9 : decode cX10_isReduction 9 = .ok (.aload_n 0, 1) := by decide +kernel
theorem dX10_isReduction_10 : decode cX10_isReduction 10 = .ok (.getfield 11, 3) := by decide +kernel
theorem dX10_isReduction_13 : decode cX10_isReduction 13 = .ok (.iconst 1, 1) := by decide +kernel
theorem dX10_isReduction_14 : decode cX10_isReduction 14 = .ok (.iaload, 1) := by decide +kernel
theorem dX10_isReduction_15 : decode cX10_isReduction 15 = .ok (.ifCond .ne 5, 3) := by decide +kernel
theorem dX10_isReduction_18 : decode cX10_isReduction 18 = .ok (.iconst 0, 1) := by decide +kernel
theorem dX10_isReduction_19 : decode cX10_isReduction 19 = .ok (.ireturn, 1) := by decide +kernel
theorem dX10_isReduction_20 : decode cX10_isReduction 20 = .ok (.iconst 1, 1) := by decide +kernel
theorem dX10_isReduction_21 : decode cX10_isReduction 21 = .ok (.istore_n 1, 1) := by decide +kernel
theorem dX10_isReduction_22 : decode cX10_isReduction 22 = .ok (.iconst 0, 1) := by decide +kernel
theorem dX10_isReduction_23 : decode cX10_isReduction 23 = .ok (.istore_n 2, 1) := by decide +kernel
theorem dX10_isReduction_24 : decode cX10_isReduction 24 = .ok (.iload_n 2, 1) := by decide +kernel
theorem dX10_isReduction_25 : decode cX10_isReduction 25 = .ok (.aload_n 0, 1) := by decide +kernel
theorem dX10_isReduction_26 : decode cX10_isReduction 26 = .ok (.getfield 11, 3) := by decide +kernel
theorem dX10_isReduction_29 : decode cX10_isReduction 29 = .ok (.iconst 0, 1) := by decide +kernel
theorem dX10_isReduction_30 : decode cX10_isReduction 30 = .ok (.iaload, 1) := by decide +kernel
theorem dX10_isReduction_31 : decode cX10_isReduction 31 = .ok (.if_icmp .ge 39, 3) := by decide +kernel
theorem dX10_isReduction_34 : decode cX10_isReduction 34 = .ok (.iload_n 1, 1) := by decide +kernel
theorem dX10_isReduction_35 : decode cX10_isReduction 35 = .ok (.ifCond .eq 27, 3) := by decide +kernel
theorem dX10_isReduction_38 : decode cX10_isReduction 38 = .ok (.aload_n 0, 1) := by decide +kernel
theorem dX10_isReduction_39 : decode cX10_isReduction 39 = .ok (.iconst 1, 1) := by decide +kernel
theorem dX10_isReduction_40 : decode cX10_isReduction 40 = .ok (.aload_n 0, 1) := by decide +kernel
theorem dX10_isReduction_41 : decode cX10_isReduction 41 = .ok (.iconst 0, 1) := by decide +kernel
theorem dX10_isReduction_42 : decode cX10_isReduction 42 = .ok (.iload_n 2, 1) := by decide +kernel
theorem dX10_isReduction_43 : decode cX10_isReduction 43 = .ok (.invokevirtual 125, 3) := by decide +kernel
theorem dX10_isReduction_46 : decode cX10_isReduction 46 = .ok (.aload_n 0, 1) := by decide +kernel
theorem dX10_isReduction_47 : decode cX10_isReduction 47 = .ok (.iconst 0, 1) := by decide +kernel
theorem dX10_isReduction_48 : decode cX10_isReduction 48 = .ok (.iload_n 2, 1) := by decide +kernel
theorem dX10_isReduction_49 : decode cX10_isReduction 49 = .ok (.invokevirtual 129, 3) := by decide +kernel
theorem dX10_isReduction_52 : decode cX10_isReduction 52 = .ok (.invokevirtual 234, 3) := by decide +kernel
theorem dX10_isReduction_55 : decode cX10_isReduction 55 = .ok (.ifCond .eq 7, 3) := by decide +kernel
theorem dX10_isReduction_58 : decode cX10_isReduction 58 = .ok (.iconst 1, 1) := by decide +kernel
theorem dX10_isReduction_59 : decode cX10_isReduction 59 = .ok (.goto 4, 3) := by decide +kernel
theorem dX10_isReduction_62 : decode cX10_isReduction 62 = .ok (.iconst 0, 1) := by decide +kernel
theorem dX10_isReduction_63 : decode cX10_isReduction 63 = .ok (.istore_n 1, 1) := by decide +kernel
theorem dX10_isReduction_64 : decode cX10_isReduction 64 = .ok (.iinc 2 1, 3) := by decide +kernel
theorem dX10_isReduction_67 : decode cX10_isReduction 67 = .ok (.goto (-43), 3) := by decide +kernel
theorem dX10_isReduction_70 : decode cX10_isReduction 70 = .ok (.aload_n 0, 1) := by decide +kernel
theorem dX10_isReduction_71 : decode cX10_isReduction 71 = .ok (.iconst 0, 1) := by decide +kernel
theorem dX10_isReduction_72 : decode cX10_isReduction 72 = .ok (.invokevirtual 166, 3) := by decide +kernel
theorem dX10_isReduction_75 : decode cX10_isReduction 75 = .ok (.iconst 0, 1) := by decide +kernel
theorem dX10_isReduction_76 : decode cX10_isReduction 76 = .ok (.istore_n 2, 1) := by decide +kernel
theorem dX10_isReduction_77 : decode cX10_isReduction 77 = .ok (.iload_n 2, 1) := by decide +kernel
theorem dX10_isReduction_78 : decode cX10_isReduction 78 = .ok (.aload_n 0, 1) := by decide +kernel
theorem dX10_isReduction_79 : decode cX10_isReduction 79 = .ok (.getfield 11, 3) := by decide +kernel
theorem dX10_isReduction_82 : decode cX10_isReduction 82 = .ok (.iconst 1, 1) := by decide +kernel
theorem dX10_isReduction_83 : decode cX10_isReduction 83 = .ok (.iaload, 1) := by decide +kernel
theorem dX10_isReduction_84 : decode cX10_isReduction 84 = .ok (.if_icmp .ge 38, 3) := by decide +kernel
theorem dX10_isReduction_87 : decode cX10_isReduction 87 = .ok (.iload_n 1, 1) := by decide +kernel
theorem dX10_isReduction_88 : decode cX10_isReduction 88 = .ok (.ifCond .eq 26, 3) := by decide +kernel
theorem dX10_isReduction_91 : decode cX10_isReduction 91 = .ok (.aload_n 0, 1) := by decide +kernel
theorem dX10_isReduction_92 : decode cX10_isReduction 92 = .ok (.aload_n 0, 1) := by decide +kernel
theorem dX10_isReduction_93 : decode cX10_isReduction 93 = .ok (.iconst 1, 1) := by decide +kernel
theorem dX10_isReduction_94 : decode cX10_isReduction 94 = .ok (.iload_n 2, 1) := by decide +kernel
theorem dX10_isReduction_95 : decode cX10_isReduction 95 = .ok (.invokevirtual 125, 3) := by decide +kernel
theorem dX10_isReduction_98 : decode cX10_isReduction 98 = .ok (.aload_n 0, 1) := by decide +kernel
theorem dX10_isReduction_99 : decode cX10_isReduction 99 = .ok (.iconst 1, 1) := by decide +kernel
theorem dX10_isReduction_100 : decode cX10_isReduction 100 = .ok (.iload_n 2, 1) := by decide +kernel
theorem dX10_isReduction_101 : decode cX10_isReduction 101 = .ok (.invokevirtual 129, 3) := by decide +kernel
theorem dX10_isReduction_104 : decode cX10_isReduction 104 = .ok (.invokevirtual 163, 3) := by decide +kernel
theorem dX10_isReduction_107 : decode cX10_isReduction 107 = .ok (.ifCond .eq 7, 3) := by decide +kernel
theorem dX10_isReduction_110 : decode cX10_isReduction 110 = .ok (.iconst 1, 1) := by decide +kernel
theorem dX10_isReduction_111 : decode cX10_isReduction 111 = .ok (.goto 4, 3) := by decide +kernel
theorem dX10_isReduction_114 : decode cX10_isReduction 114 = .ok (.iconst 0, 1) := by decide +kernel
theorem dX10_isReduction_115 : decode cX10_isReduction 115 = .ok (.istore_n 1, 1) := by decide +kernel
theorem dX10_isReduction_116 : decode cX10_isReduction 116 = .ok (.iinc 2 1, 3) := by decide +kernel
theorem dX10_isReduction_119 : decode cX10_isReduction 119 = .ok (.goto (-42), 3) := by decide +kernel
theorem dX10_isReduction_122 : decode cX10_isReduction 122 = .ok (.iload_n 1, 1) := by decide +kernel
theorem dX10_isReduction_123 : decode cX10_isReduction 123 = .ok (.ireturn, 1) := by decide +kernel
theorem dX10_isMetBy_0 : decode cX10_isMetBy 0 = .ok (.aload_n 0, 1) := by decide +kernel
theorem dX10_isMetBy_1 : decode cX10_isMetBy 1 = .ok (.iconst 1, 1) := by decide +kernel
theorem dX10_isMetBy_2 : decode cX10_isMetBy 2 = .ok (.iload_n 1, 1) := by decide +kernel
theorem dX10_isMetBy_3 : decode cX10_isMetBy 3 = .ok (.invokevirtual 295, 3) := by decide +kernel
theorem dX10_isMetBy_6 : decode cX10_isMetBy 6 = .ok (.aload_n 0, 1) := by decide +kernel
theorem dX10_isMetBy_7 : decode cX10_isMetBy 7 = .ok (.iconst 0, 1) := by decide +kernel
theorem dX10_isMetBy_8 : decode cX10_isMetBy 8 = .ok (.invokevirtual 289, 3) := by decide +kernel
theorem dX10_isMetBy_11 : decode cX10_isMetBy 11 = .ok (.aload_n 0, 1) := by decide +kernel
theorem dX10_isMetBy_12 : decode cX10_isMetBy 12 = .ok (.invokevirtual 292, 3) := by decide +kernel
theorem dX10_isMetBy_15 : decode cX10_isMetBy 15 = .ok (.iconst 0, 1) := by decide +kernel
theorem dX10_isMetBy_16 : decode cX10_isMetBy 16 = .ok (.istore_n 2, 1) := by decide +kernel
theorem dX10_isMetBy_17 : decode cX10_isMetBy 17 = .ok (.iload_n 2, 1) := by decide +kernel
theorem dX10_isMetBy_18 : decode cX10_isMetBy 18 = .ok (.bipush 72, 2) := by decide +kernel
theorem dX10_isMetBy_20 : decode cX10_isMetBy 20 = .ok (.if_icmp .ge 21, 3) := by decide +kernel
theorem dX10_isMetBy_23 : decode cX10_isMetBy 23 = .ok (.aload_n 0, 1) := by decide +kernel
theorem dX10_isMetBy_24 : decode cX10_isMetBy 24 = .ok (.getfield 60, 3) := by decide +kernel
theorem dX10_isMetBy_27 : decode cX10_isMetBy 27 = .ok (.iload_n 2, 1) := by decide +kernel
theorem dX10_isMetBy_28 : decode cX10_isMetBy 28 = .ok (.aload_n 0, 1) := by decide +kernel
theorem dX10_isMetBy_29 : decode cX10_isMetBy 29 = .ok (.getfield 54, 3) := by decide +kernel
theorem dX10_isMetBy_32 : decode cX10_isMetBy 32 = .ok (.iload_n 2, 1) := by decide +kernel
theorem dX10_isMetBy_33 : decode cX10_isMetBy 33 = .ok (.iaload, 1) := by decide +kernel
theorem dX10_isMetBy_34 : decode cX10_isMetBy 34 = .ok (.iastore, 1) := by decide +kernel
theorem dX10_isMetBy_35 : decode cX10_isMetBy 35 = .ok (.iinc 2 1, 3) := by decide +kernel
theorem dX10_isMetBy_38 : decode cX10_isMetBy 38 = .ok (.goto (-21), 3) := by decide +kernel
theorem dX10_isMetBy_41 : decode cX10_isMetBy 41 = .ok (.aload_n 0, 1) := by decide +kernel
theorem dX10_isMetBy_42 : decode cX10_isMetBy 42 = .ok (.iconst 1, 1) := by decide +kernel
theorem dX10_isMetBy_43 : decode cX10_isMetBy 43 = .ok (.iload_n 1, 1) := by decide +kernel
theorem dX10_isMetBy_44 : decode cX10_isMetBy 44 = .ok (.iconst 1, 1) := by decide +kernel
theorem dX10_isMetBy_45 : decode cX10_isMetBy 45 = .ok (.iadd, 1) := by decide +kernel
theorem dX10_isMetBy_46 : decode cX10_isMetBy 46 = .ok (.invokevirtual 295, 3) := by decide +kernel
theorem dX10_isMetBy_49 : decode cX10_isMetBy 49 = .ok (.aload_n 0, 1) := by decide +kernel
theorem dX10_isMetBy_50 : decode cX10_isMetBy 50 = .ok (.invokevirtual 292, 3) := by decide +kernel
theorem dX10_isMetBy_53 : decode cX10_isMetBy 53 = .ok (.iconst 1, 1) := by decide +kernel
theorem dX10_isMetBy_54 : decode cX10_isMetBy 54 = .ok (.istore_n 2, 1) := by decide +kernel
theorem dX10_isMetBy_55 : decode cX10_isMetBy 55 = .ok (.iconst 0, 1) := by decide +kernel
theorem dX10_isMetBy_56 : decode cX10_isMetBy 56 = .ok (.istore_n 3, 1) := by decide +kernel
theorem dX10_isMetBy_57 : decode cX10_isMetBy 57 = .ok (.iload_n 3, 1) := by decide +kernel
theorem dX10_isMetBy_58 : decode cX10_isMetBy 58 = .ok (.bipush 72, 2) := by decide +kernel
theorem dX10_isMetBy_60 : decode cX10_isMetBy 60 = .ok (.if_icmp .ge 34, 3) := by decide +kernel
theorem dX10_isMetBy_63 : decode cX10_isMetBy 63 = .ok (.iload_n 2, 1) := by decide +kernel
theorem dX10_isMetBy_64 : decode cX10_isMetBy 64 = .ok (.ifCond .eq 22, 3) := by decide +kernel
theorem dX10_isMetBy_67 : decode cX10_isMetBy 67 = .ok (.aload_n 0, 1) := by decide +kernel
theorem dX10_isMetBy_68 : decode cX10_isMetBy 68 = .ok (.getfield 60, 3) := by decide +kernel
theorem dX10_isMetBy_71 : decode cX10_isMetBy 71 = .ok (.iload_n 3, 1) := by decide +kernel
theorem dX10_isMetBy_72 : decode cX10_isMetBy 72 = .ok (.iaload, 1) := by decide +kernel
theorem dX10_isMetBy_73 : decode cX10_isMetBy 73 = .ok (.aload_n 0, 1) := by decide +kernel
theorem dX10_isMetBy_74 : decode cX10_isMetBy 74 = .ok (.getfield 54, 3) := by decide +kernel
theorem dX10_isMetBy_77 : decode cX10_isMetBy 77 = .ok (.iload_n 3, 1) := by decide +kernel
theorem dX10_isMetBy_78 : decode cX10_isMetBy 78 = .ok (.iaload, 1) := by decide +kernel
theorem dX10_isMetBy_79 : decode cX10_isMetBy 79 = .ok (.if_icmp .ne 7, 3) := by decide +kernel
theorem dX10_isMetBy_82 : decode cX10_isMetBy 82 = .ok (.iconst 1, 1) := by decide +kernel
theorem dX10_isMetBy_83 : decode cX10_isMetBy 83 = .ok (.goto 4, 3) := by decide +kernel
theorem dX10_isMetBy_86 : decode cX10_isMetBy 86 = .ok (.iconst 0, 1) := by decide +kernel
theorem dX10_isMetBy_87 : decode cX10_isMetBy 87 = .ok (.istore_n 2, 1) := by decide +kernel
theorem dX10_isMetBy_88 : decode cX10_isMetBy 88 = .ok (.iinc 3 1, 3) := by decide +kernel
theorem dX10_isMetBy_91 : decode cX10_isMetBy 91 = .ok (.goto (-34), 3) := by decide +kernel
theorem dX10_isMetBy_94 : decode cX10_isMetBy 94 = .ok (.iload_n 2, 1) := by decide +kernel
theorem dX10_isMetBy_95 : decode cX10_isMetBy 95 = .ok (.ireturn, 1) := by decide +kernel
theorem dX10_reduces_0 : decode cX10_reduces 0 = .ok (.iload_n 1, 1) := by decide +kernel
theorem dX10_reduces_1 : decode cX10_reduces 1 = .ok (.i2l, 1) := by decide +kernel
theorem dX10_reduces_2 : decode cX10_reduces 2 = .ok (.lconst 0, 1) := by decide +kernel
theorem dX10_reduces_3 : decode cX10_reduces 3 = .ok (.lconst 1, 1) := by decide +kernel
theorem dX10_reduces_4 : decode cX10_reduces 4 = .ok (.invokestatic 115, 3) := by decide +kernel
theorem dX10_reduces_7 : decode cX10_reduces 7 = .ok (.ifCond .ne 5, 3) := by decide +kernel
theorem dX10_reduces_10 : decode cX10_reduces 10 = .ok (.iconst (-1), 1) := by decide +kernel
theorem dX10_reduces_11 : decode cX10_reduces 11 = .ok (.ireturn, 1) := by decide +kernel
theorem dX10_reduces_12 : decode cX10_reduces 12 = .ok (.iload_n 1, 1) := by decide +kernel
theorem dX10_reduces_13 : decode cX10_reduces 13 = .ok (.ifCond .ne 16, 3) := by decide +kernel
theorem dX10_reduces_16 : decode cX10_reduces 16 = .ok (.aload_n 0, 1) := by decide +kernel
theorem dX10_reduces_17 : decode cX10_reduces 17 = .ok (.invokevirtual 313, 3) := by decide +kernel
theorem dX10_reduces_20 : decode cX10_reduces 20 = .ok (.ifCond .eq 7, 3) := by decide +kernel
theorem dX10_reduces_23 : decode cX10_reduces 23 = .ok (.iconst 1, 1) := by decide +kernel
theorem dX10_reduces_24 : decode cX10_reduces 24 = .ok (.goto 4, 3) := by decide +kernel
theorem dX10_reduces_27 : decode cX10_reduces 27 = .ok (.iconst 0, 1) := by decide +kernel
theorem dX10_reduces_28 : decode cX10_reduces 28 = .ok (.ireturn, 1) := by decide +kernel
theorem dX10_reduces_29 : decode cX10_reduces 29 = .ok (.iconst 0, 1) := by decide +kernel
theorem dX10_reduces_30 : decode cX10_reduces 30 = .ok (.istore_n 2, 1) := by decide +kernel
theorem dX10_reduces_31 : decode cX10_reduces 31 = .ok (.iload_n 2, 1) := by decide +kernel
theorem dX10_reduces_32 : decode cX10_reduces 32 = .ok (.bipush 6, 2) := by decide +kernel
theorem dX10_reduces_34 : decode cX10_reduces 34 = .ok (.if_icmp .ge 19, 3) := by decide +kernel
theorem dX10_reduces_37 : decode cX10_reduces 37 = .ok (.aload_n 0, 1) := by decide +kernel
theorem dX10_reduces_38 : decode cX10_reduces 38 = .ok (.iload_n 2, 1) := by decide +kernel
theorem dX10_reduces_39 : decode cX10_reduces 39 = .ok (.invokevirtual 317, 3) := by decide +kernel
theorem dX10_reduces_42 : decode cX10_reduces 42 = .ok (.ifCond .eq 5, 3) := by decide +kernel
theorem dX10_reduces_45 : decode cX10_reduces 45 = .ok (.iload_n 2, 1) := by decide +kernel
theorem dX10_reduces_46 : decode cX10_reduces 46 = .ok (.ireturn, 1) := by decide +kernel
theorem dX10_reduces_47 : decode cX10_reduces 47 = .ok (.iinc 2 1, 3) := by decide +kernel
theorem dX10_reduces_50 : decode cX10_reduces 50 = .ok (.goto (-19), 3) := by decide +kernel
theorem dX10_reduces_53 : decode cX10_reduces 53 = .ok (.bipush (-5), 2) := by decide +kernel
theorem dX10_reduces_55 : decode cX10_reduces 55 = .ok (.ireturn, 1) := by decide +kernel
theorem dX10_see_0 : decode cX10_see 0 = .ok (.iload_n 1, 1) := by decide +kernel
theorem dX10_see_1 : decode cX10_see 1 = .ok (.iconst (-1), 1) := by decide +kernel
theorem dX10_see_2 : decode cX10_see 2 = .ok (.if_icmp .ne 10, 3) := by decide +kernel
theorem dX10_see_5 : decode cX10_see 5 = .ok (.aload_n 0, 1) := by decide +kernel
theorem dX10_see_6 : decode cX10_see 6 = .ok (.iconst 0, 1) := by decide +kernel
theorem dX10_see_7 : decode cX10_see 7 = .ok (.putfield 320, 3) := by decide +kernel
theorem dX10_see_10 : decode cX10_see 10 = .ok (.iconst 0, 1) := by decide +kernel
theorem dX10_see_11 : decode cX10_see 11 = .ok (.ireturn, 1) := by decide +kernel
theorem dX10_see_12 : decode cX10_see 12 = .ok (.iload_n 1, 1) := by decide +kernel
theorem dX10_see_13 : decode cX10_see 13 = .ok (.i2l, 1) := by decide +kernel
theorem dX10_see_14 : decode cX10_see 14 = .ok (.lconst 0, 1) := by decide +kernel
theorem dX10_see_15 : decode cX10_see 15 = .ok (.ldc2_w 263, 3) := by decide +kernel
theorem dX10_see_18 : decode cX10_see 18 = .ok (.invokestatic 115, 3) := by decide +kernel
theorem dX10_see_21 : decode cX10_see 21 = .ok (.ifCond .ne 5, 3) := by decide +kernel
theorem dX10_see_24 : decode cX10_see 24 = .ok (.iconst (-1), 1) := by decide +kernel
theorem dX10_see_25 : decode cX10_see 25 = .ok (.ireturn, 1) := by decide +kernel
theorem dX10_see_26 : decode cX10_see 26 = .ok (.iload_n 2, 1) := by decide +kernel
theorem dX10_see_27 : decode cX10_see 27 = .ok (.iload_n 3, 1) := by decide +kernel
theorem dX10_see_28 : decode cX10_see 28 = .ok (.invokestatic 265, 3) := by decide +kernel
theorem dX10_see_31 : decode cX10_see 31 = .ok (.ifCond .ne 6, 3) := by decide +kernel
theorem dX10_see_34 : decode cX10_see 34 = .ok (.bipush (-2), 2) := by decide +kernel
theorem dX10_see_36 : decode cX10_see 36 = .ok (.ireturn, 1) := by decide +kernel
theorem dX10_see_37 : decode cX10_see 37 = .ok (.aload_n 0, 1) := by decide +kernel
theorem dX10_see_38 : decode cX10_see 38 = .ok (.getfield 320, 3) := by decide +kernel
theorem dX10_see_41 : decode cX10_see 41 = .ok (.iconst 4, 1) := by decide +kernel
theorem dX10_see_42 : decode cX10_see 42 = .ok (.if_icmp .ne 6, 3) := by decide +kernel
theorem dX10_see_45 : decode cX10_see 45 = .ok (.bipush (-4), 2) := by decide +kernel
theorem dX10_see_47 : decode cX10_see 47 = .ok (.ireturn, 1) := by decide +kernel
theorem dX10_see_48 : decode cX10_see 48 = .ok (.aload_n 0, 1) := by decide +kernel
theorem dX10_see_49 : decode cX10_see 49 = .ok (.getfield 63, 3) := by decide +kernel
theorem dX10_see_52 : decode cX10_see 52 = .ok (.aload_n 0, 1) := by decide +kernel
theorem dX10_see_53 : decode cX10_see 53 = .ok (.getfield 320, 3) := by decide +kernel
theorem dX10_see_56 : decode cX10_see 56 = .ok (.iload_n 1, 1) := by decide +kernel
theorem dX10_see_57 : decode cX10_see 57 = .ok (.iastore, 1) := by decide +kernel
theorem dX10_see_58 : decode cX10_see 58 = .ok (.aload_n 0, 1) := by decide +kernel
theorem dX10_see_59 : decode cX10_see 59 = .ok (.getfield 66, 3) := by decide +kernel
theorem dX10_see_62 : decode cX10_see 62 = .ok (.aload_n 0, 1) := by decide +kernel
theorem dX10_see_63 : decode cX10_see 63 = .ok (.getfield 320, 3) := by decide +kernel
theorem dX10_see_66 : decode cX10_see 66 = .ok (.iload_n 2, 1) := by decide +kernel
theorem dX10_see_67 : decode cX10_see 67 = .ok (.iastore, 1) := by decide +kernel
theorem dX10_see_68 : decode cX10_see 68 = .ok (.aload_n 0, 1) := by decide +kernel
theorem dX10_see_69 : decode cX10_see 69 = .ok (.getfield 69, 3) := by decide +kernel
theorem dX10_see_72 : decode cX10_see 72 = .ok (.aload_n 0, 1) := by decide +kernel
theorem dX10_see_73 : decode cX10_see 73 = .ok (.getfield 320, 3) := by decide +kernel
theorem dX10_see_76 : decode cX10_see 76 = .ok (.iload_n 3, 1) := by decide +kernel
theorem dX10_see_77 : decode cX10_see 77 = .ok (.iastore, 1) := by decide +kernel
theorem dX10_see_78 : decode cX10_see 78 = .ok (.aload_n 0, 1) := by decide +kernel
theorem dX10_see_79 : decode cX10_see 79 = .ok (.dup, 1) := by decide +kernel
theorem dX10_see_80 : decode cX10_see 80 = .ok (.getfield 320, 3) := by decide +kernel
theorem dX10_see_83 : decode cX10_see 83 = .ok (.iconst 1, 1) := by decide +kernel
theorem dX10_see_84 : decode cX10_see 84 = .ok (.iadd, 1) := by decide +kernel
theorem dX10_see_85 : decode cX10_see 85 = .ok (.putfield 320, 3) := by decide +kernel
theorem dX10_see_88 : decode cX10_see 88 = .ok (.aload_n 0, 1) := by decide +kernel
theorem dX10_see_89 : decode cX10_see 89 = .ok (.getfield 320, 3) := by decide +kernel
theorem dX10_see_92 : decode cX10_see 92 = .ok (.ireturn, 1) := by decide +kernel
theorem dX10_isSeen_0 : decode cX10_isSeen 0 = .ok (.aload_n 0, 1) := by decide +kernel
theorem dX10_isSeen_1 : decode cX10_isSeen 1 = .ok (.getfield 320, 3) := by decide +kernel
theorem dX10_isSeen_4 : decode cX10_isSeen 4 = .ok (.ifCond .ne 5, 3) := by decide +kernel
theorem dX10_isSeen_7 : decode cX10_isSeen 7 = .ok (.iconst 1, 1) := by decide +kernel
theorem dX10_isSeen_8 : decode cX10_isSeen 8 = .ok (.ireturn, 1) := by decide +kernel
theorem dX10_isSeen_9 : decode cX10_isSeen 9 = .ok (.aload_n 0, 1) := by decide +kernel
theorem dX10_isSeen_10 : decode cX10_isSeen 10 = .ok (.getfield 11, 3) := by decide +kernel
theorem dX10_isSeen_13 : decode cX10_isSeen 13 = .ok (.iconst 0, 1) := by decide +kernel
theorem dX10_isSeen_14 : decode cX10_isSeen 14 = .ok (.iaload, 1) := by decide +kernel
theorem dX10_isSeen_15 : decode cX10_isSeen 15 = .ok (.ifCond .ne 5, 3) := by decide +kernel
theorem dX10_isSeen_18 : decode cX10_isSeen 18 = .ok (.iconst 0, 1) := by decide +kernel
theorem dX10_isSeen_19 : decode cX10_isSeen 19 = .ok (.ireturn, 1) := by decide +kernel
theorem dX10_isSeen_20 : decode cX10_isSeen 20 = .ok (.aload_n 0, 1) := by decide +kernel
theorem dX10_isSeen_21 : decode cX10_isSeen 21 = .ok (.iconst 0, 1) := by decide +kernel
theorem dX10_isSeen_22 : decode cX10_isSeen 22 = .ok (.invokevirtual 166, 3) := by decide +kernel
theorem dX10_isSeen_25 : decode cX10_isSeen 25 = .ok (.aload_n 0, 1) := by decide +kernel
theorem dX10_isSeen_26 : decode cX10_isSeen 26 = .ok (.invokevirtual 254, 3) := by decide +kernel
theorem dX10_isSeen_29 : decode cX10_isSeen 29 = .ok (.iconst 1, 1) := by decide +kernel
theorem dX10_isSeen_30 : decode cX10_isSeen 30 = .ok (.istore_n 1, 1) := by decide +kernel
theorem dX10_isSeen_31 : decode cX10_isSeen 31 = .ok (.iconst 0, 1) := by decide +kernel
theorem dX10_isSeen_32 : decode cX10_isSeen 32 = .ok (.istore_n 2, 1) := by decide +kernel
theorem dX10_isSeen_33 : decode cX10_isSeen 33 = .ok (.iload_n 2, 1) := by decide +kernel
theorem dX10_isSeen_34 : decode cX10_isSeen 34 = .ok (.aload_n 0, 1) := by decide +kernel
theorem dX10_isSeen_35 : decode cX10_isSeen 35 = .ok (.getfield 320, 3) := by decide +kernel
theorem dX10_isSeen_38 : decode cX10_isSeen 38 = .ok (.if_icmp .ge 71, 3) := by decide +kernel
theorem dX10_isSeen_41 : decode cX10_isSeen 41 = .ok (.iload_n 1, 1) := by decide +kernel
theorem dX10_isSeen_42 : decode cX10_isSeen 42 = .ok (.ifCond .eq 59, 3) := by decide +kernel
theorem dX10_isSeen_45 : decode cX10_isSeen 45 = .ok (.aload_n 0, 1) := by decide +kernel
theorem dX10_isSeen_46 : decode cX10_isSeen 46 = .ok (.getfield 63, 3) := by decide +kernel
theorem dX10_isSeen_49 : decode cX10_isSeen 49 = .ok (.iload_n 2, 1) := by decide +kernel
theorem dX10_isSeen_50 : decode cX10_isSeen 50 = .ok (.iaload, 1) := by decide +kernel
theorem dX10_isSeen_51 : decode cX10_isSeen 51 = .ok (.aload_n 0, 1) := by decide +kernel
theorem dX10_isSeen_52 : decode cX10_isSeen 52 = .ok (.getfield 257, 3) := by decide +kernel
theorem dX10_isSeen_55 : decode cX10_isSeen 55 = .ok (.if_icmp .ge 46, 3) := by decide +kernel
theorem dX10_isSeen_58 : decode cX10_isSeen 58 = .ok (.aload_n 0, 1) := by decide +kernel
theorem dX10_isSeen_59 : decode cX10_isSeen 59 = .ok (.getfield 48, 3) := by decide +kernel
theorem dX10_isSeen_62 : decode cX10_isSeen 62 = .ok (.aload_n 0, 1) := by decide +kernel
theorem dX10_isSeen_63 : decode cX10_isSeen 63 = .ok (.getfield 63, 3) := by decide +kernel
theorem dX10_isSeen_66 : decode cX10_isSeen 66 = .ok (.iload_n 2, 1) := by decide +kernel
theorem dX10_isSeen_67 : decode cX10_isSeen 67 = .ok (.iaload, 1) := by decide +kernel
theorem dX10_isSeen_68 : decode cX10_isSeen 68 = .ok (.iaload, 1) := by decide +kernel
theorem dX10_isSeen_69 : decode cX10_isSeen 69 = .ok (.aload_n 0, 1) := by decide +kernel
theorem dX10_isSeen_70 : decode cX10_isSeen 70 = .ok (.getfield 69, 3) := by decide +kernel
theorem dX10_isSeen_73 : decode cX10_isSeen 73 = .ok (.iload_n 2, 1) := by decide +kernel
theorem dX10_isSeen_74 : decode cX10_isSeen 74 = .ok (.iaload, 1) := by decide +kernel
theorem dX10_isSeen_75 : decode cX10_isSeen 75 = .ok (.imul, 1) := by decide +kernel
theorem dX10_isSeen_76 : decode cX10_isSeen 76 = .ok (.aload_n 0, 1) := by decide +kernel
theorem dX10_isSeen_77 : decode cX10_isSeen 77 = .ok (.getfield 66, 3) := by decide +kernel
theorem dX10_isSeen_80 : decode cX10_isSeen 80 = .ok (.iload_n 2, 1) := by decide +kernel
theorem dX10_isSeen_81 : decode cX10_isSeen 81 = .ok (.iaload, 1) := by decide +kernel
theorem dX10_isSeen_82 : decode cX10_isSeen 82 = .ok (.aload_n 0, 1) := by decide +kernel
theorem dX10_isSeen_83 : decode cX10_isSeen 83 = .ok (.getfield 51, 3) := by decide +kernel
theorem dX10_isSeen_86 : decode cX10_isSeen 86 = .ok (.aload_n 0, 1) := by decide +kernel
theorem dX10_isSeen_87 : decode cX10_isSeen 87 = .ok (.getfield 63, 3) := by decide +kernel
theorem dX10_isSeen_90 : decode cX10_isSeen 90 = .ok (.iload_n 2, 1) := by decide +kernel
theorem dX10_isSeen_91 : decode cX10_isSeen 91 = .ok (.iaload, 1) := by decide +kernel
theorem dX10_isSeen_92 : decode cX10_isSeen 92 = .ok (.iaload, 1) := by decide +kernel
theorem dX10_isSeen_93 : decode cX10_isSeen 93 = .ok (.imul, 1) := by decide +kernel
theorem dX10_isSeen_94 : decode cX10_isSeen 94 = .ok (.if_icmp .ne 7, 3) := by decide +kernel
theorem dX10_isSeen_97 : decode cX10_isSeen 97 = .ok (.iconst 1, 1) := by decide +kernel
theorem dX10_isSeen_98 : decode cX10_isSeen 98 = .ok (.goto 4, 3) := by decide +kernel
theorem dX10_isSeen_101 : decode cX10_isSeen 101 = .ok (.iconst 0, 1) := by decide +kernel
theorem dX10_isSeen_102 : decode cX10_isSeen 102 = .ok (.istore_n 1, 1) := by decide +kernel
theorem dX10_isSeen_103 : decode cX10_isSeen 103 = .ok (.iinc 2 1, 3) := by decide +kernel
theorem dX10_isSeen_106 : decode cX10_isSeen 106 = .ok (.goto (-73), 3) := by decide +kernel
theorem dX10_isSeen_109 : decode cX10_isSeen 109 = .ok (.iload_n 1, 1) := by decide +kernel
theorem dX10_isSeen_110 : decode cX10_isSeen 110 = .ok (.ireturn, 1) := by decide +kernel
theorem dX10_fits_0 : decode cX10_fits 0 = .ok (.aload_n 0, 1) := by decide +kernel
theorem dX10_fits_1 : decode cX10_fits 1 = .ok (.iload_n 1, 1) := by decide +kernel
theorem dX10_fits_2 : decode cX10_fits 2 = .ok (.iload_n 2, 1) := by decide +kernel
theorem dX10_fits_3 : decode cX10_fits 3 = .ok (.invokevirtual 155, 3) := by decide +kernel
theorem dX10_fits_6 : decode cX10_fits 6 = .ok (.ifCond .eq 24, 3) := by decide +kernel
theorem dX10_fits_9 : decode cX10_fits 9 = .ok (.iload_n 3, 1) := by decide +kernel
theorem dX10_fits_10 : decode cX10_fits 10 = .ok (.i2l, 1) := by decide +kernel
theorem dX10_fits_11 : decode cX10_fits 11 = .ok (.lconst 0, 1) := by decide +kernel
theorem dX10_fits_12 : decode cX10_fits 12 = .ok (.lconst 1, 1) := by decide +kernel
theorem dX10_fits_13 : decode cX10_fits 13 = .ok (.invokestatic 115, 3) := by decide +kernel
theorem dX10_fits_16 : decode cX10_fits 16 = .ok (.ifCond .eq 14, 3) := by decide +kernel
theorem dX10_fits_19 : decode cX10_fits 19 = .ok (.iload 4, 2) := by decide +kernel
theorem dX10_fits_21 : decode cX10_fits 21 = .ok (.i2l, 1) := by decide +kernel
theorem dX10_fits_22 : decode cX10_fits 22 = .ok (.lconst 0, 1) := by decide +kernel
theorem dX10_fits_23 : decode cX10_fits 23 = .ok (.lconst 1, 1) := by decide +kernel
theorem dX10_fits_24 : decode cX10_fits 24 = .ok (.invokestatic 115, 3) := by decide +kernel
theorem dX10_fits_27 : decode cX10_fits 27 = .ok (.ifCond .ne 5, 3) := by decide +kernel
theorem dX10_fits_30 : decode cX10_fits 30 = .ok (.iconst (-1), 1) := by decide +kernel
theorem dX10_fits_31 : decode cX10_fits 31 = .ok (.ireturn, 1) := by decide +kernel
theorem dX10_fits_32 : decode cX10_fits 32 = .ok (.aload_n 0, 1) := by decide +kernel
theorem dX10_fits_33 : decode cX10_fits 33 = .ok (.iload_n 1, 1) := by decide +kernel
theorem dX10_fits_34 : decode cX10_fits 34 = .ok (.iload_n 2, 1) := by decide +kernel
theorem dX10_fits_35 : decode cX10_fits 35 = .ok (.invokevirtual 125, 3) := by decide +kernel
theorem dX10_fits_38 : decode cX10_fits 38 = .ok (.istore 5, 2) := by decide +kernel
theorem dX10_fits_40 : decode cX10_fits 40 = .ok (.aload_n 0, 1) := by decide +kernel
theorem dX10_fits_41 : decode cX10_fits 41 = .ok (.iload_n 1, 1) := by decide +kernel
theorem dX10_fits_42 : decode cX10_fits 42 = .ok (.iload_n 2, 1) := by decide +kernel
theorem dX10_fits_43 : decode cX10_fits 43 = .ok (.invokevirtual 129, 3) := by decide +kernel
theorem dX10_fits_46 : decode cX10_fits 46 = .ok (.istore 6, 2) := by decide +kernel
theorem dX10_fits_48 : decode cX10_fits 48 = .ok (.iconst 0, 1) := by decide +kernel
theorem dX10_fits_49 : decode cX10_fits 49 = .ok (.istore 7, 2) := by decide +kernel
theorem dX10_fits_51 : decode cX10_fits 51 = .ok (.bipush (-5), 2) := by decide +kernel
theorem dX10_fits_53 : decode cX10_fits 53 = .ok (.istore 8, 2) := by decide +kernel
theorem dX10_fits_55 : decode cX10_fits 55 = .ok (.iconst 0, 1) := by decide +kernel
theorem dX10_fits_56 : decode cX10_fits 56 = .ok (.istore 9, 2) := by decide +kernel
theorem dX10_fits_58 : decode cX10_fits 58 = .ok (.iload 9, 2) := by decide +kernel
theorem dX10_fits_60 : decode cX10_fits 60 = .ok (.bipush 10, 2) := by decide +kernel
theorem dX10_fits_62 : decode cX10_fits 62 = .ok (.if_icmp .ge 151, 3) := by decide +kernel
theorem dX10_fits_65 : decode cX10_fits 65 = .ok (.iload_n 3, 1) := by decide +kernel
theorem dX10_fits_66 : decode cX10_fits 66 = .ok (.ifCond .ne 8, 3) := by decide +kernel
theorem dX10_fits_69 : decode cX10_fits 69 = .ok (.iload 9, 2) := by decide +kernel
theorem dX10_fits_71 : decode cX10_fits 71 = .ok (.goto 5, 3) := by decide +kernel
theorem dX10_fits_74 : decode cX10_fits 74 = .ok (.iload 5, 2) := by decide +kernel
theorem dX10_fits_76 : decode cX10_fits 76 = .ok (.istore 10, 2) := by decide +kernel
theorem dX10_fits_78 : decode cX10_fits 78 = .ok (.iload_n 3, 1) := by decide +kernel
theorem dX10_fits_79 : decode cX10_fits 79 = .ok (.iconst 1, 1) := by decide +kernel
theorem dX10_fits_80 : decode cX10_fits 80 = .ok (.if_icmp .ne 8, 3) := by decide +kernel
theorem dX10_fits_83 : decode cX10_fits 83 = .ok (.iload 9, 2) := by decide +kernel
theorem dX10_fits_85 : decode cX10_fits 85 = .ok (.goto 5, 3) := by decide +kernel
theorem dX10_fits_88 : decode cX10_fits 88 = .ok (.iload 6, 2) := by decide +kernel
theorem dX10_fits_90 : decode cX10_fits 90 = .ok (.istore 11, 2) := by decide +kernel
theorem dX10_fits_92 : decode cX10_fits 92 = .ok (.iload 10, 2) := by decide +kernel
theorem dX10_fits_94 : decode cX10_fits 94 = .ok (.iload 5, 2) := by decide +kernel
theorem dX10_fits_96 : decode cX10_fits 96 = .ok (.if_icmp .ne 10, 3) := by decide +kernel
theorem dX10_fits_99 : decode cX10_fits 99 = .ok (.iload 11, 2) := by decide +kernel
theorem dX10_fits_101 : decode cX10_fits 101 = .ok (.iload 6, 2) := by decide +kernel
theorem dX10_fits_103 : decode cX10_fits 103 = .ok (.if_icmp .eq 16, 3) := by decide +kernel
theorem dX10_fits_106 : decode cX10_fits 106 = .ok (.aload_n 0, 1) := by decide +kernel
theorem dX10_fits_107 : decode cX10_fits 107 = .ok (.iload_n 1, 1) := by decide +kernel
theorem dX10_fits_108 : decode cX10_fits 108 = .ok (.iload 10, 2) := by decide +kernel
theorem dX10_fits_110 : decode cX10_fits 110 = .ok (.iload 11, 2) := by decide +kernel
theorem dX10_fits_112 : decode cX10_fits 112 = .ok (.invokevirtual 143, 3) := by decide +kernel
theorem dX10_fits_115 : decode cX10_fits 115 = .ok (.iconst (-1), 1) := by decide +kernel
theorem dX10_fits_116 : decode cX10_fits 116 = .ok (.if_icmp .ne 7, 3) := by decide +kernel
theorem dX10_fits_119 : decode cX10_fits 119 = .ok (.iconst 1, 1) := by decide +kernel
theorem dX10_fits_120 : decode cX10_fits 120 = .ok (.goto 4, 3) := by decide +kernel
theorem dX10_fits_123 : decode cX10_fits 123 = .ok (.iconst 0, 1) := by decide +kernel
theorem dX10_fits_124 : decode cX10_fits 124 = .ok (.istore 12, 2) := by decide +kernel
theorem dX10_fits_126 : decode cX10_fits 126 = .ok (.aload_n 0, 1) := by decide +kernel
theorem dX10_fits_127 : decode cX10_fits 127 = .ok (.getfield 15, 3) := by decide +kernel
theorem dX10_fits_130 : decode cX10_fits 130 = .ok (.bipush 6, 2) := by decide +kernel
theorem dX10_fits_132 : decode cX10_fits 132 = .ok (.iload_n 1, 1) := by decide +kernel
theorem dX10_fits_133 : decode cX10_fits 133 = .ok (.imul, 1) := by decide +kernel
theorem dX10_fits_134 : decode cX10_fits 134 = .ok (.iload_n 2, 1) := by decide +kernel
theorem dX10_fits_135 : decode cX10_fits 135 = .ok (.iadd, 1) := by decide +kernel
theorem dX10_fits_136 : decode cX10_fits 136 = .ok (.iload 10, 2) := by decide +kernel
theorem dX10_fits_138 : decode cX10_fits 138 = .ok (.iastore, 1) := by decide +kernel
theorem dX10_fits_139 : decode cX10_fits 139 = .ok (.aload_n 0, 1) := by decide +kernel
theorem dX10_fits_140 : decode cX10_fits 140 = .ok (.getfield 18, 3) := by decide +kernel
theorem dX10_fits_143 : decode cX10_fits 143 = .ok (.bipush 6, 2) := by decide +kernel
theorem dX10_fits_145 : decode cX10_fits 145 = .ok (.iload_n 1, 1) := by decide +kernel
theorem dX10_fits_146 : decode cX10_fits 146 = .ok (.imul, 1) := by decide +kernel
theorem dX10_fits_147 : decode cX10_fits 147 = .ok (.iload_n 2, 1) := by decide +kernel
theorem dX10_fits_148 : decode cX10_fits 148 = .ok (.iadd, 1) := by decide +kernel
theorem dX10_fits_149 : decode cX10_fits 149 = .ok (.iload 11, 2) := by decide +kernel
theorem dX10_fits_151 : decode cX10_fits 151 = .ok (.iastore, 1) := by decide +kernel
theorem dX10_fits_152 : decode cX10_fits 152 = .ok (.iload 12, 2) := by decide +kernel
theorem dX10_fits_154 : decode cX10_fits 154 = .ok (.ifCond .eq 27, 3) := by decide +kernel
theorem dX10_fits_157 : decode cX10_fits 157 = .ok (.aload_n 0, 1) := by decide +kernel
theorem dX10_fits_158 : decode cX10_fits 158 = .ok (.invokevirtual 323, 3) := by decide +kernel
theorem dX10_fits_161 : decode cX10_fits 161 = .ok (.ifCond .eq 20, 3) := by decide +kernel
theorem dX10_fits_164 : decode cX10_fits 164 = .ok (.iload 7, 2) := by decide +kernel
theorem dX10_fits_166 : decode cX10_fits 166 = .ok (.ifCond .ne 8, 3) := by decide +kernel
theorem dX10_fits_169 : decode cX10_fits 169 = .ok (.iload 9, 2) := by decide +kernel
theorem dX10_fits_171 : decode cX10_fits 171 = .ok (.goto 5, 3) := by decide +kernel
theorem dX10_fits_174 : decode cX10_fits 174 = .ok (.iload 8, 2) := by decide +kernel
theorem dX10_fits_176 : decode cX10_fits 176 = .ok (.istore 8, 2) := by decide +kernel
theorem dX10_fits_178 : decode cX10_fits 178 = .ok (.iinc 7 1, 3) := by decide +kernel
theorem dX10_fits_181 : decode cX10_fits 181 = .ok (.aload_n 0, 1) := by decide +kernel
theorem dX10_fits_182 : decode cX10_fits 182 = .ok (.getfield 15, 3) := by decide +kernel
theorem dX10_fits_185 : decode cX10_fits 185 = .ok (.bipush 6, 2) := by decide +kernel
theorem dX10_fits_187 : decode cX10_fits 187 = .ok (.iload_n 1, 1) := by decide +kernel
theorem dX10_fits_188 : decode cX10_fits 188 = .ok (.imul, 1) := by decide +kernel
theorem dX10_fits_189 : decode cX10_fits 189 = .ok (.iload_n 2, 1) := by decide +kernel
theorem dX10_fits_190 : decode cX10_fits 190 = .ok (.iadd, 1) := by decide +kernel
theorem dX10_fits_191 : decode cX10_fits 191 = .ok (.iload 5, 2) := by decide +kernel
theorem dX10_fits_193 : decode cX10_fits 193 = .ok (.iastore, 1) := by decide +kernel
theorem dX10_fits_194 : decode cX10_fits 194 = .ok (.aload_n 0, 1) := by decide +kernel
theorem dX10_fits_195 : decode cX10_fits 195 = .ok (.getfield 18, 3) := by decide +kernel
theorem dX10_fits_198 : decode cX10_fits 198 = .ok (.bipush 6, 2) := by decide +kernel
theorem dX10_fits_200 : decode cX10_fits 200 = .ok (.iload_n 1, 1) := by decide +kernel
theorem dX10_fits_201 : decode cX10_fits 201 = .ok (.imul, 1) := by decide +kernel
theorem dX10_fits_202 : decode cX10_fits 202 = .ok (.iload_n 2, 1) := by decide +kernel
theorem dX10_fits_203 : decode cX10_fits 203 = .ok (.iadd, 1) := by decide +kernel
theorem dX10_fits_204 : decode cX10_fits 204 = .ok (.iload 6, 2) := by decide +kernel
theorem dX10_fits_206 : decode cX10_fits 206 = .ok (.iastore, 1) := by decide +kernel
theorem dX10_fits_207 : decode cX10_fits 207 = .ok (.iinc 9 1, 3) := by decide +kernel
theorem dX10_fits_210 : decode cX10_fits 210 = .ok (.goto (-152), 3) := by decide +kernel
theorem dX10_fits_213 : decode cX10_fits 213 = .ok (.iload 4, 2) := by decide +kernel
theorem dX10_fits_215 : decode cX10_fits 215 = .ok (.ifCond .ne 8, 3) := by decide +kernel
theorem dX10_fits_218 : decode cX10_fits 218 = .ok (.iload 7, 2) := by decide +kernel
theorem dX10_fits_220 : decode cX10_fits 220 = .ok (.goto 5, 3) := by decide +kernel
theorem dX10_fits_223 : decode cX10_fits 223 = .ok (.iload 8, 2) := by decide +kernel
theorem dX10_fits_225 : decode cX10_fits 225 = .ok (.ireturn, 1) := by decide +kernel
theorem dX10_odds_0 : decode cX10_odds 0 = .ok (.iload_n 1, 1) := by decide +kernel
theorem dX10_odds_1 : decode cX10_odds 1 = .ok (.invokestatic 136, 3) := by decide +kernel
theorem dX10_odds_4 : decode cX10_odds 4 = .ok (.ifCond .eq 31, 3) := by decide +kernel
theorem dX10_odds_7 : decode cX10_odds 7 = .ok (.iload_n 2, 1) := by decide +kernel
theorem dX10_odds_8 : decode cX10_odds 8 = .ok (.iload_n 3, 1) := by decide +kernel
theorem dX10_odds_9 : decode cX10_odds 9 = .ok (.invokestatic 265, 3) := by decide +kernel
theorem dX10_odds_12 : decode cX10_odds 12 = .ok (.ifCond .eq 23, 3) := by decide +kernel
theorem dX10_odds_15 : decode cX10_odds 15 = .ok (.iload 4, 2) := by decide +kernel
theorem dX10_odds_17 : decode cX10_odds 17 = .ok (.i2l, 1) := by decide +kernel
theorem dX10_odds_18 : decode cX10_odds 18 = .ok (.lconst 0, 1) := by decide +kernel
theorem dX10_odds_19 : decode cX10_odds 19 = .ok (.lconst 1, 1) := by decide +kernel
theorem dX10_odds_20 : decode cX10_odds 20 = .ok (.invokestatic 115, 3) := by decide +kernel
theorem dX10_odds_23 : decode cX10_odds 23 = .ok (.ifCond .eq 12, 3) := by decide +kernel
theorem dX10_odds_26 : decode cX10_odds 26 = .ok (.aload_n 0, 1) := by decide +kernel
theorem dX10_odds_27 : decode cX10_odds 27 = .ok (.getfield 11, 3) := by decide +kernel
theorem dX10_odds_30 : decode cX10_odds 30 = .ok (.iload_n 1, 1) := by decide +kernel
theorem dX10_odds_31 : decode cX10_odds 31 = .ok (.iaload, 1) := by decide +kernel
theorem dX10_odds_32 : decode cX10_odds 32 = .ok (.ifCond .ne 7, 3) := by decide +kernel
theorem dX10_odds_35 : decode cX10_odds 35 = .ok (.ldc2_w 271, 3) := by decide +kernel
theorem dX10_odds_38 : decode cX10_odds 38 = .ok (.lreturn, 1) := by decide +kernel
theorem dX10_odds_39 : decode cX10_odds 39 = .ok (.bipush 100, 2) := by decide +kernel
theorem dX10_odds_41 : decode cX10_odds 41 = .ok (.aload_n 0, 1) := by decide +kernel
theorem dX10_odds_42 : decode cX10_odds 42 = .ok (.iload_n 1, 1) := by decide +kernel
theorem dX10_odds_43 : decode cX10_odds 43 = .ok (.iload_n 2, 1) := by decide +kernel
theorem dX10_odds_44 : decode cX10_odds 44 = .ok (.iload_n 3, 1) := by decide +kernel
theorem dX10_odds_45 : decode cX10_odds 45 = .ok (.invokevirtual 283, 3) := by decide +kernel
theorem dX10_odds_48 : decode cX10_odds 48 = .ok (.isub, 1) := by decide +kernel
theorem dX10_odds_49 : decode cX10_odds 49 = .ok (.i2l, 1) := by decide +kernel
theorem dX10_odds_50 : decode cX10_odds 50 = .ok (.ldc2_w 326, 3) := by decide +kernel
theorem dX10_odds_53 : decode cX10_odds 53 = .ok (.iload 4, 2) := by decide +kernel
theorem dX10_odds_55 : decode cX10_odds 55 = .ok (.invokestatic 276, 3) := by decide +kernel
theorem dX10_odds_58 : decode cX10_odds 58 = .ok (.lreturn, 1) := by decide +kernel
theorem dX10_mean_0 : decode cX10_mean 0 = .ok (.iload_n 1, 1) := by decide +kernel
theorem dX10_mean_1 : decode cX10_mean 1 = .ok (.invokestatic 136, 3) := by decide +kernel
theorem dX10_mean_4 : decode cX10_mean 4 = .ok (.ifCond .eq 22, 3) := by decide +kernel
theorem dX10_mean_7 : decode cX10_mean 7 = .ok (.iload_n 2, 1) := by decide +kernel
theorem dX10_mean_8 : decode cX10_mean 8 = .ok (.i2l, 1) := by decide +kernel
theorem dX10_mean_9 : decode cX10_mean 9 = .ok (.lconst 0, 1) := by decide +kernel
theorem dX10_mean_10 : decode cX10_mean 10 = .ok (.lconst 1, 1) := by decide +kernel
theorem dX10_mean_11 : decode cX10_mean 11 = .ok (.invokestatic 115, 3) := by decide +kernel
theorem dX10_mean_14 : decode cX10_mean 14 = .ok (.ifCond .eq 12, 3) := by decide +kernel
theorem dX10_mean_17 : decode cX10_mean 17 = .ok (.aload_n 0, 1) := by decide +kernel
theorem dX10_mean_18 : decode cX10_mean 18 = .ok (.getfield 11, 3) := by decide +kernel
theorem dX10_mean_21 : decode cX10_mean 21 = .ok (.iload_n 1, 1) := by decide +kernel
theorem dX10_mean_22 : decode cX10_mean 22 = .ok (.iaload, 1) := by decide +kernel
theorem dX10_mean_23 : decode cX10_mean 23 = .ok (.ifCond .ne 7, 3) := by decide +kernel
theorem dX10_mean_26 : decode cX10_mean 26 = .ok (.ldc2_w 271, 3) := by decide +kernel
theorem dX10_mean_29 : decode cX10_mean 29 = .ok (.lreturn, 1) := by decide +kernel
theorem dX10_mean_30 : decode cX10_mean 30 = .ok (.iconst 0, 1) := by decide +kernel
theorem dX10_mean_31 : decode cX10_mean 31 = .ok (.istore_n 3, 1) := by decide +kernel
theorem dX10_mean_32 : decode cX10_mean 32 = .ok (.iconst 0, 1) := by decide +kernel
theorem dX10_mean_33 : decode cX10_mean 33 = .ok (.istore 4, 2) := by decide +kernel
theorem dX10_mean_35 : decode cX10_mean 35 = .ok (.iload 4, 2) := by decide +kernel
theorem dX10_mean_37 : decode cX10_mean 37 = .ok (.aload_n 0, 1) := by decide +kernel
theorem dX10_mean_38 : decode cX10_mean 38 = .ok (.getfield 11, 3) := by decide +kernel
theorem dX10_mean_41 : decode cX10_mean 41 = .ok (.iload_n 1, 1) := by decide +kernel
theorem dX10_mean_42 : decode cX10_mean 42 = .ok (.iaload, 1) := by decide +kernel
theorem dX10_mean_43 : decode cX10_mean 43 = .ok (.if_icmp .ge 27, 3) := by decide +kernel
theorem dX10_mean_46 : decode cX10_mean 46 = .ok (.iload_n 3, 1) := by decide +kernel
theorem dX10_mean_47 : decode cX10_mean 47 = .ok (.aload_n 0, 1) := by decide +kernel
theorem dX10_mean_48 : decode cX10_mean 48 = .ok (.iload_n 1, 1) := by decide +kernel
theorem dX10_mean_49 : decode cX10_mean 49 = .ok (.iload 4, 2) := by decide +kernel
theorem dX10_mean_51 : decode cX10_mean 51 = .ok (.invokevirtual 125, 3) := by decide +kernel
theorem dX10_mean_54 : decode cX10_mean 54 = .ok (.aload_n 0, 1) := by decide +kernel
theorem dX10_mean_55 : decode cX10_mean 55 = .ok (.iload_n 1, 1) := by decide +kernel
theorem dX10_mean_56 : decode cX10_mean 56 = .ok (.iload 4, 2) := by decide +kernel
theorem dX10_mean_58 : decode cX10_mean 58 = .ok (.invokevirtual 129, 3) := by decide +kernel
theorem dX10_mean_61 : decode cX10_mean 61 = .ok (.iadd, 1) := by decide +kernel
theorem dX10_mean_62 : decode cX10_mean 62 = .ok (.iadd, 1) := by decide +kernel
theorem dX10_mean_63 : decode cX10_mean 63 = .ok (.istore_n 3, 1) := by decide +kernel
theorem dX10_mean_64 : decode cX10_mean 64 = .ok (.iinc 4 1, 3) := by decide +kernel
theorem dX10_mean_67 : decode cX10_mean 67 = .ok (.goto (-32), 3) := by decide +kernel
theorem dX10_mean_70 : decode cX10_mean 70 = .ok (.iload_n 3, 1) := by decide +kernel
theorem dX10_mean_71 : decode cX10_mean 71 = .ok (.i2l, 1) := by decide +kernel
theorem dX10_mean_72 : decode cX10_mean 72 = .ok (.aload_n 0, 1) := by decide +kernel
theorem dX10_mean_73 : decode cX10_mean 73 = .ok (.getfield 11, 3) := by decide +kernel
theorem dX10_mean_76 : decode cX10_mean 76 = .ok (.iload_n 1, 1) := by decide +kernel
theorem dX10_mean_77 : decode cX10_mean 77 = .ok (.iaload, 1) := by decide +kernel
theorem dX10_mean_78 : decode cX10_mean 78 = .ok (.i2l, 1) := by decide +kernel
theorem dX10_mean_79 : decode cX10_mean 79 = .ok (.iload_n 2, 1) := by decide +kernel
theorem dX10_mean_80 : decode cX10_mean 80 = .ok (.invokestatic 276, 3) := by decide +kernel
theorem dX10_mean_83 : decode cX10_mean 83 = .ok (.lreturn, 1) := by decide +kernel
theorem dX10_event_0 : decode cX10_event 0 = .ok (.iload_n 1, 1) := by decide +kernel
theorem dX10_event_1 : decode cX10_event 1 = .ok (.iconst (-1), 1) := by decide +kernel
theorem dX10_event_2 : decode cX10_event 2 = .ok (.if_icmp .ne 10, 3) := by decide +kernel
theorem dX10_event_5 : decode cX10_event 5 = .ok (.aload_n 0, 1) := by decide +kernel
theorem dX10_event_6 : decode cX10_event 6 = .ok (.iconst 0, 1) := by decide +kernel
theorem dX10_event_7 : decode cX10_event 7 = .ok (.putfield 328, 3) := by decide +kernel
theorem dX10_event_10 : decode cX10_event 10 = .ok (.iconst 0, 1) := by decide +kernel
theorem dX10_event_11 : decode cX10_event 11 = .ok (.ireturn, 1) := by decide +kernel
theorem dX10_event_12 : decode cX10_event 12 = .ok (.iload_n 1, 1) := by decide +kernel
theorem dX10_event_13 : decode cX10_event 13 = .ok (.i2l, 1) := by decide +kernel
theorem dX10_event_14 : decode cX10_event 14 = .ok (.lconst 0, 1) := by decide +kernel
theorem dX10_event_15 : decode cX10_event 15 = .ok (.ldc2_w 241, 3) := by decide +kernel
theorem dX10_event_18 : decode cX10_event 18 = .ok (.invokestatic 115, 3) := by decide +kernel
theorem dX10_event_21 : decode cX10_event 21 = .ok (.ifCond .ne 5, 3) := by decide +kernel
theorem dX10_event_24 : decode cX10_event 24 = .ok (.iconst (-1), 1) := by decide +kernel
theorem dX10_event_25 : decode cX10_event 25 = .ok (.ireturn, 1) := by decide +kernel
theorem dX10_event_26 : decode cX10_event 26 = .ok (.iload_n 1, 1) := by decide +kernel
theorem dX10_event_27 : decode cX10_event 27 = .ok (.ifCond .ne 15, 3) := by decide +kernel
theorem dX10_event_30 : decode cX10_event 30 = .ok (.iload_n 2, 1) := by decide +kernel
theorem dX10_event_31 : decode cX10_event 31 = .ok (.i2l, 1) := by decide +kernel
theorem dX10_event_32 : decode cX10_event 32 = .ok (.lconst 0, 1) := by decide +kernel
theorem dX10_event_33 : decode cX10_event 33 = .ok (.ldc2_w 263, 3) := by decide +kernel
theorem dX10_event_36 : decode cX10_event 36 = .ok (.invokestatic 115, 3) := by decide +kernel
theorem dX10_event_39 : decode cX10_event 39 = .ok (.goto 29, 3) := by decide +kernel
theorem dX10_event_42 : decode cX10_event 42 = .ok (.iload_n 1, 1) := by decide +kernel
theorem dX10_event_43 : decode cX10_event 43 = .ok (.iconst 1, 1) := by decide +kernel
theorem dX10_event_44 : decode cX10_event 44 = .ok (.if_icmp .ne 15, 3) := by decide +kernel
theorem dX10_event_47 : decode cX10_event 47 = .ok (.iload_n 2, 1) := by decide +kernel
theorem dX10_event_48 : decode cX10_event 48 = .ok (.i2l, 1) := by decide +kernel
theorem dX10_event_49 : decode cX10_event 49 = .ok (.lconst 0, 1) := by decide +kernel
theorem dX10_event_50 : decode cX10_event 50 = .ok (.ldc2_w 331, 3) := by decide +kernel
theorem dX10_event_53 : decode cX10_event 53 = .ok (.invokestatic 115, 3) := by decide +kernel
theorem dX10_event_56 : decode cX10_event 56 = .ok (.goto 12, 3) := by decide +kernel
theorem dX10_event_59 : decode cX10_event 59 = .ok (.iload_n 2, 1) := by decide +kernel
theorem dX10_event_60 : decode cX10_event 60 = .ok (.i2l, 1) := by decide +kernel
theorem dX10_event_61 : decode cX10_event 61 = .ok (.lconst 1, 1) := by decide +kernel
theorem dX10_event_62 : decode cX10_event 62 = .ok (.ldc2_w 119, 3) := by decide +kernel
theorem dX10_event_65 : decode cX10_event 65 = .ok (.invokestatic 115, 3) := by decide +kernel
theorem dX10_event_68 : decode cX10_event 68 = .ok (.istore_n 3, 1) := by decide +kernel
theorem dX10_event_69 : decode cX10_event 69 = .ok (.iload_n 3, 1) := by decide +kernel
theorem dX10_event_70 : decode cX10_event 70 = .ok (.ifCond .ne 6, 3) := by decide +kernel
theorem dX10_event_73 : decode cX10_event 73 = .ok (.bipush (-2), 2) := by decide +kernel
theorem dX10_event_75 : decode cX10_event 75 = .ok (.ireturn, 1) := by decide +kernel
theorem dX10_event_76 : decode cX10_event 76 = .ok (.aload_n 0, 1) := by decide +kernel
theorem dX10_event_77 : decode cX10_event 77 = .ok (.getfield 328, 3) := by decide +kernel
theorem dX10_event_80 : decode cX10_event 80 = .ok (.bipush 8, 2) := by decide +kernel
theorem dX10_event_82 : decode cX10_event 82 = .ok (.if_icmp .ne 6, 3) := by decide +kernel
theorem dX10_event_85 : decode cX10_event 85 = .ok (.bipush (-4), 2) := by decide +kernel
theorem dX10_event_87 : decode cX10_event 87 = .ok (.ireturn, 1) := by decide +kernel
theorem dX10_event_88 : decode cX10_event 88 = .ok (.aload_n 0, 1) := by decide +kernel
theorem dX10_event_89 : decode cX10_event 89 = .ok (.getfield 72, 3) := by decide +kernel
theorem dX10_event_92 : decode cX10_event 92 = .ok (.aload_n 0, 1) := by decide +kernel
theorem dX10_event_93 : decode cX10_event 93 = .ok (.getfield 328, 3) := by decide +kernel
theorem dX10_event_96 : decode cX10_event 96 = .ok (.iload_n 1, 1) := by decide +kernel
theorem dX10_event_97 : decode cX10_event 97 = .ok (.iastore, 1) := by decide +kernel
theorem dX10_event_98 : decode cX10_event 98 = .ok (.aload_n 0, 1) := by decide +kernel
theorem dX10_event_99 : decode cX10_event 99 = .ok (.getfield 75, 3) := by decide +kernel
theorem dX10_event_102 : decode cX10_event 102 = .ok (.aload_n 0, 1) := by decide +kernel
theorem dX10_event_103 : decode cX10_event 103 = .ok (.getfield 328, 3) := by decide +kernel
theorem dX10_event_106 : decode cX10_event 106 = .ok (.iload_n 2, 1) := by decide +kernel
theorem dX10_event_107 : decode cX10_event 107 = .ok (.iastore, 1) := by decide +kernel
theorem dX10_event_108 : decode cX10_event 108 = .ok (.aload_n 0, 1) := by decide +kernel
theorem dX10_event_109 : decode cX10_event 109 = .ok (.dup, 1) := by decide +kernel
theorem dX10_event_110 : decode cX10_event 110 = .ok (.getfield 328, 3) := by decide +kernel
theorem dX10_event_113 : decode cX10_event 113 = .ok (.iconst 1, 1) := by decide +kernel
theorem dX10_event_114 : decode cX10_event 114 = .ok (.iadd, 1) := by decide +kernel
theorem dX10_event_115 : decode cX10_event 115 = .ok (.putfield 328, 3) := by decide +kernel
theorem dX10_event_118 : decode cX10_event 118 = .ok (.aload_n 0, 1) := by decide +kernel
theorem dX10_event_119 : decode cX10_event 119 = .ok (.getfield 328, 3) := by decide +kernel
theorem dX10_event_122 : decode cX10_event 122 = .ok (.ireturn, 1) := by decide +kernel
theorem dX10_lessens_0 : decode cX10_lessens 0 = .ok (.aload_n 0, 1) := by decide +kernel
theorem dX10_lessens_1 : decode cX10_lessens 1 = .ok (.getfield 11, 3) := by decide +kernel
theorem dX10_lessens_4 : decode cX10_lessens 4 = .ok (.iconst 2, 1) := by decide +kernel
theorem dX10_lessens_5 : decode cX10_lessens 5 = .ok (.iaload, 1) := by decide +kernel
theorem dX10_lessens_6 : decode cX10_lessens 6 = .ok (.istore_n 2, 1) := by decide +kernel
theorem dX10_lessens_7 : decode cX10_lessens 7 = .ok (.aload_n 0, 1) := by decide +kernel
theorem dX10_lessens_8 : decode cX10_lessens 8 = .ok (.getfield 11, 3) := by decide +kernel
theorem dX10_lessens_11 : decode cX10_lessens 11 = .ok (.iconst 2, 1) := by decide +kernel
theorem dX10_lessens_12 : decode cX10_lessens 12 = .ok (.iconst 0, 1) := by decide +kernel
theorem dX10_lessens_13 : decode cX10_lessens 13 = .ok (.iastore, 1) := by decide +kernel
theorem dX10_lessens_14 : decode cX10_lessens 14 = .ok (.iconst 0, 1) := by decide +kernel
theorem dX10_lessens_15 : decode cX10_lessens 15 = .ok (.istore_n 3, 1) := by decide +kernel
theorem dX10_lessens_16 : decode cX10_lessens 16 = .ok (.iload_n 3, 1) := by decide +kernel
theorem dX10_lessens_17 : decode cX10_lessens 17 = .ok (.iload_n 2, 1) := by decide +kernel
theorem dX10_lessens_18 : decode cX10_lessens 18 = .ok (.if_icmp .ge 59, 3) := by decide +kernel
theorem dX10_lessens_21 : decode cX10_lessens 21 = .ok (.iconst 0, 1) := by decide +kernel
theorem dX10_lessens_22 : decode cX10_lessens 22 = .ok (.aload_n 0, 1) := by decide +kernel
theorem dX10_lessens_23 : decode cX10_lessens 23 = .ok (.iconst 2, 1) := by decide +kernel
theorem dX10_lessens_24 : decode cX10_lessens 24 = .ok (.iload_n 3, 1) := by decide +kernel
theorem dX10_lessens_25 : decode cX10_lessens 25 = .ok (.invokevirtual 125, 3) := by decide +kernel
theorem dX10_lessens_28 : decode cX10_lessens 28 = .ok (.iload_n 1, 1) := by decide +kernel
theorem dX10_lessens_29 : decode cX10_lessens 29 = .ok (.isub, 1) := by decide +kernel
theorem dX10_lessens_30 : decode cX10_lessens 30 = .ok (.invokestatic 333, 3) := by decide +kernel
theorem dX10_lessens_33 : decode cX10_lessens 33 = .ok (.istore 4, 2) := by decide +kernel
theorem dX10_lessens_35 : decode cX10_lessens 35 = .ok (.iconst 0, 1) := by decide +kernel
theorem dX10_lessens_36 : decode cX10_lessens 36 = .ok (.aload_n 0, 1) := by decide +kernel
theorem dX10_lessens_37 : decode cX10_lessens 37 = .ok (.iconst 2, 1) := by decide +kernel
theorem dX10_lessens_38 : decode cX10_lessens 38 = .ok (.iload_n 3, 1) := by decide +kernel
theorem dX10_lessens_39 : decode cX10_lessens 39 = .ok (.invokevirtual 129, 3) := by decide +kernel
theorem dX10_lessens_42 : decode cX10_lessens 42 = .ok (.iload_n 1, 1) := by decide +kernel
theorem dX10_lessens_43 : decode cX10_lessens 43 = .ok (.isub, 1) := by decide +kernel
theorem dX10_lessens_44 : decode cX10_lessens 44 = .ok (.invokestatic 333, 3) := by decide +kernel
theorem dX10_lessens_47 : decode cX10_lessens 47 = .ok (.istore 5, 2) := by decide +kernel
theorem dX10_lessens_49 : decode cX10_lessens 49 = .ok (.aload_n 0, 1) := by decide +kernel
theorem dX10_lessens_50 : decode cX10_lessens 50 = .ok (.iconst 2, 1) := by decide +kernel
theorem dX10_lessens_51 : decode cX10_lessens 51 = .ok (.iload 4, 2) := by decide +kernel
theorem dX10_lessens_53 : decode cX10_lessens 53 = .ok (.iload 5, 2) := by decide +kernel
theorem dX10_lessens_55 : decode cX10_lessens 55 = .ok (.invokevirtual 143, 3) := by decide +kernel
theorem dX10_lessens_58 : decode cX10_lessens 58 = .ok (.iconst (-1), 1) := by decide +kernel
theorem dX10_lessens_59 : decode cX10_lessens 59 = .ok (.if_icmp .ne 12, 3) := by decide +kernel
theorem dX10_lessens_62 : decode cX10_lessens 62 = .ok (.aload_n 0, 1) := by decide +kernel
theorem dX10_lessens_63 : decode cX10_lessens 63 = .ok (.iconst 2, 1) := by decide +kernel
theorem dX10_lessens_64 : decode cX10_lessens 64 = .ok (.iload 4, 2) := by decide +kernel
theorem dX10_lessens_66 : decode cX10_lessens 66 = .ok (.iload 5, 2) := by decide +kernel
theorem dX10_lessens_68 : decode cX10_lessens 68 = .ok (.invokevirtual 151, 3) := by decide +kernel
theorem dX10_lessens_71 : decode cX10_lessens 71 = .ok (.iinc 3 1, 3) := by decide +kernel
theorem dX10_lessens_74 : decode cX10_lessens 74 = .ok (.goto (-58), 3) := by decide +kernel
theorem dX10_lessens_77 : decode cX10_lessens 77 = .ok (.return_, 1) := by decide +kernel
theorem dX10_happens_0 : decode cX10_happens 0 = .ok (.iload_n 1, 1) := by decide +kernel
theorem dX10_happens_1 : decode cX10_happens 1 = .ok (.iconst 2, 1) := by decide +kernel
theorem dX10_happens_2 : decode cX10_happens 2 = .ok (.if_icmp .ne 11, 3) := by decide +kernel
theorem dX10_happens_5 : decode cX10_happens 5 = .ok (.aload_n 0, 1) := by decide +kernel
theorem dX10_happens_6 : decode cX10_happens 6 = .ok (.iload_n 2, 1) := by decide +kernel
theorem dX10_happens_7 : decode cX10_happens 7 = .ok (.invokevirtual 336, 3) := by decide +kernel
theorem dX10_happens_10 : decode cX10_happens 10 = .ok (.goto 68, 3) := by decide +kernel
theorem dX10_happens_13 : decode cX10_happens 13 = .ok (.iload_n 1, 1) := by decide +kernel
theorem dX10_happens_14 : decode cX10_happens 14 = .ok (.iconst 1, 1) := by decide +kernel
theorem dX10_happens_15 : decode cX10_happens 15 = .ok (.if_icmp .ne 22, 3) := by decide +kernel
theorem dX10_happens_18 : decode cX10_happens 18 = .ok (.iload_n 2, 1) := by decide +kernel
theorem dX10_happens_19 : decode cX10_happens 19 = .ok (.aload_n 0, 1) := by decide +kernel
theorem dX10_happens_20 : decode cX10_happens 20 = .ok (.getfield 11, 3) := by decide +kernel
theorem dX10_happens_23 : decode cX10_happens 23 = .ok (.iconst 2, 1) := by decide +kernel
theorem dX10_happens_24 : decode cX10_happens 24 = .ok (.iaload, 1) := by decide +kernel
theorem dX10_happens_25 : decode cX10_happens 25 = .ok (.if_icmp .ge 53, 3) := by decide +kernel
theorem dX10_happens_28 : decode cX10_happens 28 = .ok (.aload_n 0, 1) := by decide +kernel
theorem dX10_happens_29 : decode cX10_happens 29 = .ok (.iconst 2, 1) := by decide +kernel
theorem dX10_happens_30 : decode cX10_happens 30 = .ok (.iload_n 2, 1) := by decide +kernel
theorem dX10_happens_31 : decode cX10_happens 31 = .ok (.invokevirtual 159, 3) := by decide +kernel
theorem dX10_happens_34 : decode cX10_happens 34 = .ok (.goto 44, 3) := by decide +kernel
theorem dX10_happens_37 : decode cX10_happens 37 = .ok (.aload_n 0, 1) := by decide +kernel
theorem dX10_happens_38 : decode cX10_happens 38 = .ok (.iconst 2, 1) := by decide +kernel
theorem dX10_happens_39 : decode cX10_happens 39 = .ok (.iload_n 2, 1) := by decide +kernel
theorem dX10_happens_40 : decode cX10_happens 40 = .ok (.bipush 10, 2) := by decide +kernel
theorem dX10_happens_42 : decode cX10_happens 42 = .ok (.idiv, 1) := by decide +kernel
theorem dX10_happens_43 : decode cX10_happens 43 = .ok (.iload_n 2, 1) := by decide +kernel
theorem dX10_happens_44 : decode cX10_happens 44 = .ok (.bipush 10, 2) := by decide +kernel
theorem dX10_happens_46 : decode cX10_happens 46 = .ok (.irem, 1) := by decide +kernel
theorem dX10_happens_47 : decode cX10_happens 47 = .ok (.invokevirtual 143, 3) := by decide +kernel
theorem dX10_happens_50 : decode cX10_happens 50 = .ok (.iconst (-1), 1) := by decide +kernel
theorem dX10_happens_51 : decode cX10_happens 51 = .ok (.if_icmp .ne 27, 3) := by decide +kernel
theorem dX10_happens_54 : decode cX10_happens 54 = .ok (.aload_n 0, 1) := by decide +kernel
theorem dX10_happens_55 : decode cX10_happens 55 = .ok (.getfield 11, 3) := by decide +kernel
theorem dX10_happens_58 : decode cX10_happens 58 = .ok (.iconst 2, 1) := by decide +kernel
theorem dX10_happens_59 : decode cX10_happens 59 = .ok (.iaload, 1) := by decide +kernel
theorem dX10_happens_60 : decode cX10_happens 60 = .ok (.bipush 6, 2) := by decide +kernel
theorem dX10_happens_62 : decode cX10_happens 62 = .ok (.if_icmp .ge 16, 3) := by decide +kernel
theorem dX10_happens_65 : decode cX10_happens 65 = .ok (.aload_n 0, 1) := by decide +kernel
theorem dX10_happens_66 : decode cX10_happens 66 = .ok (.iconst 2, 1) := by decide +kernel
theorem dX10_happens_67 : decode cX10_happens 67 = .ok (.iload_n 2, 1) := by decide +kernel
theorem dX10_happens_68 : decode cX10_happens 68 = .ok (.bipush 10, 2) := by decide +kernel
theorem dX10_happens_70 : decode cX10_happens 70 = .ok (.idiv, 1) := by decide +kernel
theorem dX10_happens_71 : decode cX10_happens 71 = .ok (.iload_n 2, 1) := by decide +kernel
theorem dX10_happens_72 : decode cX10_happens 72 = .ok (.bipush 10, 2) := by decide +kernel
theorem dX10_happens_74 : decode cX10_happens 74 = .ok (.irem, 1) := by decide +kernel
theorem dX10_happens_75 : decode cX10_happens 75 = .ok (.invokevirtual 151, 3) := by decide +kernel
theorem dX10_happens_78 : decode cX10_happens 78 = .ok (.return_, 1) := by decide +kernel
theorem dX10_after_0 : decode cX10_after 0 = .ok (.iload_n 1, 1) := by decide +kernel
theorem dX10_after_1 : decode cX10_after 1 = .ok (.i2l, 1) := by decide +kernel
theorem dX10_after_2 : decode cX10_after 2 = .ok (.lconst 0, 1) := by decide +kernel
theorem dX10_after_3 : decode cX10_after 3 = .ok (.ldc2_w 241, 3) := by decide +kernel
theorem dX10_after_6 : decode cX10_after 6 = .ok (.invokestatic 115, 3) := by decide +kernel
theorem dX10_after_9 : decode cX10_after 9 = .ok (.ifCond .ne 5, 3) := by decide +kernel
theorem dX10_after_12 : decode cX10_after 12 = .ok (.iconst (-1), 1) := by decide +kernel
theorem dX10_after_13 : decode cX10_after 13 = .ok (.ireturn, 1) := by decide +kernel
theorem dX10_after_14 : decode cX10_after 14 = .ok (.aload_n 0, 1) := by decide +kernel
theorem dX10_after_15 : decode cX10_after 15 = .ok (.iconst 0, 1) := by decide +kernel
theorem dX10_after_16 : decode cX10_after 16 = .ok (.iconst 2, 1) := by decide +kernel
theorem dX10_after_17 : decode cX10_after 17 = .ok (.invokevirtual 339, 3) := by decide +kernel
theorem dX10_after_20 : decode cX10_after 20 = .ok (.iconst 0, 1) := by decide +kernel
theorem dX10_after_21 : decode cX10_after 21 = .ok (.istore_n 2, 1) := by decide +kernel
theorem dX10_after_22 : decode cX10_after 22 = .ok (.iload_n 2, 1) := by decide +kernel
theorem dX10_after_23 : decode cX10_after 23 = .ok (.aload_n 0, 1) := by decide +kernel
theorem dX10_after_24 : decode cX10_after 24 = .ok (.getfield 328, 3) := by decide +kernel
theorem dX10_after_27 : decode cX10_after 27 = .ok (.if_icmp .ge 25, 3) := by decide +kernel
theorem dX10_after_30 : decode cX10_after 30 = .ok (.aload_n 0, 1) := by decide +kernel
theorem dX10_after_31 : decode cX10_after 31 = .ok (.aload_n 0, 1) := by decide +kernel
theorem dX10_after_32 : decode cX10_after 32 = .ok (.getfield 72, 3) := by decide +kernel
theorem dX10_after_35 : decode cX10_after 35 = .ok (.iload_n 2, 1) := by decide +kernel
theorem dX10_after_36 : decode cX10_after 36 = .ok (.iaload, 1) := by decide +kernel
theorem dX10_after_37 : decode cX10_after 37 = .ok (.aload_n 0, 1) := by decide +kernel
theorem dX10_after_38 : decode cX10_after 38 = .ok (.getfield 75, 3) := by decide +kernel
theorem dX10_after_41 : decode cX10_after 41 = .ok (.iload_n 2, 1) := by decide +kernel
theorem dX10_after_42 : decode cX10_after 42 = .ok (.iaload, 1) := by decide +kernel
theorem dX10_after_43 : decode cX10_after 43 = .ok (.invokevirtual 342, 3) := by decide +kernel
theorem dX10_after_46 : decode cX10_after 46 = .ok (.iinc 2 1, 3) := by decide +kernel
theorem dX10_after_49 : decode cX10_after 49 = .ok (.goto (-27), 3) := by decide +kernel
theorem dX10_after_52 : decode cX10_after 52 = .ok (.iload_n 1, 1) := by decide +kernel
theorem dX10_after_53 : decode cX10_after 53 = .ok (.ifCond .ne 10, 3) := by decide +kernel
theorem dX10_after_56 : decode cX10_after 56 = .ok (.aload_n 0, 1) := by decide +kernel
theorem dX10_after_57 : decode cX10_after 57 = .ok (.getfield 11, 3) := by decide +kernel
theorem dX10_after_60 : decode cX10_after 60 = .ok (.iconst 2, 1) := by decide +kernel
theorem dX10_after_61 : decode cX10_after 61 = .ok (.iaload, 1) := by decide +kernel
theorem dX10_after_62 : decode cX10_after 62 = .ok (.ireturn, 1) := by decide +kernel
theorem dX10_after_63 : decode cX10_after 63 = .ok (.aload_n 0, 1) := by decide +kernel
theorem dX10_after_64 : decode cX10_after 64 = .ok (.getfield 11, 3) := by decide +kernel
theorem dX10_after_67 : decode cX10_after 67 = .ok (.iconst 2, 1) := by decide +kernel
theorem dX10_after_68 : decode cX10_after 68 = .ok (.iaload, 1) := by decide +kernel
theorem dX10_after_69 : decode cX10_after 69 = .ok (.ifCond .ne 6, 3) := by decide +kernel
theorem dX10_after_72 : decode cX10_after 72 = .ok (.bipush (-3), 2) := by decide +kernel
theorem dX10_after_74 : decode cX10_after 74 = .ok (.ireturn, 1) := by decide +kernel
theorem dX10_after_75 : decode cX10_after 75 = .ok (.aload_n 0, 1) := by decide +kernel
theorem dX10_after_76 : decode cX10_after 76 = .ok (.iconst 2, 1) := by decide +kernel
theorem dX10_after_77 : decode cX10_after 77 = .ok (.iload_n 1, 1) := by decide +kernel
theorem dX10_after_78 : decode cX10_after 78 = .ok (.iconst 1, 1) := by decide +kernel
theorem dX10_after_79 : decode cX10_after 79 = .ok (.if_icmp .ne 7, 3) := by decide +kernel
theorem dX10_after_82 : decode cX10_after 82 = .ok (.iconst 4, 1) := by decide +kernel
theorem dX10_after_83 : decode cX10_after 83 = .ok (.goto 4, 3) := by decide +kernel
theorem dX10_after_86 : decode cX10_after 86 = .ok (.iconst 3, 1) := by decide +kernel
theorem dX10_after_87 : decode cX10_after 87 = .ok (.invokevirtual 248, 3) := by decide +kernel
theorem dX10_after_90 : decode cX10_after 90 = .ok (.ireturn, 1) := by decide +kernel
theorem dX10_book_0 : decode cX10_book 0 = .ok (.iload_n 1, 1) := by decide +kernel
theorem dX10_book_1 : decode cX10_book 1 = .ok (.iconst (-1), 1) := by decide +kernel
theorem dX10_book_2 : decode cX10_book 2 = .ok (.if_icmp .ne 10, 3) := by decide +kernel
theorem dX10_book_5 : decode cX10_book 5 = .ok (.aload_n 0, 1) := by decide +kernel
theorem dX10_book_6 : decode cX10_book 6 = .ok (.iconst 0, 1) := by decide +kernel
theorem dX10_book_7 : decode cX10_book 7 = .ok (.putfield 345, 3) := by decide +kernel
theorem dX10_book_10 : decode cX10_book 10 = .ok (.iconst 0, 1) := by decide +kernel
theorem dX10_book_11 : decode cX10_book 11 = .ok (.ireturn, 1) := by decide +kernel
theorem dX10_book_12 : decode cX10_book 12 = .ok (.iload_n 1, 1) := by decide +kernel
theorem dX10_book_13 : decode cX10_book 13 = .ok (.i2l, 1) := by decide +kernel
theorem dX10_book_14 : decode cX10_book 14 = .ok (.lconst 0, 1) := by decide +kernel
theorem dX10_book_15 : decode cX10_book 15 = .ok (.ldc2_w 263, 3) := by decide +kernel
theorem dX10_book_18 : decode cX10_book 18 = .ok (.invokestatic 115, 3) := by decide +kernel
theorem dX10_book_21 : decode cX10_book 21 = .ok (.ifCond .ne 5, 3) := by decide +kernel
theorem dX10_book_24 : decode cX10_book 24 = .ok (.iconst (-1), 1) := by decide +kernel
theorem dX10_book_25 : decode cX10_book 25 = .ok (.ireturn, 1) := by decide +kernel
theorem dX10_book_26 : decode cX10_book 26 = .ok (.iload_n 2, 1) := by decide +kernel
theorem dX10_book_27 : decode cX10_book 27 = .ok (.i2l, 1) := by decide +kernel
theorem dX10_book_28 : decode cX10_book 28 = .ok (.lconst 0, 1) := by decide +kernel
theorem dX10_book_29 : decode cX10_book 29 = .ok (.lconst 1, 1) := by decide +kernel
theorem dX10_book_30 : decode cX10_book 30 = .ok (.invokestatic 115, 3) := by decide +kernel
theorem dX10_book_33 : decode cX10_book 33 = .ok (.ifCond .ne 6, 3) := by decide +kernel
theorem dX10_book_36 : decode cX10_book 36 = .ok (.bipush (-2), 2) := by decide +kernel
theorem dX10_book_38 : decode cX10_book 38 = .ok (.ireturn, 1) := by decide +kernel
theorem dX10_book_39 : decode cX10_book 39 = .ok (.aload_n 0, 1) := by decide +kernel
theorem dX10_book_40 : decode cX10_book 40 = .ok (.getfield 345, 3) := by decide +kernel
theorem dX10_book_43 : decode cX10_book 43 = .ok (.bipush 8, 2) := by decide +kernel
theorem dX10_book_45 : decode cX10_book 45 = .ok (.if_icmp .ne 6, 3) := by decide +kernel
theorem dX10_book_48 : decode cX10_book 48 = .ok (.bipush (-4), 2) := by decide +kernel
theorem dX10_book_50 : decode cX10_book 50 = .ok (.ireturn, 1) := by decide +kernel
theorem dX10_book_51 : decode cX10_book 51 = .ok (.aload_n 0, 1) := by decide +kernel
theorem dX10_book_52 : decode cX10_book 52 = .ok (.getfield 78, 3) := by decide +kernel
theorem dX10_book_55 : decode cX10_book 55 = .ok (.aload_n 0, 1) := by decide +kernel
theorem dX10_book_56 : decode cX10_book 56 = .ok (.getfield 345, 3) := by decide +kernel
theorem dX10_book_59 : decode cX10_book 59 = .ok (.iload_n 1, 1) := by decide +kernel
theorem dX10_book_60 : decode cX10_book 60 = .ok (.iastore, 1) := by decide +kernel
theorem dX10_book_61 : decode cX10_book 61 = .ok (.aload_n 0, 1) := by decide +kernel
theorem dX10_book_62 : decode cX10_book 62 = .ok (.getfield 81, 3) := by decide +kernel
theorem dX10_book_65 : decode cX10_book 65 = .ok (.aload_n 0, 1) := by decide +kernel
theorem dX10_book_66 : decode cX10_book 66 = .ok (.getfield 345, 3) := by decide +kernel
theorem dX10_book_69 : decode cX10_book 69 = .ok (.iload_n 2, 1) := by decide +kernel
theorem dX10_book_70 : decode cX10_book 70 = .ok (.iastore, 1) := by decide +kernel
theorem dX10_book_71 : decode cX10_book 71 = .ok (.aload_n 0, 1) := by decide +kernel
theorem dX10_book_72 : decode cX10_book 72 = .ok (.dup, 1) := by decide +kernel
theorem dX10_book_73 : decode cX10_book 73 = .ok (.getfield 345, 3) := by decide +kernel
theorem dX10_book_76 : decode cX10_book 76 = .ok (.iconst 1, 1) := by decide +kernel
theorem dX10_book_77 : decode cX10_book 77 = .ok (.iadd, 1) := by decide +kernel
theorem dX10_book_78 : decode cX10_book 78 = .ok (.putfield 345, 3) := by decide +kernel
theorem dX10_book_81 : decode cX10_book 81 = .ok (.aload_n 0, 1) := by decide +kernel
theorem dX10_book_82 : decode cX10_book 82 = .ok (.getfield 345, 3) := by decide +kernel
theorem dX10_book_85 : decode cX10_book 85 = .ok (.ireturn, 1) := by decide +kernel
theorem dX10_looked_0 : decode cX10_looked 0 = .ok (.iconst 0, 1) := by decide +kernel
theorem dX10_looked_1 : decode cX10_looked 1 = .ok (.istore_n 1, 1) := by decide +kernel
theorem dX10_looked_2 : decode cX10_looked 2 = .ok (.iload_n 1, 1) := by decide +kernel
theorem dX10_looked_3 : decode cX10_looked 3 = .ok (.aload_n 0, 1) := by decide +kernel
theorem dX10_looked_4 : decode cX10_looked 4 = .ok (.getfield 345, 3) := by decide +kernel
theorem dX10_looked_7 : decode cX10_looked 7 = .ok (.if_icmp .ge 51, 3) := by decide +kernel
theorem dX10_looked_10 : decode cX10_looked 10 = .ok (.aload_n 0, 1) := by decide +kernel
theorem dX10_looked_11 : decode cX10_looked 11 = .ok (.iconst 0, 1) := by decide +kernel
theorem dX10_looked_12 : decode cX10_looked 12 = .ok (.aload_n 0, 1) := by decide +kernel
theorem dX10_looked_13 : decode cX10_looked 13 = .ok (.getfield 78, 3) := by decide +kernel
theorem dX10_looked_16 : decode cX10_looked 16 = .ok (.iload_n 1, 1) := by decide +kernel
theorem dX10_looked_17 : decode cX10_looked 17 = .ok (.iaload, 1) := by decide +kernel
theorem dX10_looked_18 : decode cX10_looked 18 = .ok (.bipush 10, 2) := by decide +kernel
theorem dX10_looked_20 : decode cX10_looked 20 = .ok (.idiv, 1) := by decide +kernel
theorem dX10_looked_21 : decode cX10_looked 21 = .ok (.aload_n 0, 1) := by decide +kernel
theorem dX10_looked_22 : decode cX10_looked 22 = .ok (.getfield 78, 3) := by decide +kernel
theorem dX10_looked_25 : decode cX10_looked 25 = .ok (.iload_n 1, 1) := by decide +kernel
theorem dX10_looked_26 : decode cX10_looked 26 = .ok (.iaload, 1) := by decide +kernel
theorem dX10_looked_27 : decode cX10_looked 27 = .ok (.bipush 10, 2) := by decide +kernel
theorem dX10_looked_29 : decode cX10_looked 29 = .ok (.irem, 1) := by decide +kernel
theorem dX10_looked_30 : decode cX10_looked 30 = .ok (.invokevirtual 234, 3) := by decide +kernel
theorem dX10_looked_33 : decode cX10_looked 33 = .ok (.ifCond .eq 7, 3) := by decide +kernel
theorem dX10_looked_36 : decode cX10_looked 36 = .ok (.iconst 1, 1) := by decide +kernel
theorem dX10_looked_37 : decode cX10_looked 37 = .ok (.goto 4, 3) := by decide +kernel
theorem dX10_looked_40 : decode cX10_looked 40 = .ok (.iconst 0, 1) := by decide +kernel
theorem dX10_looked_41 : decode cX10_looked 41 = .ok (.aload_n 0, 1) := by decide +kernel
theorem dX10_looked_42 : decode cX10_looked 42 = .ok (.getfield 81, 3) := by decide +kernel
theorem dX10_looked_45 : decode cX10_looked 45 = .ok (.iload_n 1, 1) := by decide +kernel
theorem dX10_looked_46 : decode cX10_looked 46 = .ok (.iaload, 1) := by decide +kernel
theorem dX10_looked_47 : decode cX10_looked 47 = .ok (.if_icmp .eq 5, 3) := by decide +kernel
theorem dX10_looked_50 : decode cX10_looked 50 = .ok (.iload_n 1, 1) := by decide +kernel
theorem dX10_looked_51 : decode cX10_looked 51 = .ok (.ireturn, 1) := by decide +kernel
theorem dX10_looked_52 : decode cX10_looked 52 = .ok (.iinc 1 1, 3) := by decide +kernel
theorem dX10_looked_55 : decode cX10_looked 55 = .ok (.goto (-53), 3) := by decide +kernel
theorem dX10_looked_58 : decode cX10_looked 58 = .ok (.bipush (-5), 2) := by decide +kernel
theorem dX10_looked_60 : decode cX10_looked 60 = .ok (.ireturn, 1) := by decide +kernel
theorem dX10_isTape_0 : decode cX10_isTape 0 = .ok (.iload_n 0, 1) := by decide +kernel
theorem dX10_isTape_1 : decode cX10_isTape 1 = .ok (.i2l, 1) := by decide +kernel
theorem dX10_isTape_2 : decode cX10_isTape 2 = .ok (.lconst 0, 1) := by decide +kernel
theorem dX10_isTape_3 : decode cX10_isTape 3 = .ok (.ldc2_w 331, 3) := by decide +kernel
theorem dX10_isTape_6 : decode cX10_isTape 6 = .ok (.invokestatic 115, 3) := by decide +kernel
theorem dX10_isTape_9 : decode cX10_isTape 9 = .ok (.ireturn, 1) := by decide +kernel
theorem dX10_judge_0 : decode cX10_judge 0 = .ok (.iload_n 1, 1) := by decide +kernel
theorem dX10_judge_1 : decode cX10_judge 1 = .ok (.invokestatic 136, 3) := by decide +kernel
theorem dX10_judge_4 : decode cX10_judge 4 = .ok (.ifCond .eq 10, 3) := by decide +kernel
theorem dX10_judge_7 : decode cX10_judge 7 = .ok (.iload_n 2, 1) := by decide +kernel
theorem dX10_judge_8 : decode cX10_judge 8 = .ok (.invokestatic 348, 3) := by decide +kernel
theorem dX10_judge_11 : decode cX10_judge 11 = .ok (.ifCond .ne 5, 3) := by decide +kernel
theorem dX10_judge_14 : decode cX10_judge 14 = .ok (.iconst (-1), 1) := by decide +kernel
theorem dX10_judge_15 : decode cX10_judge 15 = .ok (.ireturn, 1) := by decide +kernel
theorem dX10_judge_16 : decode cX10_judge 16 = .ok (.aload_n 0, 1) := by decide +kernel
theorem dX10_judge_17 : decode cX10_judge 17 = .ok (.getfield 84, 3) := by decide +kernel
theorem dX10_judge_20 : decode cX10_judge 20 = .ok (.iload_n 2, 1) := by decide +kernel
theorem dX10_judge_21 : decode cX10_judge 21 = .ok (.iaload, 1) := by decide +kernel
theorem dX10_judge_22 : decode cX10_judge 22 = .ok (.ifCond .le 6, 3) := by decide +kernel
theorem dX10_judge_25 : decode cX10_judge 25 = .ok (.bipush (-12), 2) := by decide +kernel
theorem dX10_judge_27 : decode cX10_judge 27 = .ok (.ireturn, 1) := by decide +kernel
theorem dX10_judge_28 : decode cX10_judge 28 = .ok (.iconst 0, 1) := by decide +kernel
theorem dX10_judge_29 : decode cX10_judge 29 = .ok (.istore 4, 2) := by decide +kernel
theorem dX10_judge_31 : decode cX10_judge 31 = .ok (.iload 4, 2) := by decide +kernel
theorem dX10_judge_33 : decode cX10_judge 33 = .ok (.bipush 10, 2) := by decide +kernel
theorem dX10_judge_35 : decode cX10_judge 35 = .ok (.if_icmp .ge 78, 3) := by decide +kernel
theorem dX10_judge_38 : decode cX10_judge 38 = .ok (.iload_n 3, 1) := by decide +kernel
theorem dX10_judge_39 : decode cX10_judge 39 = .ok (.i2l, 1) := by decide +kernel
theorem dX10_judge_40 : decode cX10_judge 40 = .ok (.iload 4, 2) := by decide +kernel
theorem dX10_judge_42 : decode cX10_judge 42 = .ok (.i2l, 1) := by decide +kernel
theorem dX10_judge_43 : decode cX10_judge 43 = .ok (.ladd, 1) := by decide +kernel
theorem dX10_judge_44 : decode cX10_judge 44 = .ok (.lstore 5, 2) := by decide +kernel
theorem dX10_judge_46 : decode cX10_judge 46 = .ok (.iload_n 3, 1) := by decide +kernel
theorem dX10_judge_47 : decode cX10_judge 47 = .ok (.ifCond .lt 26, 3) := by decide +kernel
theorem dX10_judge_50 : decode cX10_judge 50 = .ok (.aload_n 0, 1) := by decide +kernel
theorem dX10_judge_51 : decode cX10_judge 51 = .ok (.getfield 84, 3) := by decide +kernel
theorem dX10_judge_54 : decode cX10_judge 54 = .ok (.iload_n 2, 1) := by decide +kernel
theorem dX10_judge_55 : decode cX10_judge 55 = .ok (.iaload, 1) := by decide +kernel
theorem dX10_judge_56 : decode cX10_judge 56 = .ok (.iconst (-1), 1) := by decide +kernel
theorem dX10_judge_57 : decode cX10_judge 57 = .ok (.if_icmp .eq 16, 3) := by decide +kernel
theorem dX10_judge_60 : decode cX10_judge 60 = .ok (.lload 5, 2) := by decide +kernel
theorem dX10_judge_62 : decode cX10_judge 62 = .ok (.aload_n 0, 1) := by decide +kernel
theorem dX10_judge_63 : decode cX10_judge 63 = .ok (.getfield 87, 3) := by decide +kernel
theorem dX10_judge_66 : decode cX10_judge 66 = .ok (.iload_n 2, 1) := by decide +kernel
theorem dX10_judge_67 : decode cX10_judge 67 = .ok (.iaload, 1) := by decide +kernel
theorem dX10_judge_68 : decode cX10_judge 68 = .ok (.i2l, 1) := by decide +kernel
theorem dX10_judge_69 : decode cX10_judge 69 = .ok (.lcmp, 1) := by decide +kernel
theorem dX10_judge_70 : decode cX10_judge 70 = .ok (.ifCond .lt 9, 3) := by decide +kernel
theorem dX10_judge_73 : decode cX10_judge 73 = .ok (.bipush 100, 2) := by decide +kernel
theorem dX10_judge_75 : decode cX10_judge 75 = .ok (.iload 4, 2) := by decide +kernel
theorem dX10_judge_77 : decode cX10_judge 77 = .ok (.iadd, 1) := by decide +kernel
theorem dX10_judge_78 : decode cX10_judge 78 = .ok (.ireturn, 1) := by decide +kernel
theorem dX10_judge_79 : decode cX10_judge 79 = .ok (.aload_n 0, 1) := by decide +kernel
theorem dX10_judge_80 : decode cX10_judge 80 = .ok (.getfield 90, 3) := by decide +kernel
theorem dX10_judge_83 : decode cX10_judge 83 = .ok (.bipush 60, 2) := by decide +kernel
theorem dX10_judge_85 : decode cX10_judge 85 = .ok (.iload_n 2, 1) := by decide +kernel
theorem dX10_judge_86 : decode cX10_judge 86 = .ok (.imul, 1) := by decide +kernel
theorem dX10_judge_87 : decode cX10_judge 87 = .ok (.lload 5, 2) := by decide +kernel
theorem dX10_judge_89 : decode cX10_judge 89 = .ok (.l2i, 1) := by decide +kernel
theorem dX10_judge_90 : decode cX10_judge 90 = .ok (.iadd, 1) := by decide +kernel
theorem dX10_judge_91 : decode cX10_judge 91 = .ok (.laload, 1) := by decide +kernel
theorem dX10_judge_92 : decode cX10_judge 92 = .ok (.aload_n 0, 1) := by decide +kernel
theorem dX10_judge_93 : decode cX10_judge 93 = .ok (.iload_n 1, 1) := by decide +kernel
theorem dX10_judge_94 : decode cX10_judge 94 = .ok (.iload 4, 2) := by decide +kernel
theorem dX10_judge_96 : decode cX10_judge 96 = .ok (.invokevirtual 301, 3) := by decide +kernel
theorem dX10_judge_99 : decode cX10_judge 99 = .ok (.i2l, 1) := by decide +kernel
theorem dX10_judge_100 : decode cX10_judge 100 = .ok (.lcmp, 1) := by decide +kernel
theorem dX10_judge_101 : decode cX10_judge 101 = .ok (.ifCond .eq 6, 3) := by decide +kernel
theorem dX10_judge_104 : decode cX10_judge 104 = .ok (.iload 4, 2) := by decide +kernel
theorem dX10_judge_106 : decode cX10_judge 106 = .ok (.ireturn, 1) := by decide +kernel
theorem dX10_judge_107 : decode cX10_judge 107 = .ok (.iinc 4 1, 3) := by decide +kernel
theorem dX10_judge_110 : decode cX10_judge 110 = .ok (.goto (-79), 3) := by decide +kernel
theorem dX10_judge_113 : decode cX10_judge 113 = .ok (.bipush (-5), 2) := by decide +kernel
theorem dX10_judge_115 : decode cX10_judge 115 = .ok (.ireturn, 1) := by decide +kernel
theorem dX10_tape_0 : decode cX10_tape 0 = .ok (.iload_n 1, 1) := by decide +kernel
theorem dX10_tape_1 : decode cX10_tape 1 = .ok (.invokestatic 348, 3) := by decide +kernel
theorem dX10_tape_4 : decode cX10_tape 4 = .ok (.ifCond .ne 5, 3) := by decide +kernel
theorem dX10_tape_7 : decode cX10_tape 7 = .ok (.iconst (-1), 1) := by decide +kernel
theorem dX10_tape_8 : decode cX10_tape 8 = .ok (.ireturn, 1) := by decide +kernel
theorem dX10_tape_9 : decode cX10_tape 9 = .ok (.iload_n 2, 1) := by decide +kernel
theorem dX10_tape_10 : decode cX10_tape 10 = .ok (.i2l, 1) := by decide +kernel
theorem dX10_tape_11 : decode cX10_tape 11 = .ok (.ldc2_w 351, 3) := by decide +kernel
theorem dX10_tape_14 : decode cX10_tape 14 = .ok (.ldc2_w 243, 3) := by decide +kernel
theorem dX10_tape_17 : decode cX10_tape 17 = .ok (.invokestatic 115, 3) := by decide +kernel
theorem dX10_tape_20 : decode cX10_tape 20 = .ok (.ifCond .eq 14, 3) := by decide +kernel
theorem dX10_tape_23 : decode cX10_tape 23 = .ok (.iload_n 2, 1) := by decide +kernel
theorem dX10_tape_24 : decode cX10_tape 24 = .ok (.iconst (-1), 1) := by decide +kernel
theorem dX10_tape_25 : decode cX10_tape 25 = .ok (.if_icmp .eq 12, 3) := by decide +kernel
theorem dX10_tape_28 : decode cX10_tape 28 = .ok (.iload_n 3, 1) := by decide +kernel
theorem dX10_tape_29 : decode cX10_tape 29 = .ok (.bipush 60, 2) := by decide +kernel
theorem dX10_tape_31 : decode cX10_tape 31 = .ok (.if_icmp .le 6, 3) := by decide +kernel
theorem dX10_tape_34 : decode cX10_tape 34 = .ok (.bipush (-2), 2) := by decide +kernel
theorem dX10_tape_36 : decode cX10_tape 36 = .ok (.ireturn, 1) := by decide +kernel
theorem dX10_tape_37 : decode cX10_tape 37 = .ok (.iload_n 2, 1) := by decide +kernel
theorem dX10_tape_38 : decode cX10_tape 38 = .ok (.iconst (-1), 1) := by decide +kernel
theorem dX10_tape_39 : decode cX10_tape 39 = .ok (.if_icmp .eq 10, 3) := by decide +kernel
theorem dX10_tape_42 : decode cX10_tape 42 = .ok (.iload_n 3, 1) := by decide +kernel
theorem dX10_tape_43 : decode cX10_tape 43 = .ok (.ifCond .ge 6, 3) := by decide +kernel
theorem dX10_tape_46 : decode cX10_tape 46 = .ok (.bipush (-14), 2) := by decide +kernel
theorem dX10_tape_48 : decode cX10_tape 48 = .ok (.ireturn, 1) := by decide +kernel
theorem dX10_tape_49 : decode cX10_tape 49 = .ok (.aload_n 0, 1) := by decide +kernel
theorem dX10_tape_50 : decode cX10_tape 50 = .ok (.getfield 84, 3) := by decide +kernel
theorem dX10_tape_53 : decode cX10_tape 53 = .ok (.iload_n 1, 1) := by decide +kernel
theorem dX10_tape_54 : decode cX10_tape 54 = .ok (.iload_n 2, 1) := by decide +kernel
theorem dX10_tape_55 : decode cX10_tape 55 = .ok (.iastore, 1) := by decide +kernel
theorem dX10_tape_56 : decode cX10_tape 56 = .ok (.aload_n 0, 1) := by decide +kernel
theorem dX10_tape_57 : decode cX10_tape 57 = .ok (.getfield 87, 3) := by decide +kernel
theorem dX10_tape_60 : decode cX10_tape 60 = .ok (.iload_n 1, 1) := by decide +kernel
theorem dX10_tape_61 : decode cX10_tape 61 = .ok (.iload_n 2, 1) := by decide +kernel
theorem dX10_tape_62 : decode cX10_tape 62 = .ok (.iconst (-1), 1) := by decide +kernel
theorem dX10_tape_63 : decode cX10_tape 63 = .ok (.if_icmp .ne 7, 3) := by decide +kernel
theorem dX10_tape_66 : decode cX10_tape 66 = .ok (.iconst 0, 1) := by decide +kernel
theorem dX10_tape_67 : decode cX10_tape 67 = .ok (.goto 4, 3) := by decide +kernel
theorem dX10_tape_70 : decode cX10_tape 70 = .ok (.iload_n 3, 1) := by decide +kernel
theorem dX10_tape_71 : decode cX10_tape 71 = .ok (.iastore, 1) := by decide +kernel
theorem dX10_tape_72 : decode cX10_tape 72 = .ok (.iconst 0, 1) := by decide +kernel
theorem dX10_tape_73 : decode cX10_tape 73 = .ok (.istore 4, 2) := by decide +kernel
theorem dX10_tape_75 : decode cX10_tape 75 = .ok (.iload 4, 2) := by decide +kernel
theorem dX10_tape_77 : decode cX10_tape 77 = .ok (.bipush 60, 2) := by decide +kernel
theorem dX10_tape_79 : decode cX10_tape 79 = .ok (.if_icmp .ge 22, 3) := by decide +kernel
theorem dX10_tape_82 : decode cX10_tape 82 = .ok (.aload_n 0, 1) := by decide +kernel
theorem dX10_tape_83 : decode cX10_tape 83 = .ok (.getfield 90, 3) := by decide +kernel
theorem dX10_tape_86 : decode cX10_tape 86 = .ok (.bipush 60, 2) := by decide +kernel
theorem dX10_tape_88 : decode cX10_tape 88 = .ok (.iload_n 1, 1) := by decide +kernel
theorem dX10_tape_89 : decode cX10_tape 89 = .ok (.imul, 1) := by decide +kernel
theorem dX10_tape_90 : decode cX10_tape 90 = .ok (.iload 4, 2) := by decide +kernel
theorem dX10_tape_92 : decode cX10_tape 92 = .ok (.iadd, 1) := by decide +kernel
theorem dX10_tape_93 : decode cX10_tape 93 = .ok (.lconst 0, 1) := by decide +kernel
theorem dX10_tape_94 : decode cX10_tape 94 = .ok (.lastore, 1) := by decide +kernel
theorem dX10_tape_95 : decode cX10_tape 95 = .ok (.iinc 4 1, 3) := by decide +kernel
theorem dX10_tape_98 : decode cX10_tape 98 = .ok (.goto (-23), 3) := by decide +kernel
theorem dX10_tape_101 : decode cX10_tape 101 = .ok (.iconst 1, 1) := by decide +kernel
theorem dX10_tape_102 : decode cX10_tape 102 = .ok (.ireturn, 1) := by decide +kernel
theorem dX10_asSort_0 : decode cX10_asSort 0 = .ok (.iload_n 0, 1) := by decide +kernel
theorem dX10_asSort_1 : decode cX10_asSort 1 = .ok (.tableswitch 47 0 3 #[31, 36, 41, 45], 31) := by decide +kernel
theorem dX10_asSort_32 : decode cX10_asSort 32 = .ok (.lload_n 1, 1) := by decide +kernel
theorem dX10_asSort_33 : decode cX10_asSort 33 = .ok (.l2i, 1) := by decide +kernel
theorem dX10_asSort_34 : decode cX10_asSort 34 = .ok (.i2b, 1) := by decide +kernel
theorem dX10_asSort_35 : decode cX10_asSort 35 = .ok (.i2l, 1) := by decide +kernel
theorem dX10_asSort_36 : decode cX10_asSort 36 = .ok (.lreturn, 1) := by decide +kernel
theorem dX10_asSort_37 : decode cX10_asSort 37 = .ok (.lload_n 1, 1) := by decide +kernel
theorem dX10_asSort_38 : decode cX10_asSort 38 = .ok (.l2i, 1) := by decide +kernel
theorem dX10_asSort_39 : decode cX10_asSort 39 = .ok (.i2s, 1) := by decide +kernel
theorem dX10_asSort_40 : decode cX10_asSort 40 = .ok (.i2l, 1) := by decide +kernel
theorem dX10_asSort_41 : decode cX10_asSort 41 = .ok (.lreturn, 1) := by decide +kernel
theorem dX10_asSort_42 : decode cX10_asSort 42 = .ok (.lload_n 1, 1) := by decide +kernel
theorem dX10_asSort_43 : decode cX10_asSort 43 = .ok (.l2i, 1) := by decide +kernel
theorem dX10_asSort_44 : decode cX10_asSort 44 = .ok (.i2l, 1) := by decide +kernel
theorem dX10_asSort_45 : decode cX10_asSort 45 = .ok (.lreturn, 1) := by decide +kernel
theorem dX10_asSort_46 : decode cX10_asSort 46 = .ok (.lload_n 1, 1) := by decide +kernel
theorem dX10_asSort_47 : decode cX10_asSort 47 = .ok (.lreturn, 1) := by decide +kernel
theorem dX10_asSort_48 : decode cX10_asSort 48 = .ok (.lload_n 1, 1) := by decide +kernel
theorem dX10_asSort_49 : decode cX10_asSort 49 = .ok (.lconst 0, 1) := by decide +kernel
theorem dX10_asSort_50 : decode cX10_asSort 50 = .ok (.lcmp, 1) := by decide +kernel
theorem dX10_asSort_51 : decode cX10_asSort 51 = .ok (.ifCond .eq 7, 3) := by decide +kernel
theorem dX10_asSort_54 : decode cX10_asSort 54 = .ok (.lconst 1, 1) := by decide +kernel
theorem dX10_asSort_55 : decode cX10_asSort 55 = .ok (.goto 4, 3) := by decide +kernel
theorem dX10_asSort_58 : decode cX10_asSort 58 = .ok (.lconst 0, 1) := by decide +kernel
theorem dX10_asSort_59 : decode cX10_asSort 59 = .ok (.lreturn, 1) := by decide +kernel
theorem dX10_item_0 : decode cX10_item 0 = .ok (.iload_n 1, 1) := by decide +kernel
theorem dX10_item_1 : decode cX10_item 1 = .ok (.invokestatic 348, 3) := by decide +kernel
theorem dX10_item_4 : decode cX10_item 4 = .ok (.ifCond .ne 5, 3) := by decide +kernel
theorem dX10_item_7 : decode cX10_item 7 = .ok (.iconst (-1), 1) := by decide +kernel
theorem dX10_item_8 : decode cX10_item 8 = .ok (.ireturn, 1) := by decide +kernel
theorem dX10_item_9 : decode cX10_item 9 = .ok (.aload_n 0, 1) := by decide +kernel
theorem dX10_item_10 : decode cX10_item 10 = .ok (.getfield 84, 3) := by decide +kernel
theorem dX10_item_13 : decode cX10_item 13 = .ok (.iload_n 1, 1) := by decide +kernel
theorem dX10_item_14 : decode cX10_item 14 = .ok (.iaload, 1) := by decide +kernel
theorem dX10_item_15 : decode cX10_item 15 = .ok (.iconst (-1), 1) := by decide +kernel
theorem dX10_item_16 : decode cX10_item 16 = .ok (.if_icmp .ne 6, 3) := by decide +kernel
theorem dX10_item_19 : decode cX10_item 19 = .ok (.bipush (-11), 2) := by decide +kernel
theorem dX10_item_21 : decode cX10_item 21 = .ok (.ireturn, 1) := by decide +kernel
theorem dX10_item_22 : decode cX10_item 22 = .ok (.iload_n 2, 1) := by decide +kernel
theorem dX10_item_23 : decode cX10_item 23 = .ok (.i2l, 1) := by decide +kernel
theorem dX10_item_24 : decode cX10_item 24 = .ok (.lconst 0, 1) := by decide +kernel
theorem dX10_item_25 : decode cX10_item 25 = .ok (.aload_n 0, 1) := by decide +kernel
theorem dX10_item_26 : decode cX10_item 26 = .ok (.getfield 87, 3) := by decide +kernel
theorem dX10_item_29 : decode cX10_item 29 = .ok (.iload_n 1, 1) := by decide +kernel
theorem dX10_item_30 : decode cX10_item 30 = .ok (.iaload, 1) := by decide +kernel
theorem dX10_item_31 : decode cX10_item 31 = .ok (.iconst 1, 1) := by decide +kernel
theorem dX10_item_32 : decode cX10_item 32 = .ok (.isub, 1) := by decide +kernel
theorem dX10_item_33 : decode cX10_item 33 = .ok (.i2l, 1) := by decide +kernel
theorem dX10_item_34 : decode cX10_item 34 = .ok (.invokestatic 115, 3) := by decide +kernel
theorem dX10_item_37 : decode cX10_item 37 = .ok (.ifCond .ne 6, 3) := by decide +kernel
theorem dX10_item_40 : decode cX10_item 40 = .ok (.bipush (-13), 2) := by decide +kernel
theorem dX10_item_42 : decode cX10_item 42 = .ok (.ireturn, 1) := by decide +kernel
theorem dX10_item_43 : decode cX10_item 43 = .ok (.aload_n 0, 1) := by decide +kernel
theorem dX10_item_44 : decode cX10_item 44 = .ok (.getfield 90, 3) := by decide +kernel
theorem dX10_item_47 : decode cX10_item 47 = .ok (.bipush 60, 2) := by decide +kernel
theorem dX10_item_49 : decode cX10_item 49 = .ok (.iload_n 1, 1) := by decide +kernel
theorem dX10_item_50 : decode cX10_item 50 = .ok (.imul, 1) := by decide +kernel
theorem dX10_item_51 : decode cX10_item 51 = .ok (.iload_n 2, 1) := by decide +kernel
theorem dX10_item_52 : decode cX10_item 52 = .ok (.iadd, 1) := by decide +kernel
theorem dX10_item_53 : decode cX10_item 53 = .ok (.aload_n 0, 1) := by decide +kernel
theorem dX10_item_54 : decode cX10_item 54 = .ok (.getfield 84, 3) := by decide +kernel
theorem dX10_item_57 : decode cX10_item 57 = .ok (.iload_n 1, 1) := by decide +kernel
theorem dX10_item_58 : decode cX10_item 58 = .ok (.iaload, 1) := by decide +kernel
theorem dX10_item_59 : decode cX10_item 59 = .ok (.lload_n 3, 1) := by decide +kernel
theorem dX10_item_60 : decode cX10_item 60 = .ok (.invokestatic 353, 3) := by decide +kernel
theorem dX10_item_63 : decode cX10_item 63 = .ok (.lastore, 1) := by decide +kernel
theorem dX10_item_64 : decode cX10_item 64 = .ok (.iconst 1, 1) := by decide +kernel
theorem dX10_item_65 : decode cX10_item 65 = .ok (.ireturn, 1) := by decide +kernel
theorem dX10_peek_0 : decode cX10_peek 0 = .ok (.iload_n 1, 1) := by decide +kernel
theorem dX10_peek_1 : decode cX10_peek 1 = .ok (.invokestatic 348, 3) := by decide +kernel
theorem dX10_peek_4 : decode cX10_peek 4 = .ok (.ifCond .eq 35, 3) := by decide +kernel
theorem dX10_peek_7 : decode cX10_peek 7 = .ok (.iload_n 2, 1) := by decide +kernel
theorem dX10_peek_8 : decode cX10_peek 8 = .ok (.i2l, 1) := by decide +kernel
theorem dX10_peek_9 : decode cX10_peek 9 = .ok (.lconst 0, 1) := by decide +kernel
theorem dX10_peek_10 : decode cX10_peek 10 = .ok (.aload_n 0, 1) := by decide +kernel
theorem dX10_peek_11 : decode cX10_peek 11 = .ok (.getfield 87, 3) := by decide +kernel
theorem dX10_peek_14 : decode cX10_peek 14 = .ok (.iload_n 1, 1) := by decide +kernel
theorem dX10_peek_15 : decode cX10_peek 15 = .ok (.iaload, 1) := by decide +kernel
theorem dX10_peek_16 : decode cX10_peek 16 = .ok (.iconst 1, 1) := by decide +kernel
theorem dX10_peek_17 : decode cX10_peek 17 = .ok (.isub, 1) := by decide +kernel
theorem dX10_peek_18 : decode cX10_peek 18 = .ok (.i2l, 1) := by decide +kernel
theorem dX10_peek_19 : decode cX10_peek 19 = .ok (.invokestatic 115, 3) := by decide +kernel
theorem dX10_peek_22 : decode cX10_peek 22 = .ok (.ifCond .eq 17, 3) := by decide +kernel
theorem dX10_peek_25 : decode cX10_peek 25 = .ok (.aload_n 0, 1) := by decide +kernel
theorem dX10_peek_26 : decode cX10_peek 26 = .ok (.getfield 90, 3) := by decide +kernel
theorem dX10_peek_29 : decode cX10_peek 29 = .ok (.bipush 60, 2) := by decide +kernel
theorem dX10_peek_31 : decode cX10_peek 31 = .ok (.iload_n 1, 1) := by decide +kernel
theorem dX10_peek_32 : decode cX10_peek 32 = .ok (.imul, 1) := by decide +kernel
theorem dX10_peek_33 : decode cX10_peek 33 = .ok (.iload_n 2, 1) := by decide +kernel
theorem dX10_peek_34 : decode cX10_peek 34 = .ok (.iadd, 1) := by decide +kernel
theorem dX10_peek_35 : decode cX10_peek 35 = .ok (.laload, 1) := by decide +kernel
theorem dX10_peek_36 : decode cX10_peek 36 = .ok (.goto 6, 3) := by decide +kernel
theorem dX10_peek_39 : decode cX10_peek 39 = .ok (.ldc2_w 271, 3) := by decide +kernel
theorem dX10_peek_42 : decode cX10_peek 42 = .ok (.lreturn, 1) := by decide +kernel
theorem dX10_shift_0 : decode cX10_shift 0 = .ok (.iload_n 1, 1) := by decide +kernel
theorem dX10_shift_1 : decode cX10_shift 1 = .ok (.invokestatic 348, 3) := by decide +kernel
theorem dX10_shift_4 : decode cX10_shift 4 = .ok (.ifCond .eq 10, 3) := by decide +kernel
theorem dX10_shift_7 : decode cX10_shift 7 = .ok (.iload_n 3, 1) := by decide +kernel
theorem dX10_shift_8 : decode cX10_shift 8 = .ok (.invokestatic 348, 3) := by decide +kernel
theorem dX10_shift_11 : decode cX10_shift 11 = .ok (.ifCond .ne 5, 3) := by decide +kernel
theorem dX10_shift_14 : decode cX10_shift 14 = .ok (.iconst (-1), 1) := by decide +kernel
theorem dX10_shift_15 : decode cX10_shift 15 = .ok (.ireturn, 1) := by decide +kernel
theorem dX10_shift_16 : decode cX10_shift 16 = .ok (.aload_n 0, 1) := by decide +kernel
theorem dX10_shift_17 : decode cX10_shift 17 = .ok (.getfield 84, 3) := by decide +kernel
theorem dX10_shift_20 : decode cX10_shift 20 = .ok (.iload_n 1, 1) := by decide +kernel
theorem dX10_shift_21 : decode cX10_shift 21 = .ok (.iaload, 1) := by decide +kernel
theorem dX10_shift_22 : decode cX10_shift 22 = .ok (.iconst (-1), 1) := by decide +kernel
theorem dX10_shift_23 : decode cX10_shift 23 = .ok (.if_icmp .eq 13, 3) := by decide +kernel
theorem dX10_shift_26 : decode cX10_shift 26 = .ok (.aload_n 0, 1) := by decide +kernel
theorem dX10_shift_27 : decode cX10_shift 27 = .ok (.getfield 84, 3) := by decide +kernel
theorem dX10_shift_30 : decode cX10_shift 30 = .ok (.iload_n 3, 1) := by decide +kernel
theorem dX10_shift_31 : decode cX10_shift 31 = .ok (.iaload, 1) := by decide +kernel
theorem dX10_shift_32 : decode cX10_shift 32 = .ok (.iconst (-1), 1) := by decide +kernel
theorem dX10_shift_33 : decode cX10_shift 33 = .ok (.if_icmp .ne 6, 3) := by decide +kernel
theorem dX10_shift_36 : decode cX10_shift 36 = .ok (.bipush (-11), 2) := by decide +kernel
theorem dX10_shift_38 : decode cX10_shift 38 = .ok (.ireturn, 1) := by decide +kernel
theorem dX10_shift_39 : decode cX10_shift 39 = .ok (.aload_n 0, 1) := by decide +kernel
theorem dX10_shift_40 : decode cX10_shift 40 = .ok (.getfield 84, 3) := by decide +kernel
theorem dX10_shift_43 : decode cX10_shift 43 = .ok (.iload_n 1, 1) := by decide +kernel
theorem dX10_shift_44 : decode cX10_shift 44 = .ok (.iaload, 1) := by decide +kernel
theorem dX10_shift_45 : decode cX10_shift 45 = .ok (.aload_n 0, 1) := by decide +kernel
theorem dX10_shift_46 : decode cX10_shift 46 = .ok (.getfield 84, 3) := by decide +kernel
theorem dX10_shift_49 : decode cX10_shift 49 = .ok (.iload_n 3, 1) := by decide +kernel
theorem dX10_shift_50 : decode cX10_shift 50 = .ok (.iaload, 1) := by decide +kernel
theorem dX10_shift_51 : decode cX10_shift 51 = .ok (.if_icmp .eq 6, 3) := by decide +kernel
theorem dX10_shift_54 : decode cX10_shift 54 = .ok (.bipush (-12), 2) := by decide +kernel
theorem dX10_shift_56 : decode cX10_shift 56 = .ok (.ireturn, 1) := by decide +kernel
theorem dX10_shift_57 : decode cX10_shift 57 = .ok (.iload 5, 2) := by decide +kernel
theorem dX10_shift_59 : decode cX10_shift 59 = .ok (.ifCond .lt 39, 3) := by decide +kernel
theorem dX10_shift_62 : decode cX10_shift 62 = .ok (.iload_n 2, 1) := by decide +kernel
theorem dX10_shift_63 : decode cX10_shift 63 = .ok (.ifCond .lt 35, 3) := by decide +kernel
theorem dX10_shift_66 : decode cX10_shift 66 = .ok (.iload 4, 2) := by decide +kernel
theorem dX10_shift_68 : decode cX10_shift 68 = .ok (.ifCond .lt 30, 3) := by decide +kernel
theorem dX10_shift_71 : decode cX10_shift 71 = .ok (.iload 5, 2) := by decide +kernel
theorem dX10_shift_73 : decode cX10_shift 73 = .ok (.aload_n 0, 1) := by decide +kernel
theorem dX10_shift_74 : decode cX10_shift 74 = .ok (.getfield 87, 3) := by decide +kernel
theorem dX10_shift_77 : decode cX10_shift 77 = .ok (.iload_n 1, 1) := by decide +kernel
theorem dX10_shift_78 : decode cX10_shift 78 = .ok (.iaload, 1) := by decide +kernel
theorem dX10_shift_79 : decode cX10_shift 79 = .ok (.iload_n 2, 1) := by decide +kernel
theorem dX10_shift_80 : decode cX10_shift 80 = .ok (.isub, 1) := by decide +kernel
theorem dX10_shift_81 : decode cX10_shift 81 = .ok (.if_icmp .gt 17, 3) := by decide +kernel
theorem dX10_shift_84 : decode cX10_shift 84 = .ok (.iload 5, 2) := by decide +kernel
theorem dX10_shift_86 : decode cX10_shift 86 = .ok (.aload_n 0, 1) := by decide +kernel
theorem dX10_shift_87 : decode cX10_shift 87 = .ok (.getfield 87, 3) := by decide +kernel
theorem dX10_shift_90 : decode cX10_shift 90 = .ok (.iload_n 3, 1) := by decide +kernel
theorem dX10_shift_91 : decode cX10_shift 91 = .ok (.iaload, 1) := by decide +kernel
theorem dX10_shift_92 : decode cX10_shift 92 = .ok (.iload 4, 2) := by decide +kernel
theorem dX10_shift_94 : decode cX10_shift 94 = .ok (.isub, 1) := by decide +kernel
theorem dX10_shift_95 : decode cX10_shift 95 = .ok (.if_icmp .le 6, 3) := by decide +kernel
theorem dX10_shift_98 : decode cX10_shift 98 = .ok (.bipush (-13), 2) := by decide +kernel
theorem dX10_shift_100 : decode cX10_shift 100 = .ok (.ireturn, 1) := by decide +kernel
theorem dX10_shift_101 : decode cX10_shift 101 = .ok (.iconst 0, 1) := by decide +kernel
theorem dX10_shift_102 : decode cX10_shift 102 = .ok (.istore 6, 2) := by decide +kernel
theorem dX10_shift_104 : decode cX10_shift 104 = .ok (.iload 6, 2) := by decide +kernel
theorem dX10_shift_106 : decode cX10_shift 106 = .ok (.iload 5, 2) := by decide +kernel
theorem dX10_shift_108 : decode cX10_shift 108 = .ok (.if_icmp .ge 30, 3) := by decide +kernel
theorem dX10_shift_111 : decode cX10_shift 111 = .ok (.aload_n 0, 1) := by decide +kernel
theorem dX10_shift_112 : decode cX10_shift 112 = .ok (.getfield 94, 3) := by decide +kernel
theorem dX10_shift_115 : decode cX10_shift 115 = .ok (.iload 6, 2) := by decide +kernel
theorem dX10_shift_117 : decode cX10_shift 117 = .ok (.aload_n 0, 1) := by decide +kernel
theorem dX10_shift_118 : decode cX10_shift 118 = .ok (.getfield 90, 3) := by decide +kernel
theorem dX10_shift_121 : decode cX10_shift 121 = .ok (.bipush 60, 2) := by decide +kernel
theorem dX10_shift_123 : decode cX10_shift 123 = .ok (.iload_n 1, 1) := by decide +kernel
theorem dX10_shift_124 : decode cX10_shift 124 = .ok (.imul, 1) := by decide +kernel
theorem dX10_shift_125 : decode cX10_shift 125 = .ok (.iload_n 2, 1) := by decide +kernel
theorem dX10_shift_126 : decode cX10_shift 126 = .ok (.iadd, 1) := by decide +kernel
theorem dX10_shift_127 : decode cX10_shift 127 = .ok (.iload 6, 2) := by decide +kernel
theorem dX10_shift_129 : decode cX10_shift 129 = .ok (.iadd, 1) := by decide +kernel
theorem dX10_shift_130 : decode cX10_shift 130 = .ok (.laload, 1) := by decide +kernel
theorem dX10_shift_131 : decode cX10_shift 131 = .ok (.lastore, 1) := by decide +kernel
theorem dX10_shift_132 : decode cX10_shift 132 = .ok (.iinc 6 1, 3) := by decide +kernel
theorem dX10_shift_135 : decode cX10_shift 135 = .ok (.goto (-31), 3) := by decide +kernel
theorem dX10_shift_138 : decode cX10_shift 138 = .ok (.iconst 0, 1) := by decide +kernel
theorem dX10_shift_139 : decode cX10_shift 139 = .ok (.istore 6, 2) := by decide +kernel
theorem dX10_shift_141 : decode cX10_shift 141 = .ok (.iload 6, 2) := by decide +kernel
theorem dX10_shift_143 : decode cX10_shift 143 = .ok (.iload 5, 2) := by decide +kernel
theorem dX10_shift_145 : decode cX10_shift 145 = .ok (.if_icmp .ge 31, 3) := by decide +kernel
theorem dX10_shift_148 : decode cX10_shift 148 = .ok (.aload_n 0, 1) := by decide +kernel
theorem dX10_shift_149 : decode cX10_shift 149 = .ok (.getfield 90, 3) := by decide +kernel
theorem dX10_shift_152 : decode cX10_shift 152 = .ok (.bipush 60, 2) := by decide +kernel
theorem dX10_shift_154 : decode cX10_shift 154 = .ok (.iload_n 3, 1) := by decide +kernel
theorem dX10_shift_155 : decode cX10_shift 155 = .ok (.imul, 1) := by decide +kernel
theorem dX10_shift_156 : decode cX10_shift 156 = .ok (.iload 4, 2) := by decide +kernel
theorem dX10_shift_158 : decode cX10_shift 158 = .ok (.iadd, 1) := by decide +kernel
theorem dX10_shift_159 : decode cX10_shift 159 = .ok (.iload 6, 2) := by decide +kernel
