theorem dX6_narrow_54 : decode cX6_narrow 54 = .ok (.lcmp, 1) := by decide +kernel
theorem dX6_narrow_55 : decode cX6_narrow 55 = .ok (.ifCond .eq 7, 3) := by decide +kernel
theorem dX6_narrow_58 : decode cX6_narrow 58 = .ok (.lconst 1, 1) := by decide +kernel
theorem dX6_narrow_59 : decode cX6_narrow 59 = .ok (.goto 4, 3) := by decide +kernel
theorem dX6_narrow_62 : decode cX6_narrow 62 = .ok (.lconst 0, 1) := by decide +kernel
theorem dX6_narrow_63 : decode cX6_narrow 63 = .ok (.lreturn, 1) := by decide +kernel
theorem dX6_take_0 : decode cX6_take 0 = .ok (.aload_n 0, 1) := by decide +kernel
theorem dX6_take_1 : decode cX6_take 1 = .ok (.iload_n 1, 1) := by decide +kernel
theorem dX6_take_2 : decode cX6_take 2 = .ok (.i2l, 1) := by decide +kernel
theorem dX6_take_3 : decode cX6_take 3 = .ok (.iload 4, 2) := by decide +kernel
theorem dX6_take_5 : decode cX6_take 5 = .ok (.i2l, 1) := by decide +kernel
theorem dX6_take_6 : decode cX6_take 6 = .ok (.invokevirtual 35, 3) := by decide +kernel
theorem dX6_take_9 : decode cX6_take 9 = .ok (.ifCond .eq 30, 3) := by decide +kernel
theorem dX6_take_12 : decode cX6_take 12 = .ok (.aload_n 2, 1) := by decide +kernel
theorem dX6_take_13 : decode cX6_take 13 = .ok (.iload_n 3, 1) := by decide +kernel
theorem dX6_take_14 : decode cX6_take 14 = .ok (.i2l, 1) := by decide +kernel
theorem dX6_take_15 : decode cX6_take 15 = .ok (.iload 4, 2) := by decide +kernel
theorem dX6_take_17 : decode cX6_take 17 = .ok (.i2l, 1) := by decide +kernel
theorem dX6_take_18 : decode cX6_take 18 = .ok (.invokevirtual 35, 3) := by decide +kernel
theorem dX6_take_21 : decode cX6_take 21 = .ok (.ifCond .eq 18, 3) := by decide +kernel
theorem dX6_take_24 : decode cX6_take 24 = .ok (.aload_n 2, 1) := by decide +kernel
theorem dX6_take_25 : decode cX6_take 25 = .ok (.getfield 9, 3) := by decide +kernel
theorem dX6_take_28 : decode cX6_take 28 = .ok (.iload_n 3, 1) := by decide +kernel
theorem dX6_take_29 : decode cX6_take 29 = .ok (.aload_n 0, 1) := by decide +kernel
theorem dX6_take_30 : decode cX6_take 30 = .ok (.getfield 9, 3) := by decide +kernel
theorem dX6_take_33 : decode cX6_take 33 = .ok (.iload_n 1, 1) := by decide +kernel
theorem dX6_take_34 : decode cX6_take 34 = .ok (.iload 4, 2) := by decide +kernel
theorem dX6_take_36 : decode cX6_take 36 = .ok (.invokestatic 39, 3) := by decide +kernel
theorem dX6_take_39 : decode cX6_take 39 = .ok (.return_, 1) := by decide +kernel
theorem dX7_init_0 : decode cX7_init 0 = .ok (.aload_n 0, 1) := by decide +kernel
theorem dX7_init_1 : decode cX7_init 1 = .ok (.invokespecial 1, 3) := by decide +kernel
theorem dX7_init_4 : decode cX7_init 4 = .ok (.aload_n 0, 1) := by decide +kernel
theorem dX7_init_5 : decode cX7_init 5 = .ok (.bipush 100, 2) := by decide +kernel
theorem dX7_init_7 : decode cX7_init 7 = .ok (.newarray .byte, 2) := by decide +kernel
theorem dX7_init_9 : decode cX7_init 9 = .ok (.putfield 9, 3) := by decide +kernel
theorem dX7_init_12 : decode cX7_init 12 = .ok (.aload_n 0, 1) := by decide +kernel
theorem dX7_init_13 : decode cX7_init 13 = .ok (.iconst 0, 1) := by decide +kernel
theorem dX7_init_14 : decode cX7_init 14 = .ok (.putfield 13, 3) := by decide +kernel
theorem dX7_init_17 : decode cX7_init 17 = .ok (.return_, 1) := by decide +kernel
theorem dX7_size_0 : decode cX7_size 0 = .ok (.aload_n 0, 1) := by decide +kernel
theorem dX7_size_1 : decode cX7_size 1 = .ok (.getfield 13, 3) := by decide +kernel
theorem dX7_size_4 : decode cX7_size 4 = .ok (.ireturn, 1) := by decide +kernel
theorem dX7_isFull_0 : decode cX7_isFull 0 = .ok (.aload_n 0, 1) := by decide +kernel
theorem dX7_isFull_1 : decode cX7_isFull 1 = .ok (.getfield 13, 3) := by decide +kernel
theorem dX7_isFull_4 : decode cX7_isFull 4 = .ok (.bipush 100, 2) := by decide +kernel
theorem dX7_isFull_6 : decode cX7_isFull 6 = .ok (.if_icmp .lt 7, 3) := by decide +kernel
theorem dX7_isFull_9 : decode cX7_isFull 9 = .ok (.iconst 1, 1) := by decide +kernel
theorem dX7_isFull_10 : decode cX7_isFull 10 = .ok (.goto 4, 3) := by decide +kernel
theorem dX7_isFull_13 : decode cX7_isFull 13 = .ok (.iconst 0, 1) := by decide +kernel
theorem dX7_isFull_14 : decode cX7_isFull 14 = .ok (.ireturn, 1) := by decide +kernel
theorem dX7_add_0 : decode cX7_add 0 = .ok (.aload_n 0, 1) := by decide +kernel
theorem dX7_add_1 : decode cX7_add 1 = .ok (.getfield 13, 3) := by decide +kernel
theorem dX7_add_4 : decode cX7_add 4 = .ok (.bipush 100, 2) := by decide +kernel
theorem dX7_add_6 : decode cX7_add 6 = .ok (.if_icmp .ge 24, 3) := by decide +kernel
theorem dX7_add_9 : decode cX7_add 9 = .ok (.aload_n 0, 1) := by decide +kernel
theorem dX7_add_10 : decode cX7_add 10 = .ok (.getfield 9, 3) := by decide +kernel
theorem dX7_add_13 : decode cX7_add 13 = .ok (.aload_n 0, 1) := by decide +kernel
theorem dX7_add_14 : decode cX7_add 14 = .ok (.getfield 13, 3) := by decide +kernel
theorem dX7_add_17 : decode cX7_add 17 = .ok (.iload_n 1, 1) := by decide +kernel
theorem dX7_add_18 : decode cX7_add 18 = .ok (.i2b, 1) := by decide +kernel
theorem dX7_add_19 : decode cX7_add 19 = .ok (.bastore, 1) := by decide +kernel
theorem dX7_add_20 : decode cX7_add 20 = .ok (.aload_n 0, 1) := by decide +kernel
theorem dX7_add_21 : decode cX7_add 21 = .ok (.dup, 1) := by decide +kernel
theorem dX7_add_22 : decode cX7_add 22 = .ok (.getfield 13, 3) := by decide +kernel
theorem dX7_add_25 : decode cX7_add 25 = .ok (.iconst 1, 1) := by decide +kernel
theorem dX7_add_26 : decode cX7_add 26 = .ok (.iadd, 1) := by decide +kernel
theorem dX7_add_27 : decode cX7_add 27 = .ok (.putfield 13, 3) := by decide +kernel
theorem dX7_add_30 : decode cX7_add 30 = .ok (.return_, 1) := by decide +kernel
theorem dX7_empty_0 : decode cX7_empty 0 = .ok (.aload_n 0, 1) := by decide +kernel
theorem dX7_empty_1 : decode cX7_empty 1 = .ok (.iconst 0, 1) := by decide +kernel
theorem dX7_empty_2 : decode cX7_empty 2 = .ok (.putfield 13, 3) := by decide +kernel
theorem dX7_empty_5 : decode cX7_empty 5 = .ok (.return_, 1) := by decide +kernel
theorem dX7_signAt_0 : decode cX7_signAt 0 = .ok (.iload_n 1, 1) := by decide +kernel
theorem dX7_signAt_1 : decode cX7_signAt 1 = .ok (.ifCond .lt 20, 3) := by decide +kernel
theorem dX7_signAt_4 : decode cX7_signAt 4 = .ok (.iload_n 1, 1) := by decide +kernel
theorem dX7_signAt_5 : decode cX7_signAt 5 = .ok (.aload_n 0, 1) := by decide +kernel
theorem dX7_signAt_6 : decode cX7_signAt 6 = .ok (.getfield 13, 3) := by decide +kernel
theorem dX7_signAt_9 : decode cX7_signAt 9 = .ok (.if_icmp .ge 12, 3) := by decide +kernel
theorem dX7_signAt_12 : decode cX7_signAt 12 = .ok (.aload_n 0, 1) := by decide +kernel
theorem dX7_signAt_13 : decode cX7_signAt 13 = .ok (.getfield 9, 3) := by decide +kernel
theorem dX7_signAt_16 : decode cX7_signAt 16 = .ok (.iload_n 1, 1) := by decide +kernel
theorem dX7_signAt_17 : decode cX7_signAt 17 = .ok (.baload, 1) := by decide +kernel
theorem dX7_signAt_18 : decode cX7_signAt 18 = .ok (.goto 4, 3) := by decide +kernel
theorem dX7_signAt_21 : decode cX7_signAt 21 = .ok (.iconst (-1), 1) := by decide +kernel
theorem dX7_signAt_22 : decode cX7_signAt 22 = .ok (.ireturn, 1) := by decide +kernel
theorem dX7_digitAt_0 : decode cX7_digitAt 0 = .ok (.aload_n 0, 1) := by decide +kernel
theorem dX7_digitAt_1 : decode cX7_digitAt 1 = .ok (.iload_n 1, 1) := by decide +kernel
theorem dX7_digitAt_2 : decode cX7_digitAt 2 = .ok (.invokevirtual 17, 3) := by decide +kernel
theorem dX7_digitAt_5 : decode cX7_digitAt 5 = .ok (.bipush 48, 2) := by decide +kernel
theorem dX7_digitAt_7 : decode cX7_digitAt 7 = .ok (.isub, 1) := by decide +kernel
theorem dX7_digitAt_8 : decode cX7_digitAt 8 = .ok (.ireturn, 1) := by decide +kernel
theorem dX7_isDigit_0 : decode cX7_isDigit 0 = .ok (.aload_n 0, 1) := by decide +kernel
theorem dX7_isDigit_1 : decode cX7_isDigit 1 = .ok (.iload_n 1, 1) := by decide +kernel
theorem dX7_isDigit_2 : decode cX7_isDigit 2 = .ok (.invokevirtual 17, 3) := by decide +kernel
theorem dX7_isDigit_5 : decode cX7_isDigit 5 = .ok (.bipush 48, 2) := by decide +kernel
theorem dX7_isDigit_7 : decode cX7_isDigit 7 = .ok (.if_icmp .lt 17, 3) := by decide +kernel
theorem dX7_isDigit_10 : decode cX7_isDigit 10 = .ok (.aload_n 0, 1) := by decide +kernel
theorem dX7_isDigit_11 : decode cX7_isDigit 11 = .ok (.iload_n 1, 1) := by decide +kernel
theorem dX7_isDigit_12 : decode cX7_isDigit 12 = .ok (.invokevirtual 17, 3) := by decide +kernel
theorem dX7_isDigit_15 : decode cX7_isDigit 15 = .ok (.bipush 57, 2) := by decide +kernel
theorem dX7_isDigit_17 : decode cX7_isDigit 17 = .ok (.if_icmp .gt 7, 3) := by decide +kernel
theorem dX7_isDigit_20 : decode cX7_isDigit 20 = .ok (.iconst 1, 1) := by decide +kernel
theorem dX7_isDigit_21 : decode cX7_isDigit 21 = .ok (.goto 4, 3) := by decide +kernel
theorem dX7_isDigit_24 : decode cX7_isDigit 24 = .ok (.iconst 0, 1) := by decide +kernel
theorem dX7_isDigit_25 : decode cX7_isDigit 25 = .ok (.ireturn, 1) := by decide +kernel
theorem dX7_clauseLength_0 : decode cX7_clauseLength 0 = .ok (.iload_n 0, 1) := by decide +kernel
theorem dX7_clauseLength_1 : decode cX7_clauseLength 1 = .ok (.lookupswitch 67 #[(43, 59), (45, 61), (99, 63), (109, 63), (117, 65), (122, 63)], 59) := by decide +kernel
theorem dX7_clauseLength_60 : decode cX7_clauseLength 60 = .ok (.iconst 4, 1) := by decide +kernel
theorem dX7_clauseLength_61 : decode cX7_clauseLength 61 = .ok (.ireturn, 1) := by decide +kernel
theorem dX7_clauseLength_62 : decode cX7_clauseLength 62 = .ok (.iconst 3, 1) := by decide +kernel
theorem dX7_clauseLength_63 : decode cX7_clauseLength 63 = .ok (.ireturn, 1) := by decide +kernel
theorem dX7_clauseLength_64 : decode cX7_clauseLength 64 = .ok (.iconst 2, 1) := by decide +kernel
theorem dX7_clauseLength_65 : decode cX7_clauseLength 65 = .ok (.ireturn, 1) := by decide +kernel
theorem dX7_clauseLength_66 : decode cX7_clauseLength 66 = .ok (.iconst 1, 1) := by decide +kernel
theorem dX7_clauseLength_67 : decode cX7_clauseLength 67 = .ok (.ireturn, 1) := by decide +kernel
theorem dX7_clauseLength_68 : decode cX7_clauseLength 68 = .ok (.iconst 0, 1) := by decide +kernel
theorem dX7_clauseLength_69 : decode cX7_clauseLength 69 = .ok (.ireturn, 1) := by decide +kernel
theorem dX7_faultPlace_0 : decode cX7_faultPlace 0 = .ok (.iconst 0, 1) := by decide +kernel
theorem dX7_faultPlace_1 : decode cX7_faultPlace 1 = .ok (.istore_n 1, 1) := by decide +kernel
theorem dX7_faultPlace_2 : decode cX7_faultPlace 2 = .ok (.iconst 1, 1) := by decide +kernel
theorem dX7_faultPlace_3 : decode cX7_faultPlace 3 = .ok (.istore_n 2, 1) := by decide +kernel
theorem dX7_faultPlace_4 : decode cX7_faultPlace 4 = .ok (.iload_n 2, 1) := by decide +kernel
theorem dX7_faultPlace_5 : decode cX7_faultPlace 5 = .ok (.bipush 12, 2) := by decide +kernel
theorem dX7_faultPlace_7 : decode cX7_faultPlace 7 = .ok (.if_icmp .gt 96, 3) := by decide +kernel
theorem dX7_faultPlace_10 : decode cX7_faultPlace 10 = .ok (.aload_n 0, 1) := by decide +kernel
theorem dX7_faultPlace_11 : decode cX7_faultPlace 11 = .ok (.iload_n 1, 1) := by decide +kernel
theorem dX7_faultPlace_12 : decode cX7_faultPlace 12 = .ok (.invokevirtual 17, 3) := by decide +kernel
theorem dX7_faultPlace_15 : decode cX7_faultPlace 15 = .ok (.invokestatic 21, 3) := by decide +kernel
theorem dX7_faultPlace_18 : decode cX7_faultPlace 18 = .ok (.istore_n 3, 1) := by decide +kernel
theorem dX7_faultPlace_19 : decode cX7_faultPlace 19 = .ok (.iload_n 3, 1) := by decide +kernel
theorem dX7_faultPlace_20 : decode cX7_faultPlace 20 = .ok (.ifCond .ne 5, 3) := by decide +kernel
theorem dX7_faultPlace_23 : decode cX7_faultPlace 23 = .ok (.iload_n 1, 1) := by decide +kernel
theorem dX7_faultPlace_24 : decode cX7_faultPlace 24 = .ok (.ireturn, 1) := by decide +kernel
theorem dX7_faultPlace_25 : decode cX7_faultPlace 25 = .ok (.iconst 1, 1) := by decide +kernel
theorem dX7_faultPlace_26 : decode cX7_faultPlace 26 = .ok (.istore 4, 2) := by decide +kernel
theorem dX7_faultPlace_28 : decode cX7_faultPlace 28 = .ok (.iload 4, 2) := by decide +kernel
theorem dX7_faultPlace_30 : decode cX7_faultPlace 30 = .ok (.iload_n 3, 1) := by decide +kernel
theorem dX7_faultPlace_31 : decode cX7_faultPlace 31 = .ok (.if_icmp .ge 25, 3) := by decide +kernel
theorem dX7_faultPlace_34 : decode cX7_faultPlace 34 = .ok (.aload_n 0, 1) := by decide +kernel
theorem dX7_faultPlace_35 : decode cX7_faultPlace 35 = .ok (.iload_n 1, 1) := by decide +kernel
theorem dX7_faultPlace_36 : decode cX7_faultPlace 36 = .ok (.iload 4, 2) := by decide +kernel
theorem dX7_faultPlace_38 : decode cX7_faultPlace 38 = .ok (.iadd, 1) := by decide +kernel
theorem dX7_faultPlace_39 : decode cX7_faultPlace 39 = .ok (.invokevirtual 24, 3) := by decide +kernel
theorem dX7_faultPlace_42 : decode cX7_faultPlace 42 = .ok (.ifCond .ne 8, 3) := by decide +kernel
theorem dX7_faultPlace_45 : decode cX7_faultPlace 45 = .ok (.iload_n 1, 1) := by decide +kernel
theorem dX7_faultPlace_46 : decode cX7_faultPlace 46 = .ok (.iload 4, 2) := by decide +kernel
theorem dX7_faultPlace_48 : decode cX7_faultPlace 48 = .ok (.iadd, 1) := by decide +kernel
theorem dX7_faultPlace_49 : decode cX7_faultPlace 49 = .ok (.ireturn, 1) := by decide +kernel
theorem dX7_faultPlace_50 : decode cX7_faultPlace 50 = .ok (.iinc 4 1, 3) := by decide +kernel
theorem dX7_faultPlace_53 : decode cX7_faultPlace 53 = .ok (.goto (-25), 3) := by decide +kernel
theorem dX7_faultPlace_56 : decode cX7_faultPlace 56 = .ok (.iload_n 1, 1) := by decide +kernel
theorem dX7_faultPlace_57 : decode cX7_faultPlace 57 = .ok (.iload_n 3, 1) := by decide +kernel
theorem dX7_faultPlace_58 : decode cX7_faultPlace 58 = .ok (.iadd, 1) := by decide +kernel
theorem dX7_faultPlace_59 : decode cX7_faultPlace 59 = .ok (.istore 4, 2) := by decide +kernel
theorem dX7_faultPlace_61 : decode cX7_faultPlace 61 = .ok (.iload 4, 2) := by decide +kernel
theorem dX7_faultPlace_63 : decode cX7_faultPlace 63 = .ok (.aload_n 0, 1) := by decide +kernel
theorem dX7_faultPlace_64 : decode cX7_faultPlace 64 = .ok (.getfield 13, 3) := by decide +kernel
theorem dX7_faultPlace_67 : decode cX7_faultPlace 67 = .ok (.if_icmp .ne 5, 3) := by decide +kernel
theorem dX7_faultPlace_70 : decode cX7_faultPlace 70 = .ok (.iconst (-1), 1) := by decide +kernel
theorem dX7_faultPlace_71 : decode cX7_faultPlace 71 = .ok (.ireturn, 1) := by decide +kernel
theorem dX7_faultPlace_72 : decode cX7_faultPlace 72 = .ok (.aload_n 0, 1) := by decide +kernel
theorem dX7_faultPlace_73 : decode cX7_faultPlace 73 = .ok (.iload 4, 2) := by decide +kernel
theorem dX7_faultPlace_75 : decode cX7_faultPlace 75 = .ok (.invokevirtual 17, 3) := by decide +kernel
theorem dX7_faultPlace_78 : decode cX7_faultPlace 78 = .ok (.bipush 59, 2) := by decide +kernel
theorem dX7_faultPlace_80 : decode cX7_faultPlace 80 = .ok (.if_icmp .ne 9, 3) := by decide +kernel
theorem dX7_faultPlace_83 : decode cX7_faultPlace 83 = .ok (.iload_n 2, 1) := by decide +kernel
theorem dX7_faultPlace_84 : decode cX7_faultPlace 84 = .ok (.bipush 12, 2) := by decide +kernel
theorem dX7_faultPlace_86 : decode cX7_faultPlace 86 = .ok (.if_icmp .ne 6, 3) := by decide +kernel
theorem dX7_faultPlace_89 : decode cX7_faultPlace 89 = .ok (.iload 4, 2) := by decide +kernel
theorem dX7_faultPlace_91 : decode cX7_faultPlace 91 = .ok (.ireturn, 1) := by decide +kernel
theorem dX7_faultPlace_92 : decode cX7_faultPlace 92 = .ok (.iload 4, 2) := by decide +kernel
theorem dX7_faultPlace_94 : decode cX7_faultPlace 94 = .ok (.iconst 1, 1) := by decide +kernel
theorem dX7_faultPlace_95 : decode cX7_faultPlace 95 = .ok (.iadd, 1) := by decide +kernel
theorem dX7_faultPlace_96 : decode cX7_faultPlace 96 = .ok (.istore_n 1, 1) := by decide +kernel
theorem dX7_faultPlace_97 : decode cX7_faultPlace 97 = .ok (.iinc 2 1, 3) := by decide +kernel
theorem dX7_faultPlace_100 : decode cX7_faultPlace 100 = .ok (.goto (-96), 3) := by decide +kernel
theorem dX7_faultPlace_103 : decode cX7_faultPlace 103 = .ok (.iload_n 1, 1) := by decide +kernel
theorem dX7_faultPlace_104 : decode cX7_faultPlace 104 = .ok (.ireturn, 1) := by decide +kernel
theorem dX8_init_0 : decode cX8_init 0 = .ok (.aload_n 0, 1) := by decide +kernel
theorem dX8_init_1 : decode cX8_init 1 = .ok (.invokespecial 1, 3) := by decide +kernel
theorem dX8_init_4 : decode cX8_init 4 = .ok (.aload_n 0, 1) := by decide +kernel
theorem dX8_init_5 : decode cX8_init 5 = .ok (.new 7, 3) := by decide +kernel
theorem dX8_init_8 : decode cX8_init 8 = .ok (.dup, 1) := by decide +kernel
theorem dX8_init_9 : decode cX8_init 9 = .ok (.invokespecial 9, 3) := by decide +kernel
theorem dX8_init_12 : decode cX8_init 12 = .ok (.putfield 10, 3) := by decide +kernel
theorem dX8_init_15 : decode cX8_init 15 = .ok (.aload_n 0, 1) := by decide +kernel
theorem dX8_init_16 : decode cX8_init 16 = .ok (.new 7, 3) := by decide +kernel
theorem dX8_init_19 : decode cX8_init 19 = .ok (.dup, 1) := by decide +kernel
theorem dX8_init_20 : decode cX8_init 20 = .ok (.invokespecial 9, 3) := by decide +kernel
theorem dX8_init_23 : decode cX8_init 23 = .ok (.putfield 16, 3) := by decide +kernel
theorem dX8_init_26 : decode cX8_init 26 = .ok (.aload_n 0, 1) := by decide +kernel
theorem dX8_init_27 : decode cX8_init 27 = .ok (.new 19, 3) := by decide +kernel
theorem dX8_init_30 : decode cX8_init 30 = .ok (.dup, 1) := by decide +kernel
theorem dX8_init_31 : decode cX8_init 31 = .ok (.iconst 4, 1) := by decide +kernel
theorem dX8_init_32 : decode cX8_init 32 = .ok (.invokespecial 21, 3) := by decide +kernel
theorem dX8_init_35 : decode cX8_init 35 = .ok (.putfield 24, 3) := by decide +kernel
theorem dX8_init_38 : decode cX8_init 38 = .ok (.aload_n 0, 1) := by decide +kernel
theorem dX8_init_39 : decode cX8_init 39 = .ok (.new 19, 3) := by decide +kernel
theorem dX8_init_42 : decode cX8_init 42 = .ok (.dup, 1) := by decide +kernel
theorem dX8_init_43 : decode cX8_init 43 = .ok (.bipush 8, 2) := by decide +kernel
theorem dX8_init_45 : decode cX8_init 45 = .ok (.invokespecial 21, 3) := by decide +kernel
theorem dX8_init_48 : decode cX8_init 48 = .ok (.putfield 28, 3) := by decide +kernel
theorem dX8_init_51 : decode cX8_init 51 = .ok (.aload_n 0, 1) := by decide +kernel
theorem dX8_init_52 : decode cX8_init 52 = .ok (.new 19, 3) := by decide +kernel
theorem dX8_init_55 : decode cX8_init 55 = .ok (.dup, 1) := by decide +kernel
theorem dX8_init_56 : decode cX8_init 56 = .ok (.bipush 8, 2) := by decide +kernel
theorem dX8_init_58 : decode cX8_init 58 = .ok (.invokespecial 21, 3) := by decide +kernel
theorem dX8_init_61 : decode cX8_init 61 = .ok (.putfield 31, 3) := by decide +kernel
theorem dX8_init_64 : decode cX8_init 64 = .ok (.return_, 1) := by decide +kernel
theorem dX8_ideal_0 : decode cX8_ideal 0 = .ok (.iload_n 1, 1) := by decide +kernel
theorem dX8_ideal_1 : decode cX8_ideal 1 = .ok (.ifCond .ne 10, 3) := by decide +kernel
theorem dX8_ideal_4 : decode cX8_ideal 4 = .ok (.aload_n 0, 1) := by decide +kernel
theorem dX8_ideal_5 : decode cX8_ideal 5 = .ok (.getfield 10, 3) := by decide +kernel
theorem dX8_ideal_8 : decode cX8_ideal 8 = .ok (.goto 7, 3) := by decide +kernel
theorem dX8_ideal_11 : decode cX8_ideal 11 = .ok (.aload_n 0, 1) := by decide +kernel
theorem dX8_ideal_12 : decode cX8_ideal 12 = .ok (.getfield 16, 3) := by decide +kernel
theorem dX8_ideal_15 : decode cX8_ideal 15 = .ok (.areturn, 1) := by decide +kernel
theorem dX8_countGenerators_0 : decode cX8_countGenerators 0 = .ok (.aload_n 0, 1) := by decide +kernel
theorem dX8_countGenerators_1 : decode cX8_countGenerators 1 = .ok (.getfield 10, 3) := by decide +kernel
theorem dX8_countGenerators_4 : decode cX8_countGenerators 4 = .ok (.invokevirtual 34, 3) := by decide +kernel
theorem dX8_countGenerators_7 : decode cX8_countGenerators 7 = .ok (.aload_n 0, 1) := by decide +kernel
theorem dX8_countGenerators_8 : decode cX8_countGenerators 8 = .ok (.getfield 16, 3) := by decide +kernel
theorem dX8_countGenerators_11 : decode cX8_countGenerators 11 = .ok (.invokevirtual 34, 3) := by decide +kernel
theorem dX8_countGenerators_14 : decode cX8_countGenerators 14 = .ok (.iadd, 1) := by decide +kernel
theorem dX8_countGenerators_15 : decode cX8_countGenerators 15 = .ok (.ireturn, 1) := by decide +kernel
theorem dX8_copy_0 : decode cX8_copy 0 = .ok (.aload_n 0, 1) := by decide +kernel
theorem dX8_copy_1 : decode cX8_copy 1 = .ok (.getfield 10, 3) := by decide +kernel
theorem dX8_copy_4 : decode cX8_copy 4 = .ok (.aload_n 1, 1) := by decide +kernel
theorem dX8_copy_5 : decode cX8_copy 5 = .ok (.getfield 10, 3) := by decide +kernel
theorem dX8_copy_8 : decode cX8_copy 8 = .ok (.invokevirtual 38, 3) := by decide +kernel
theorem dX8_copy_11 : decode cX8_copy 11 = .ok (.aload_n 0, 1) := by decide +kernel
theorem dX8_copy_12 : decode cX8_copy 12 = .ok (.getfield 16, 3) := by decide +kernel
theorem dX8_copy_15 : decode cX8_copy 15 = .ok (.aload_n 1, 1) := by decide +kernel
theorem dX8_copy_16 : decode cX8_copy 16 = .ok (.getfield 16, 3) := by decide +kernel
theorem dX8_copy_19 : decode cX8_copy 19 = .ok (.invokevirtual 38, 3) := by decide +kernel
theorem dX8_copy_22 : decode cX8_copy 22 = .ok (.aload_n 0, 1) := by decide +kernel
theorem dX8_copy_23 : decode cX8_copy 23 = .ok (.getfield 24, 3) := by decide +kernel
theorem dX8_copy_26 : decode cX8_copy 26 = .ok (.aload_n 1, 1) := by decide +kernel
theorem dX8_copy_27 : decode cX8_copy 27 = .ok (.getfield 24, 3) := by decide +kernel
theorem dX8_copy_30 : decode cX8_copy 30 = .ok (.invokevirtual 42, 3) := by decide +kernel
theorem dX8_copy_33 : decode cX8_copy 33 = .ok (.aload_n 0, 1) := by decide +kernel
theorem dX8_copy_34 : decode cX8_copy 34 = .ok (.getfield 28, 3) := by decide +kernel
theorem dX8_copy_37 : decode cX8_copy 37 = .ok (.aload_n 1, 1) := by decide +kernel
theorem dX8_copy_38 : decode cX8_copy 38 = .ok (.getfield 28, 3) := by decide +kernel
theorem dX8_copy_41 : decode cX8_copy 41 = .ok (.invokevirtual 42, 3) := by decide +kernel
theorem dX8_copy_44 : decode cX8_copy 44 = .ok (.aload_n 0, 1) := by decide +kernel
theorem dX8_copy_45 : decode cX8_copy 45 = .ok (.getfield 31, 3) := by decide +kernel
theorem dX8_copy_48 : decode cX8_copy 48 = .ok (.aload_n 1, 1) := by decide +kernel
theorem dX8_copy_49 : decode cX8_copy 49 = .ok (.getfield 31, 3) := by decide +kernel
theorem dX8_copy_52 : decode cX8_copy 52 = .ok (.invokevirtual 42, 3) := by decide +kernel
theorem dX8_copy_55 : decode cX8_copy 55 = .ok (.return_, 1) := by decide +kernel
theorem dX9_init_0 : decode cX9_init 0 = .ok (.aload_n 0, 1) := by decide +kernel
theorem dX9_init_1 : decode cX9_init 1 = .ok (.invokespecial 3, 3) := by decide +kernel
theorem dX9_init_4 : decode cX9_init 4 = .ok (.aload_n 0, 1) := by decide +kernel
theorem dX9_init_5 : decode cX9_init 5 = .ok (.new 9, 3) := by decide +kernel
theorem dX9_init_8 : decode cX9_init 8 = .ok (.dup, 1) := by decide +kernel
theorem dX9_init_9 : decode cX9_init 9 = .ok (.invokespecial 11, 3) := by decide +kernel
theorem dX9_init_12 : decode cX9_init 12 = .ok (.putfield 12, 3) := by decide +kernel
theorem dX9_init_15 : decode cX9_init 15 = .ok (.aload_n 0, 1) := by decide +kernel
theorem dX9_init_16 : decode cX9_init 16 = .ok (.new 9, 3) := by decide +kernel
theorem dX9_init_19 : decode cX9_init 19 = .ok (.dup, 1) := by decide +kernel
theorem dX9_init_20 : decode cX9_init 20 = .ok (.invokespecial 11, 3) := by decide +kernel
theorem dX9_init_23 : decode cX9_init 23 = .ok (.putfield 18, 3) := by decide +kernel
theorem dX9_init_26 : decode cX9_init 26 = .ok (.aload_n 0, 1) := by decide +kernel
theorem dX9_init_27 : decode cX9_init 27 = .ok (.iconst 0, 1) := by decide +kernel
theorem dX9_init_28 : decode cX9_init 28 = .ok (.putfield 21, 3) := by decide +kernel
theorem dX9_init_31 : decode cX9_init 31 = .ok (.aload_n 0, 1) := by decide +kernel
theorem dX9_init_32 : decode cX9_init 32 = .ok (.new 25, 3) := by decide +kernel
theorem dX9_init_35 : decode cX9_init 35 = .ok (.dup, 1) := by decide +kernel
theorem dX9_init_36 : decode cX9_init 36 = .ok (.invokespecial 27, 3) := by decide +kernel
theorem dX9_init_39 : decode cX9_init 39 = .ok (.putfield 28, 3) := by decide +kernel
theorem dX9_init_42 : decode cX9_init 42 = .ok (.aload_n 0, 1) := by decide +kernel
theorem dX9_init_43 : decode cX9_init 43 = .ok (.new 32, 3) := by decide +kernel
theorem dX9_init_46 : decode cX9_init 46 = .ok (.dup, 1) := by decide +kernel
theorem dX9_init_47 : decode cX9_init 47 = .ok (.invokespecial 34, 3) := by decide +kernel
theorem dX9_init_50 : decode cX9_init 50 = .ok (.putfield 35, 3) := by decide +kernel
theorem dX9_init_53 : decode cX9_init 53 = .ok (.aload_n 0, 1) := by decide +kernel
theorem dX9_init_54 : decode cX9_init 54 = .ok (.bipush 6, 2) := by decide +kernel
theorem dX9_init_56 : decode cX9_init 56 = .ok (.anewarray 39, 3) := by decide +kernel
theorem dX9_init_59 : decode cX9_init 59 = .ok (.putfield 41, 3) := by decide +kernel
theorem dX9_init_62 : decode cX9_init 62 = .ok (.iconst 0, 1) := by decide +kernel
theorem dX9_init_63 : decode cX9_init 63 = .ok (.istore_n 1, 1) := by decide +kernel
theorem dX9_init_64 : decode cX9_init 64 = .ok (.iload_n 1, 1) := by decide +kernel
theorem dX9_init_65 : decode cX9_init 65 = .ok (.bipush 6, 2) := by decide +kernel
theorem dX9_init_67 : decode cX9_init 67 = .ok (.if_icmp .ge 22, 3) := by decide +kernel
theorem dX9_init_70 : decode cX9_init 70 = .ok (.aload_n 0, 1) := by decide +kernel
theorem dX9_init_71 : decode cX9_init 71 = .ok (.getfield 41, 3) := by decide +kernel
theorem dX9_init_74 : decode cX9_init 74 = .ok (.iload_n 1, 1) := by decide +kernel
theorem dX9_init_75 : decode cX9_init 75 = .ok (.new 39, 3) := by decide +kernel
theorem dX9_init_78 : decode cX9_init 78 = .ok (.dup, 1) := by decide +kernel
theorem dX9_init_79 : decode cX9_init 79 = .ok (.invokespecial 45, 3) := by decide +kernel
theorem dX9_init_82 : decode cX9_init 82 = .ok (.aastore, 1) := by decide +kernel
theorem dX9_init_83 : decode cX9_init 83 = .ok (.iinc 1 1, 3) := by decide +kernel
theorem dX9_init_86 : decode cX9_init 86 = .ok (.goto (-22), 3) := by decide +kernel
theorem dX9_init_89 : decode cX9_init 89 = .ok (.aload_n 0, 1) := by decide +kernel
theorem dX9_init_90 : decode cX9_init 90 = .ok (.new 46, 3) := by decide +kernel
theorem dX9_init_93 : decode cX9_init 93 = .ok (.dup, 1) := by decide +kernel
theorem dX9_init_94 : decode cX9_init 94 = .ok (.invokespecial 48, 3) := by decide +kernel
theorem dX9_init_97 : decode cX9_init 97 = .ok (.putfield 49, 3) := by decide +kernel
theorem dX9_init_100 : decode cX9_init 100 = .ok (.aload_n 0, 1) := by decide +kernel
theorem dX9_init_101 : decode cX9_init 101 = .ok (.new 53, 3) := by decide +kernel
theorem dX9_init_104 : decode cX9_init 104 = .ok (.dup, 1) := by decide +kernel
theorem dX9_init_105 : decode cX9_init 105 = .ok (.invokespecial 55, 3) := by decide +kernel
theorem dX9_init_108 : decode cX9_init 108 = .ok (.putfield 56, 3) := by decide +kernel
theorem dX9_init_111 : decode cX9_init 111 = .ok (.aload_n 0, 1) := by decide +kernel
theorem dX9_init_112 : decode cX9_init 112 = .ok (.new 60, 3) := by decide +kernel
theorem dX9_init_115 : decode cX9_init 115 = .ok (.dup, 1) := by decide +kernel
theorem dX9_init_116 : decode cX9_init 116 = .ok (.invokespecial 62, 3) := by decide +kernel
theorem dX9_init_119 : decode cX9_init 119 = .ok (.putfield 63, 3) := by decide +kernel
theorem dX9_init_122 : decode cX9_init 122 = .ok (.aload_n 0, 1) := by decide +kernel
theorem dX9_init_123 : decode cX9_init 123 = .ok (.new 67, 3) := by decide +kernel
theorem dX9_init_126 : decode cX9_init 126 = .ok (.dup, 1) := by decide +kernel
theorem dX9_init_127 : decode cX9_init 127 = .ok (.invokespecial 69, 3) := by decide +kernel
theorem dX9_init_130 : decode cX9_init 130 = .ok (.putfield 70, 3) := by decide +kernel
theorem dX9_init_133 : decode cX9_init 133 = .ok (.aload_n 0, 1) := by decide +kernel
theorem dX9_init_134 : decode cX9_init 134 = .ok (.new 67, 3) := by decide +kernel
theorem dX9_init_137 : decode cX9_init 137 = .ok (.dup, 1) := by decide +kernel
theorem dX9_init_138 : decode cX9_init 138 = .ok (.invokespecial 69, 3) := by decide +kernel
theorem dX9_init_141 : decode cX9_init 141 = .ok (.putfield 74, 3) := by decide +kernel
theorem dX9_init_144 : decode cX9_init 144 = .ok (.return_, 1) := by decide +kernel
theorem dX9_generate_0 : decode cX9_generate 0 = .ok (.iload_n 1, 1) := by decide +kernel
theorem dX9_generate_1 : decode cX9_generate 1 = .ok (.invokestatic 77, 3) := by decide +kernel
theorem dX9_generate_4 : decode cX9_generate 4 = .ok (.ifCond .eq 5, 3) := by decide +kernel
theorem dX9_generate_7 : decode cX9_generate 7 = .ok (.iconst (-1), 1) := by decide +kernel
theorem dX9_generate_8 : decode cX9_generate 8 = .ok (.ireturn, 1) := by decide +kernel
theorem dX9_generate_9 : decode cX9_generate 9 = .ok (.iload_n 2, 1) := by decide +kernel
theorem dX9_generate_10 : decode cX9_generate 10 = .ok (.iload_n 3, 1) := by decide +kernel
theorem dX9_generate_11 : decode cX9_generate 11 = .ok (.invokestatic 81, 3) := by decide +kernel
theorem dX9_generate_14 : decode cX9_generate 14 = .ok (.ifCond .eq 6, 3) := by decide +kernel
theorem dX9_generate_17 : decode cX9_generate 17 = .ok (.bipush (-2), 2) := by decide +kernel
theorem dX9_generate_19 : decode cX9_generate 19 = .ok (.ireturn, 1) := by decide +kernel
theorem dX9_generate_20 : decode cX9_generate 20 = .ok (.aload_n 0, 1) := by decide +kernel
theorem dX9_generate_21 : decode cX9_generate 21 = .ok (.getfield 12, 3) := by decide +kernel
theorem dX9_generate_24 : decode cX9_generate 24 = .ok (.iload_n 1, 1) := by decide +kernel
theorem dX9_generate_25 : decode cX9_generate 25 = .ok (.invokevirtual 85, 3) := by decide +kernel
theorem dX9_generate_28 : decode cX9_generate 28 = .ok (.astore 4, 2) := by decide +kernel
theorem dX9_generate_30 : decode cX9_generate 30 = .ok (.aload 4, 2) := by decide +kernel
theorem dX9_generate_32 : decode cX9_generate 32 = .ok (.iload_n 2, 1) := by decide +kernel
theorem dX9_generate_33 : decode cX9_generate 33 = .ok (.iload_n 3, 1) := by decide +kernel
theorem dX9_generate_34 : decode cX9_generate 34 = .ok (.invokevirtual 89, 3) := by decide +kernel
theorem dX9_generate_37 : decode cX9_generate 37 = .ok (.ifCond .lt 6, 3) := by decide +kernel
theorem dX9_generate_40 : decode cX9_generate 40 = .ok (.bipush (-3), 2) := by decide +kernel
theorem dX9_generate_42 : decode cX9_generate 42 = .ok (.ireturn, 1) := by decide +kernel
theorem dX9_generate_43 : decode cX9_generate 43 = .ok (.aload 4, 2) := by decide +kernel
theorem dX9_generate_45 : decode cX9_generate 45 = .ok (.invokevirtual 93, 3) := by decide +kernel
theorem dX9_generate_48 : decode cX9_generate 48 = .ok (.bipush 6, 2) := by decide +kernel
theorem dX9_generate_50 : decode cX9_generate 50 = .ok (.if_icmp .lt 6, 3) := by decide +kernel
theorem dX9_generate_53 : decode cX9_generate 53 = .ok (.bipush (-4), 2) := by decide +kernel
theorem dX9_generate_55 : decode cX9_generate 55 = .ok (.ireturn, 1) := by decide +kernel
theorem dX9_generate_56 : decode cX9_generate 56 = .ok (.aload_n 0, 1) := by decide +kernel
theorem dX9_generate_57 : decode cX9_generate 57 = .ok (.getfield 28, 3) := by decide +kernel
theorem dX9_generate_60 : decode cX9_generate 60 = .ok (.iload_n 1, 1) := by decide +kernel
theorem dX9_generate_61 : decode cX9_generate 61 = .ok (.aload 4, 2) := by decide +kernel
theorem dX9_generate_63 : decode cX9_generate 63 = .ok (.invokevirtual 97, 3) := by decide +kernel
theorem dX9_generate_66 : decode cX9_generate 66 = .ok (.aload 4, 2) := by decide +kernel
theorem dX9_generate_68 : decode cX9_generate 68 = .ok (.iload_n 2, 1) := by decide +kernel
theorem dX9_generate_69 : decode cX9_generate 69 = .ok (.iload_n 3, 1) := by decide +kernel
theorem dX9_generate_70 : decode cX9_generate 70 = .ok (.invokevirtual 101, 3) := by decide +kernel
theorem dX9_generate_73 : decode cX9_generate 73 = .ok (.aload 4, 2) := by decide +kernel
theorem dX9_generate_75 : decode cX9_generate 75 = .ok (.invokevirtual 93, 3) := by decide +kernel
theorem dX9_generate_78 : decode cX9_generate 78 = .ok (.ireturn, 1) := by decide +kernel
theorem dX9_drop_0 : decode cX9_drop 0 = .ok (.aload_n 0, 1) := by decide +kernel
theorem dX9_drop_1 : decode cX9_drop 1 = .ok (.iload_n 1, 1) := by decide +kernel
theorem dX9_drop_2 : decode cX9_drop 2 = .ok (.iload_n 2, 1) := by decide +kernel
theorem dX9_drop_3 : decode cX9_drop 3 = .ok (.invokevirtual 105, 3) := by decide +kernel
theorem dX9_drop_6 : decode cX9_drop 6 = .ok (.ifCond .eq 5, 3) := by decide +kernel
theorem dX9_drop_9 : decode cX9_drop 9 = .ok (.iconst (-1), 1) := by decide +kernel
theorem dX9_drop_10 : decode cX9_drop 10 = .ok (.ireturn, 1) := by decide +kernel
theorem dX9_drop_11 : decode cX9_drop 11 = .ok (.aload_n 0, 1) := by decide +kernel
theorem dX9_drop_12 : decode cX9_drop 12 = .ok (.getfield 12, 3) := by decide +kernel
theorem dX9_drop_15 : decode cX9_drop 15 = .ok (.iload_n 1, 1) := by decide +kernel
theorem dX9_drop_16 : decode cX9_drop 16 = .ok (.invokevirtual 85, 3) := by decide +kernel
theorem dX9_drop_19 : decode cX9_drop 19 = .ok (.astore_n 3, 1) := by decide +kernel
theorem dX9_drop_20 : decode cX9_drop 20 = .ok (.aload_n 0, 1) := by decide +kernel
theorem dX9_drop_21 : decode cX9_drop 21 = .ok (.getfield 28, 3) := by decide +kernel
theorem dX9_drop_24 : decode cX9_drop 24 = .ok (.iload_n 1, 1) := by decide +kernel
theorem dX9_drop_25 : decode cX9_drop 25 = .ok (.aload_n 3, 1) := by decide +kernel
theorem dX9_drop_26 : decode cX9_drop 26 = .ok (.invokevirtual 97, 3) := by decide +kernel
theorem dX9_drop_29 : decode cX9_drop 29 = .ok (.aload_n 3, 1) := by decide +kernel
theorem dX9_drop_30 : decode cX9_drop 30 = .ok (.iload_n 2, 1) := by decide +kernel
theorem dX9_drop_31 : decode cX9_drop 31 = .ok (.invokevirtual 108, 3) := by decide +kernel
theorem dX9_drop_34 : decode cX9_drop 34 = .ok (.aload_n 3, 1) := by decide +kernel
theorem dX9_drop_35 : decode cX9_drop 35 = .ok (.invokevirtual 93, 3) := by decide +kernel
theorem dX9_drop_38 : decode cX9_drop 38 = .ok (.ireturn, 1) := by decide +kernel
theorem dX9_clear_0 : decode cX9_clear 0 = .ok (.iload_n 1, 1) := by decide +kernel
theorem dX9_clear_1 : decode cX9_clear 1 = .ok (.invokestatic 77, 3) := by decide +kernel
theorem dX9_clear_4 : decode cX9_clear 4 = .ok (.ifCond .eq 5, 3) := by decide +kernel
theorem dX9_clear_7 : decode cX9_clear 7 = .ok (.iconst (-1), 1) := by decide +kernel
theorem dX9_clear_8 : decode cX9_clear 8 = .ok (.ireturn, 1) := by decide +kernel
theorem dX9_clear_9 : decode cX9_clear 9 = .ok (.aload_n 0, 1) := by decide +kernel
theorem dX9_clear_10 : decode cX9_clear 10 = .ok (.getfield 12, 3) := by decide +kernel
theorem dX9_clear_13 : decode cX9_clear 13 = .ok (.iload_n 1, 1) := by decide +kernel
theorem dX9_clear_14 : decode cX9_clear 14 = .ok (.invokevirtual 85, 3) := by decide +kernel
theorem dX9_clear_17 : decode cX9_clear 17 = .ok (.astore_n 2, 1) := by decide +kernel
theorem dX9_clear_18 : decode cX9_clear 18 = .ok (.aload_n 2, 1) := by decide +kernel
theorem dX9_clear_19 : decode cX9_clear 19 = .ok (.invokevirtual 93, 3) := by decide +kernel
theorem dX9_clear_22 : decode cX9_clear 22 = .ok (.istore_n 3, 1) := by decide +kernel
theorem dX9_clear_23 : decode cX9_clear 23 = .ok (.iload_n 3, 1) := by decide +kernel
theorem dX9_clear_24 : decode cX9_clear 24 = .ok (.ifCond .ne 6, 3) := by decide +kernel
theorem dX9_clear_27 : decode cX9_clear 27 = .ok (.bipush (-3), 2) := by decide +kernel
theorem dX9_clear_29 : decode cX9_clear 29 = .ok (.ireturn, 1) := by decide +kernel
theorem dX9_clear_30 : decode cX9_clear 30 = .ok (.aload_n 0, 1) := by decide +kernel
theorem dX9_clear_31 : decode cX9_clear 31 = .ok (.getfield 28, 3) := by decide +kernel
theorem dX9_clear_34 : decode cX9_clear 34 = .ok (.iload_n 1, 1) := by decide +kernel
theorem dX9_clear_35 : decode cX9_clear 35 = .ok (.aload_n 2, 1) := by decide +kernel
theorem dX9_clear_36 : decode cX9_clear 36 = .ok (.invokevirtual 97, 3) := by decide +kernel
theorem dX9_clear_39 : decode cX9_clear 39 = .ok (.aload_n 2, 1) := by decide +kernel
theorem dX9_clear_40 : decode cX9_clear 40 = .ok (.invokevirtual 112, 3) := by decide +kernel
theorem dX9_clear_43 : decode cX9_clear 43 = .ok (.iload_n 3, 1) := by decide +kernel
theorem dX9_clear_44 : decode cX9_clear 44 = .ok (.ireturn, 1) := by decide +kernel
theorem dX9_merge_0 : decode cX9_merge 0 = .ok (.iload_n 1, 1) := by decide +kernel
theorem dX9_merge_1 : decode cX9_merge 1 = .ok (.invokestatic 77, 3) := by decide +kernel
theorem dX9_merge_4 : decode cX9_merge 4 = .ok (.ifCond .eq 5, 3) := by decide +kernel
theorem dX9_merge_7 : decode cX9_merge 7 = .ok (.iconst (-1), 1) := by decide +kernel
theorem dX9_merge_8 : decode cX9_merge 8 = .ok (.ireturn, 1) := by decide +kernel
theorem dX9_merge_9 : decode cX9_merge 9 = .ok (.aload_n 0, 1) := by decide +kernel
theorem dX9_merge_10 : decode cX9_merge 10 = .ok (.getfield 12, 3) := by decide +kernel
theorem dX9_merge_13 : decode cX9_merge 13 = .ok (.iload_n 1, 1) := by decide +kernel
theorem dX9_merge_14 : decode cX9_merge 14 = .ok (.invokevirtual 85, 3) := by decide +kernel
theorem dX9_merge_17 : decode cX9_merge 17 = .ok (.astore_n 2, 1) := by decide +kernel
theorem dX9_merge_18 : decode cX9_merge 18 = .ok (.aload_n 0, 1) := by decide +kernel
theorem dX9_merge_19 : decode cX9_merge 19 = .ok (.getfield 12, 3) := by decide +kernel
theorem dX9_merge_22 : decode cX9_merge 22 = .ok (.iconst 1, 1) := by decide +kernel
theorem dX9_merge_23 : decode cX9_merge 23 = .ok (.iload_n 1, 1) := by decide +kernel
theorem dX9_merge_24 : decode cX9_merge 24 = .ok (.isub, 1) := by decide +kernel
theorem dX9_merge_25 : decode cX9_merge 25 = .ok (.invokevirtual 85, 3) := by decide +kernel
theorem dX9_merge_28 : decode cX9_merge 28 = .ok (.astore_n 3, 1) := by decide +kernel
theorem dX9_merge_29 : decode cX9_merge 29 = .ok (.aload_n 2, 1) := by decide +kernel
theorem dX9_merge_30 : decode cX9_merge 30 = .ok (.invokevirtual 93, 3) := by decide +kernel
theorem dX9_merge_33 : decode cX9_merge 33 = .ok (.aload_n 3, 1) := by decide +kernel
theorem dX9_merge_34 : decode cX9_merge 34 = .ok (.aload_n 2, 1) := by decide +kernel
theorem dX9_merge_35 : decode cX9_merge 35 = .ok (.invokevirtual 115, 3) := by decide +kernel
theorem dX9_merge_38 : decode cX9_merge 38 = .ok (.iadd, 1) := by decide +kernel
theorem dX9_merge_39 : decode cX9_merge 39 = .ok (.bipush 6, 2) := by decide +kernel
theorem dX9_merge_41 : decode cX9_merge 41 = .ok (.if_icmp .le 6, 3) := by decide +kernel
theorem dX9_merge_44 : decode cX9_merge 44 = .ok (.bipush (-4), 2) := by decide +kernel
theorem dX9_merge_46 : decode cX9_merge 46 = .ok (.ireturn, 1) := by decide +kernel
theorem dX9_merge_47 : decode cX9_merge 47 = .ok (.aload_n 0, 1) := by decide +kernel
theorem dX9_merge_48 : decode cX9_merge 48 = .ok (.getfield 28, 3) := by decide +kernel
theorem dX9_merge_51 : decode cX9_merge 51 = .ok (.iload_n 1, 1) := by decide +kernel
theorem dX9_merge_52 : decode cX9_merge 52 = .ok (.aload_n 2, 1) := by decide +kernel
theorem dX9_merge_53 : decode cX9_merge 53 = .ok (.invokevirtual 97, 3) := by decide +kernel
theorem dX9_merge_56 : decode cX9_merge 56 = .ok (.iconst 0, 1) := by decide +kernel
theorem dX9_merge_57 : decode cX9_merge 57 = .ok (.istore 4, 2) := by decide +kernel
theorem dX9_merge_59 : decode cX9_merge 59 = .ok (.iload 4, 2) := by decide +kernel
theorem dX9_merge_61 : decode cX9_merge 61 = .ok (.aload_n 3, 1) := by decide +kernel
theorem dX9_merge_62 : decode cX9_merge 62 = .ok (.invokevirtual 93, 3) := by decide +kernel
theorem dX9_merge_65 : decode cX9_merge 65 = .ok (.if_icmp .ge 25, 3) := by decide +kernel
theorem dX9_merge_68 : decode cX9_merge 68 = .ok (.aload_n 2, 1) := by decide +kernel
theorem dX9_merge_69 : decode cX9_merge 69 = .ok (.aload_n 3, 1) := by decide +kernel
theorem dX9_merge_70 : decode cX9_merge 70 = .ok (.iload 4, 2) := by decide +kernel
theorem dX9_merge_72 : decode cX9_merge 72 = .ok (.invokevirtual 119, 3) := by decide +kernel
theorem dX9_merge_75 : decode cX9_merge 75 = .ok (.aload_n 3, 1) := by decide +kernel
theorem dX9_merge_76 : decode cX9_merge 76 = .ok (.iload 4, 2) := by decide +kernel
theorem dX9_merge_78 : decode cX9_merge 78 = .ok (.invokevirtual 123, 3) := by decide +kernel
theorem dX9_merge_81 : decode cX9_merge 81 = .ok (.invokevirtual 126, 3) := by decide +kernel
theorem dX9_merge_84 : decode cX9_merge 84 = .ok (.iinc 4 1, 3) := by decide +kernel
theorem dX9_merge_87 : decode cX9_merge 87 = .ok (.goto (-28), 3) := by decide +kernel
theorem dX9_merge_90 : decode cX9_merge 90 = .ok (.aload_n 2, 1) := by decide +kernel
theorem dX9_merge_91 : decode cX9_merge 91 = .ok (.invokevirtual 93, 3) := by decide +kernel
theorem dX9_merge_94 : decode cX9_merge 94 = .ok (.ireturn, 1) := by decide +kernel
theorem dX9_close_0 : decode cX9_close 0 = .ok (.iload_n 1, 1) := by decide +kernel
theorem dX9_close_1 : decode cX9_close 1 = .ok (.invokestatic 77, 3) := by decide +kernel
theorem dX9_close_4 : decode cX9_close 4 = .ok (.ifCond .eq 5, 3) := by decide +kernel
theorem dX9_close_7 : decode cX9_close 7 = .ok (.iconst (-1), 1) := by decide +kernel
theorem dX9_close_8 : decode cX9_close 8 = .ok (.ireturn, 1) := by decide +kernel
theorem dX9_close_9 : decode cX9_close 9 = .ok (.aload_n 0, 1) := by decide +kernel
theorem dX9_close_10 : decode cX9_close 10 = .ok (.getfield 12, 3) := by decide +kernel
theorem dX9_close_13 : decode cX9_close 13 = .ok (.iload_n 1, 1) := by decide +kernel
theorem dX9_close_14 : decode cX9_close 14 = .ok (.invokevirtual 85, 3) := by decide +kernel
theorem dX9_close_17 : decode cX9_close 17 = .ok (.astore_n 2, 1) := by decide +kernel
theorem dX9_close_18 : decode cX9_close 18 = .ok (.aload_n 2, 1) := by decide +kernel
theorem dX9_close_19 : decode cX9_close 19 = .ok (.invokevirtual 93, 3) := by decide +kernel
theorem dX9_close_22 : decode cX9_close 22 = .ok (.ifCond .ne 6, 3) := by decide +kernel
theorem dX9_close_25 : decode cX9_close 25 = .ok (.bipush (-3), 2) := by decide +kernel
theorem dX9_close_27 : decode cX9_close 27 = .ok (.ireturn, 1) := by decide +kernel
theorem dX9_close_28 : decode cX9_close 28 = .ok (.aload_n 0, 1) := by decide +kernel
theorem dX9_close_29 : decode cX9_close 29 = .ok (.getfield 56, 3) := by decide +kernel
theorem dX9_close_32 : decode cX9_close 32 = .ok (.aload_n 2, 1) := by decide +kernel
theorem dX9_close_33 : decode cX9_close 33 = .ok (.invokevirtual 129, 3) := by decide +kernel
theorem dX9_close_36 : decode cX9_close 36 = .ok (.aload_n 0, 1) := by decide +kernel
theorem dX9_close_37 : decode cX9_close 37 = .ok (.getfield 56, 3) := by decide +kernel
theorem dX9_close_40 : decode cX9_close 40 = .ok (.aload_n 0, 1) := by decide +kernel
theorem dX9_close_41 : decode cX9_close 41 = .ok (.getfield 49, 3) := by decide +kernel
theorem dX9_close_44 : decode cX9_close 44 = .ok (.invokevirtual 133, 3) := by decide +kernel
theorem dX9_close_47 : decode cX9_close 47 = .ok (.bipush 6, 2) := by decide +kernel
theorem dX9_close_49 : decode cX9_close 49 = .ok (.if_icmp .le 6, 3) := by decide +kernel
theorem dX9_close_52 : decode cX9_close 52 = .ok (.bipush (-4), 2) := by decide +kernel
theorem dX9_close_54 : decode cX9_close 54 = .ok (.ireturn, 1) := by decide +kernel
theorem dX9_close_55 : decode cX9_close 55 = .ok (.aload_n 0, 1) := by decide +kernel
theorem dX9_close_56 : decode cX9_close 56 = .ok (.getfield 28, 3) := by decide +kernel
theorem dX9_close_59 : decode cX9_close 59 = .ok (.iload_n 1, 1) := by decide +kernel
theorem dX9_close_60 : decode cX9_close 60 = .ok (.aload_n 2, 1) := by decide +kernel
theorem dX9_close_61 : decode cX9_close 61 = .ok (.invokevirtual 97, 3) := by decide +kernel
theorem dX9_close_64 : decode cX9_close 64 = .ok (.aload_n 2, 1) := by decide +kernel
theorem dX9_close_65 : decode cX9_close 65 = .ok (.aload_n 0, 1) := by decide +kernel
theorem dX9_close_66 : decode cX9_close 66 = .ok (.getfield 49, 3) := by decide +kernel
theorem dX9_close_69 : decode cX9_close 69 = .ok (.invokevirtual 136, 3) := by decide +kernel
theorem dX9_close_72 : decode cX9_close 72 = .ok (.aload_n 2, 1) := by decide +kernel
theorem dX9_close_73 : decode cX9_close 73 = .ok (.invokevirtual 93, 3) := by decide +kernel
theorem dX9_close_76 : decode cX9_close 76 = .ok (.ireturn, 1) := by decide +kernel
theorem dX9_back_0 : decode cX9_back 0 = .ok (.aload_n 0, 1) := by decide +kernel
theorem dX9_back_1 : decode cX9_back 1 = .ok (.getfield 28, 3) := by decide +kernel
theorem dX9_back_4 : decode cX9_back 4 = .ok (.invokevirtual 139, 3) := by decide +kernel
theorem dX9_back_7 : decode cX9_back 7 = .ok (.ifCond .ne 6, 3) := by decide +kernel
theorem dX9_back_10 : decode cX9_back 10 = .ok (.bipush (-3), 2) := by decide +kernel
theorem dX9_back_12 : decode cX9_back 12 = .ok (.ireturn, 1) := by decide +kernel
theorem dX9_back_13 : decode cX9_back 13 = .ok (.aload_n 0, 1) := by decide +kernel
theorem dX9_back_14 : decode cX9_back 14 = .ok (.getfield 28, 3) := by decide +kernel
theorem dX9_back_17 : decode cX9_back 17 = .ok (.aload_n 0, 1) := by decide +kernel
theorem dX9_back_18 : decode cX9_back 18 = .ok (.getfield 12, 3) := by decide +kernel
theorem dX9_back_21 : decode cX9_back 21 = .ok (.invokevirtual 140, 3) := by decide +kernel
theorem dX9_back_24 : decode cX9_back 24 = .ok (.aload_n 0, 1) := by decide +kernel
theorem dX9_back_25 : decode cX9_back 25 = .ok (.getfield 28, 3) := by decide +kernel
theorem dX9_back_28 : decode cX9_back 28 = .ok (.invokevirtual 139, 3) := by decide +kernel
theorem dX9_back_31 : decode cX9_back 31 = .ok (.ireturn, 1) := by decide +kernel
theorem dX9_feed_0 : decode cX9_feed 0 = .ok (.iload_n 1, 1) := by decide +kernel
theorem dX9_feed_1 : decode cX9_feed 1 = .ok (.ifCond .lt 9, 3) := by decide +kernel
theorem dX9_feed_4 : decode cX9_feed 4 = .ok (.iload_n 1, 1) := by decide +kernel
theorem dX9_feed_5 : decode cX9_feed 5 = .ok (.bipush 127, 2) := by decide +kernel
theorem dX9_feed_7 : decode cX9_feed 7 = .ok (.if_icmp .le 6, 3) := by decide +kernel
theorem dX9_feed_10 : decode cX9_feed 10 = .ok (.bipush (-2), 2) := by decide +kernel
theorem dX9_feed_12 : decode cX9_feed 12 = .ok (.ireturn, 1) := by decide +kernel
theorem dX9_feed_13 : decode cX9_feed 13 = .ok (.aload_n 0, 1) := by decide +kernel
theorem dX9_feed_14 : decode cX9_feed 14 = .ok (.getfield 35, 3) := by decide +kernel
theorem dX9_feed_17 : decode cX9_feed 17 = .ok (.invokevirtual 144, 3) := by decide +kernel
theorem dX9_feed_20 : decode cX9_feed 20 = .ok (.ifCond .eq 6, 3) := by decide +kernel
theorem dX9_feed_23 : decode cX9_feed 23 = .ok (.bipush (-4), 2) := by decide +kernel
theorem dX9_feed_25 : decode cX9_feed 25 = .ok (.ireturn, 1) := by decide +kernel
theorem dX9_feed_26 : decode cX9_feed 26 = .ok (.aload_n 0, 1) := by decide +kernel
theorem dX9_feed_27 : decode cX9_feed 27 = .ok (.getfield 35, 3) := by decide +kernel
theorem dX9_feed_30 : decode cX9_feed 30 = .ok (.iload_n 1, 1) := by decide +kernel
theorem dX9_feed_31 : decode cX9_feed 31 = .ok (.invokevirtual 148, 3) := by decide +kernel
theorem dX9_feed_34 : decode cX9_feed 34 = .ok (.aload_n 0, 1) := by decide +kernel
theorem dX9_feed_35 : decode cX9_feed 35 = .ok (.getfield 35, 3) := by decide +kernel
theorem dX9_feed_38 : decode cX9_feed 38 = .ok (.invokevirtual 150, 3) := by decide +kernel
theorem dX9_feed_41 : decode cX9_feed 41 = .ok (.ireturn, 1) := by decide +kernel
theorem dX9_read_0 : decode cX9_read 0 = .ok (.aload_n 0, 1) := by decide +kernel
theorem dX9_read_1 : decode cX9_read 1 = .ok (.getfield 35, 3) := by decide +kernel
theorem dX9_read_4 : decode cX9_read 4 = .ok (.invokevirtual 151, 3) := by decide +kernel
theorem dX9_read_7 : decode cX9_read 7 = .ok (.istore_n 1, 1) := by decide +kernel
theorem dX9_read_8 : decode cX9_read 8 = .ok (.iload_n 1, 1) := by decide +kernel
theorem dX9_read_9 : decode cX9_read 9 = .ok (.ifCond .lt 10, 3) := by decide +kernel
theorem dX9_read_12 : decode cX9_read 12 = .ok (.bipush (-10), 2) := by decide +kernel
theorem dX9_read_14 : decode cX9_read 14 = .ok (.iload_n 1, 1) := by decide +kernel
theorem dX9_read_15 : decode cX9_read 15 = .ok (.isub, 1) := by decide +kernel
theorem dX9_read_16 : decode cX9_read 16 = .ok (.goto 7, 3) := by decide +kernel
theorem dX9_read_19 : decode cX9_read 19 = .ok (.aload_n 0, 1) := by decide +kernel
theorem dX9_read_20 : decode cX9_read 20 = .ok (.invokevirtual 154, 3) := by decide +kernel
theorem dX9_read_23 : decode cX9_read 23 = .ok (.istore_n 2, 1) := by decide +kernel
theorem dX9_read_24 : decode cX9_read 24 = .ok (.aload_n 0, 1) := by decide +kernel
theorem dX9_read_25 : decode cX9_read 25 = .ok (.getfield 35, 3) := by decide +kernel
theorem dX9_read_28 : decode cX9_read 28 = .ok (.invokevirtual 157, 3) := by decide +kernel
theorem dX9_read_31 : decode cX9_read 31 = .ok (.iload_n 2, 1) := by decide +kernel
theorem dX9_read_32 : decode cX9_read 32 = .ok (.ireturn, 1) := by decide +kernel
theorem dX9_doClauses_0 : decode cX9_doClauses 0 = .ok (.iconst 0, 1) := by decide +kernel
theorem dX9_doClauses_1 : decode cX9_doClauses 1 = .ok (.istore_n 1, 1) := by decide +kernel
theorem dX9_doClauses_2 : decode cX9_doClauses 2 = .ok (.iconst 0, 1) := by decide +kernel
theorem dX9_doClauses_3 : decode cX9_doClauses 3 = .ok (.istore_n 2, 1) := by decide +kernel
theorem dX9_doClauses_4 : decode cX9_doClauses 4 = .ok (.iconst 0, 1) := by decide +kernel
theorem dX9_doClauses_5 : decode cX9_doClauses 5 = .ok (.istore_n 3, 1) := by decide +kernel
theorem dX9_doClauses_6 : decode cX9_doClauses 6 = .ok (.iload_n 3, 1) := by decide +kernel
theorem dX9_doClauses_7 : decode cX9_doClauses 7 = .ok (.bipush 12, 2) := by decide +kernel
theorem dX9_doClauses_9 : decode cX9_doClauses 9 = .ok (.if_icmp .ge 47, 3) := by decide +kernel
theorem dX9_doClauses_12 : decode cX9_doClauses 12 = .ok (.iload_n 2, 1) := by decide +kernel
theorem dX9_doClauses_13 : decode cX9_doClauses 13 = .ok (.aload_n 0, 1) := by decide +kernel
theorem dX9_doClauses_14 : decode cX9_doClauses 14 = .ok (.getfield 35, 3) := by decide +kernel
theorem dX9_doClauses_17 : decode cX9_doClauses 17 = .ok (.invokevirtual 150, 3) := by decide +kernel
theorem dX9_doClauses_20 : decode cX9_doClauses 20 = .ok (.if_icmp .ge 36, 3) := by decide +kernel
theorem dX9_doClauses_23 : decode cX9_doClauses 23 = .ok (.aload_n 0, 1) := by decide +kernel
theorem dX9_doClauses_24 : decode cX9_doClauses 24 = .ok (.iload_n 2, 1) := by decide +kernel
theorem dX9_doClauses_25 : decode cX9_doClauses 25 = .ok (.invokevirtual 158, 3) := by decide +kernel
theorem dX9_doClauses_28 : decode cX9_doClauses 28 = .ok (.ifCond .lt 6, 3) := by decide +kernel
theorem dX9_doClauses_31 : decode cX9_doClauses 31 = .ok (.iinc 1 1, 3) := by decide +kernel
theorem dX9_doClauses_34 : decode cX9_doClauses 34 = .ok (.iload_n 2, 1) := by decide +kernel
theorem dX9_doClauses_35 : decode cX9_doClauses 35 = .ok (.aload_n 0, 1) := by decide +kernel
theorem dX9_doClauses_36 : decode cX9_doClauses 36 = .ok (.getfield 35, 3) := by decide +kernel
theorem dX9_doClauses_39 : decode cX9_doClauses 39 = .ok (.iload_n 2, 1) := by decide +kernel
theorem dX9_doClauses_40 : decode cX9_doClauses 40 = .ok (.invokevirtual 161, 3) := by decide +kernel
theorem dX9_doClauses_43 : decode cX9_doClauses 43 = .ok (.invokestatic 164, 3) := by decide +kernel
theorem dX9_doClauses_46 : decode cX9_doClauses 46 = .ok (.iconst 1, 1) := by decide +kernel
theorem dX9_doClauses_47 : decode cX9_doClauses 47 = .ok (.iadd, 1) := by decide +kernel
theorem dX9_doClauses_48 : decode cX9_doClauses 48 = .ok (.iadd, 1) := by decide +kernel
theorem dX9_doClauses_49 : decode cX9_doClauses 49 = .ok (.istore_n 2, 1) := by decide +kernel
theorem dX9_doClauses_50 : decode cX9_doClauses 50 = .ok (.iinc 3 1, 3) := by decide +kernel
theorem dX9_doClauses_53 : decode cX9_doClauses 53 = .ok (.goto (-47), 3) := by decide +kernel
theorem dX9_doClauses_56 : decode cX9_doClauses 56 = .ok (.iload_n 1, 1) := by decide +kernel
theorem dX9_doClauses_57 : decode cX9_doClauses 57 = .ok (.ireturn, 1) := by decide +kernel
theorem dX9_doClause_0 : decode cX9_doClause 0 = .ok (.aload_n 0, 1) := by decide +kernel
theorem dX9_doClause_1 : decode cX9_doClause 1 = .ok (.getfield 35, 3) := by decide +kernel
theorem dX9_doClause_4 : decode cX9_doClause 4 = .ok (.iload_n 1, 1) := by decide +kernel
theorem dX9_doClause_5 : decode cX9_doClause 5 = .ok (.iconst 1, 1) := by decide +kernel
theorem dX9_doClause_6 : decode cX9_doClause 6 = .ok (.iadd, 1) := by decide +kernel
theorem dX9_doClause_7 : decode cX9_doClause 7 = .ok (.invokevirtual 167, 3) := by decide +kernel
theorem dX9_doClause_10 : decode cX9_doClause 10 = .ok (.istore_n 2, 1) := by decide +kernel
theorem dX9_doClause_11 : decode cX9_doClause 11 = .ok (.aload_n 0, 1) := by decide +kernel
theorem dX9_doClause_12 : decode cX9_doClause 12 = .ok (.getfield 35, 3) := by decide +kernel
theorem dX9_doClause_15 : decode cX9_doClause 15 = .ok (.iload_n 1, 1) := by decide +kernel
theorem dX9_doClause_16 : decode cX9_doClause 16 = .ok (.invokevirtual 161, 3) := by decide +kernel
theorem dX9_doClause_19 : decode cX9_doClause 19 = .ok (.lookupswitch 109 #[(43, 49), (45, 75), (99, 97), (109, 103), (122, 91)], 49) := by decide +kernel
theorem dX9_doClause_68 : decode cX9_doClause 68 = .ok (.aload_n 0, 1) := by decide +kernel
theorem dX9_doClause_69 : decode cX9_doClause 69 = .ok (.iload_n 2, 1) := by decide +kernel
theorem dX9_doClause_70 : decode cX9_doClause 70 = .ok (.aload_n 0, 1) := by decide +kernel
theorem dX9_doClause_71 : decode cX9_doClause 71 = .ok (.getfield 35, 3) := by decide +kernel
theorem dX9_doClause_74 : decode cX9_doClause 74 = .ok (.iload_n 1, 1) := by decide +kernel
theorem dX9_doClause_75 : decode cX9_doClause 75 = .ok (.iconst 2, 1) := by decide +kernel
theorem dX9_doClause_76 : decode cX9_doClause 76 = .ok (.iadd, 1) := by decide +kernel
theorem dX9_doClause_77 : decode cX9_doClause 77 = .ok (.invokevirtual 167, 3) := by decide +kernel
theorem dX9_doClause_80 : decode cX9_doClause 80 = .ok (.aload_n 0, 1) := by decide +kernel
theorem dX9_doClause_81 : decode cX9_doClause 81 = .ok (.getfield 35, 3) := by decide +kernel
theorem dX9_doClause_84 : decode cX9_doClause 84 = .ok (.iload_n 1, 1) := by decide +kernel
theorem dX9_doClause_85 : decode cX9_doClause 85 = .ok (.iconst 3, 1) := by decide +kernel
theorem dX9_doClause_86 : decode cX9_doClause 86 = .ok (.iadd, 1) := by decide +kernel
theorem dX9_doClause_87 : decode cX9_doClause 87 = .ok (.invokevirtual 167, 3) := by decide +kernel
theorem dX9_doClause_90 : decode cX9_doClause 90 = .ok (.invokevirtual 170, 3) := by decide +kernel
theorem dX9_doClause_93 : decode cX9_doClause 93 = .ok (.ireturn, 1) := by decide +kernel
theorem dX9_doClause_94 : decode cX9_doClause 94 = .ok (.aload_n 0, 1) := by decide +kernel
theorem dX9_doClause_95 : decode cX9_doClause 95 = .ok (.iload_n 2, 1) := by decide +kernel
theorem dX9_doClause_96 : decode cX9_doClause 96 = .ok (.aload_n 0, 1) := by decide +kernel
theorem dX9_doClause_97 : decode cX9_doClause 97 = .ok (.getfield 35, 3) := by decide +kernel
theorem dX9_doClause_100 : decode cX9_doClause 100 = .ok (.iload_n 1, 1) := by decide +kernel
theorem dX9_doClause_101 : decode cX9_doClause 101 = .ok (.iconst 2, 1) := by decide +kernel
theorem dX9_doClause_102 : decode cX9_doClause 102 = .ok (.iadd, 1) := by decide +kernel
theorem dX9_doClause_103 : decode cX9_doClause 103 = .ok (.invokevirtual 167, 3) := by decide +kernel
theorem dX9_doClause_106 : decode cX9_doClause 106 = .ok (.invokevirtual 174, 3) := by decide +kernel
theorem dX9_doClause_109 : decode cX9_doClause 109 = .ok (.ireturn, 1) := by decide +kernel
theorem dX9_doClause_110 : decode cX9_doClause 110 = .ok (.aload_n 0, 1) := by decide +kernel
theorem dX9_doClause_111 : decode cX9_doClause 111 = .ok (.iload_n 2, 1) := by decide +kernel
theorem dX9_doClause_112 : decode cX9_doClause 112 = .ok (.invokevirtual 177, 3) := by decide +kernel
theorem dX9_doClause_115 : decode cX9_doClause 115 = .ok (.ireturn, 1) := by decide +kernel
theorem dX9_doClause_116 : decode cX9_doClause 116 = .ok (.aload_n 0, 1) := by decide +kernel
theorem dX9_doClause_117 : decode cX9_doClause 117 = .ok (.iload_n 2, 1) := by decide +kernel
theorem dX9_doClause_118 : decode cX9_doClause 118 = .ok (.invokevirtual 180, 3) := by decide +kernel
theorem dX9_doClause_121 : decode cX9_doClause 121 = .ok (.ireturn, 1) := by decide +kernel
theorem dX9_doClause_122 : decode cX9_doClause 122 = .ok (.aload_n 0, 1) := by decide +kernel
theorem dX9_doClause_123 : decode cX9_doClause 123 = .ok (.iload_n 2, 1) := by decide +kernel
theorem dX9_doClause_124 : decode cX9_doClause 124 = .ok (.invokevirtual 183, 3) := by decide +kernel
theorem dX9_doClause_127 : decode cX9_doClause 127 = .ok (.ireturn, 1) := by decide +kernel
theorem dX9_doClause_128 : decode cX9_doClause 128 = .ok (.aload_n 0, 1) := by decide +kernel
theorem dX9_doClause_129 : decode cX9_doClause 129 = .ok (.invokevirtual 186, 3) := by decide +kernel
theorem dX9_doClause_132 : decode cX9_doClause 132 = .ok (.ireturn, 1) := by decide +kernel
theorem dX9_of_0 : decode cX9_of 0 = .ok (.aload_n 0, 1) := by decide +kernel
theorem dX9_of_1 : decode cX9_of 1 = .ok (.iload_n 1, 1) := by decide +kernel
theorem dX9_of_2 : decode cX9_of 2 = .ok (.iload_n 2, 1) := by decide +kernel
theorem dX9_of_3 : decode cX9_of 3 = .ok (.invokevirtual 105, 3) := by decide +kernel
theorem dX9_of_6 : decode cX9_of 6 = .ok (.ifCond .ne 12, 3) := by decide +kernel
theorem dX9_of_9 : decode cX9_of 9 = .ok (.iload_n 3, 1) := by decide +kernel
theorem dX9_of_10 : decode cX9_of 10 = .ok (.ifCond .lt 8, 3) := by decide +kernel
theorem dX9_of_13 : decode cX9_of 13 = .ok (.iload_n 3, 1) := by decide +kernel
theorem dX9_of_14 : decode cX9_of 14 = .ok (.iconst 2, 1) := by decide +kernel
theorem dX9_of_15 : decode cX9_of 15 = .ok (.if_icmp .le 5, 3) := by decide +kernel
theorem dX9_of_18 : decode cX9_of 18 = .ok (.iconst (-1), 1) := by decide +kernel
theorem dX9_of_19 : decode cX9_of 19 = .ok (.ireturn, 1) := by decide +kernel
theorem dX9_of_20 : decode cX9_of 20 = .ok (.aload_n 0, 1) := by decide +kernel
theorem dX9_of_21 : decode cX9_of 21 = .ok (.getfield 12, 3) := by decide +kernel
theorem dX9_of_24 : decode cX9_of 24 = .ok (.iload_n 1, 1) := by decide +kernel
theorem dX9_of_25 : decode cX9_of 25 = .ok (.invokevirtual 85, 3) := by decide +kernel
theorem dX9_of_28 : decode cX9_of 28 = .ok (.astore 4, 2) := by decide +kernel
theorem dX9_of_30 : decode cX9_of 30 = .ok (.iload_n 3, 1) := by decide +kernel
theorem dX9_of_31 : decode cX9_of 31 = .ok (.lookupswitch 39 #[(0, 25), (1, 32)], 25) := by decide +kernel
theorem dX9_of_56 : decode cX9_of 56 = .ok (.aload 4, 2) := by decide +kernel
theorem dX9_of_58 : decode cX9_of 58 = .ok (.iload_n 2, 1) := by decide +kernel
theorem dX9_of_59 : decode cX9_of 59 = .ok (.invokevirtual 119, 3) := by decide +kernel
theorem dX9_of_62 : decode cX9_of 62 = .ok (.ireturn, 1) := by decide +kernel
theorem dX9_of_63 : decode cX9_of 63 = .ok (.aload 4, 2) := by decide +kernel
theorem dX9_of_65 : decode cX9_of 65 = .ok (.iload_n 2, 1) := by decide +kernel
theorem dX9_of_66 : decode cX9_of 66 = .ok (.invokevirtual 123, 3) := by decide +kernel
theorem dX9_of_69 : decode cX9_of 69 = .ok (.ireturn, 1) := by decide +kernel
theorem dX9_of_70 : decode cX9_of 70 = .ok (.aload 4, 2) := by decide +kernel
theorem dX9_of_72 : decode cX9_of 72 = .ok (.iload_n 2, 1) := by decide +kernel
theorem dX9_of_73 : decode cX9_of 73 = .ok (.invokevirtual 189, 3) := by decide +kernel
theorem dX9_of_76 : decode cX9_of 76 = .ok (.ifCond .eq 7, 3) := by decide +kernel
theorem dX9_of_79 : decode cX9_of 79 = .ok (.iconst 1, 1) := by decide +kernel
theorem dX9_of_80 : decode cX9_of 80 = .ok (.goto 4, 3) := by decide +kernel
theorem dX9_of_83 : decode cX9_of 83 = .ok (.iconst 0, 1) := by decide +kernel
theorem dX9_of_84 : decode cX9_of 84 = .ok (.ireturn, 1) := by decide +kernel
theorem dX9_told_0 : decode cX9_told 0 = .ok (.iload_n 1, 1) := by decide +kernel
theorem dX9_told_1 : decode cX9_told 1 = .ok (.invokestatic 77, 3) := by decide +kernel
theorem dX9_told_4 : decode cX9_told 4 = .ok (.ifCond .ne 12, 3) := by decide +kernel
theorem dX9_told_7 : decode cX9_told 7 = .ok (.iload_n 2, 1) := by decide +kernel
theorem dX9_told_8 : decode cX9_told 8 = .ok (.ifCond .lt 8, 3) := by decide +kernel
theorem dX9_told_11 : decode cX9_told 11 = .ok (.iload_n 2, 1) := by decide +kernel
theorem dX9_told_12 : decode cX9_told 12 = .ok (.iconst 4, 1) := by decide +kernel
theorem dX9_told_13 : decode cX9_told 13 = .ok (.if_icmp .le 5, 3) := by decide +kernel
theorem dX9_told_16 : decode cX9_told 16 = .ok (.iconst (-1), 1) := by decide +kernel
theorem dX9_told_17 : decode cX9_told 17 = .ok (.ireturn, 1) := by decide +kernel
theorem dX9_told_18 : decode cX9_told 18 = .ok (.aload_n 0, 1) := by decide +kernel
theorem dX9_told_19 : decode cX9_told 19 = .ok (.getfield 12, 3) := by decide +kernel
theorem dX9_told_22 : decode cX9_told 22 = .ok (.iload_n 1, 1) := by decide +kernel
theorem dX9_told_23 : decode cX9_told 23 = .ok (.invokevirtual 85, 3) := by decide +kernel
theorem dX9_told_26 : decode cX9_told 26 = .ok (.astore_n 3, 1) := by decide +kernel
theorem dX9_told_27 : decode cX9_told 27 = .ok (.iload_n 2, 1) := by decide +kernel
theorem dX9_told_28 : decode cX9_told 28 = .ok (.ifCond .ne 8, 3) := by decide +kernel
theorem dX9_told_31 : decode cX9_told 31 = .ok (.aload_n 3, 1) := by decide +kernel
theorem dX9_told_32 : decode cX9_told 32 = .ok (.invokevirtual 93, 3) := by decide +kernel
theorem dX9_told_35 : decode cX9_told 35 = .ok (.ireturn, 1) := by decide +kernel
theorem dX9_told_36 : decode cX9_told 36 = .ok (.iload_n 2, 1) := by decide +kernel
theorem dX9_told_37 : decode cX9_told 37 = .ok (.iconst 1, 1) := by decide +kernel
theorem dX9_told_38 : decode cX9_told 38 = .ok (.if_icmp .ne 8, 3) := by decide +kernel
theorem dX9_told_41 : decode cX9_told 41 = .ok (.aload_n 3, 1) := by decide +kernel
theorem dX9_told_42 : decode cX9_told 42 = .ok (.invokevirtual 192, 3) := by decide +kernel
theorem dX9_told_45 : decode cX9_told 45 = .ok (.ireturn, 1) := by decide +kernel
theorem dX9_told_46 : decode cX9_told 46 = .ok (.aload_n 3, 1) := by decide +kernel
theorem dX9_told_47 : decode cX9_told 47 = .ok (.invokevirtual 93, 3) := by decide +kernel
theorem dX9_told_50 : decode cX9_told 50 = .ok (.ifCond .ne 6, 3) := by decide +kernel
theorem dX9_told_53 : decode cX9_told 53 = .ok (.bipush (-3), 2) := by decide +kernel
theorem dX9_told_55 : decode cX9_told 55 = .ok (.ireturn, 1) := by decide +kernel
theorem dX9_told_56 : decode cX9_told 56 = .ok (.iload_n 2, 1) := by decide +kernel
theorem dX9_told_57 : decode cX9_told 57 = .ok (.iconst 2, 1) := by decide +kernel
theorem dX9_told_58 : decode cX9_told 58 = .ok (.if_icmp .ne 19, 3) := by decide +kernel
theorem dX9_told_61 : decode cX9_told 61 = .ok (.aload_n 0, 1) := by decide +kernel
theorem dX9_told_62 : decode cX9_told 62 = .ok (.getfield 56, 3) := by decide +kernel
theorem dX9_told_65 : decode cX9_told 65 = .ok (.aload_n 3, 1) := by decide +kernel
theorem dX9_told_66 : decode cX9_told 66 = .ok (.invokevirtual 129, 3) := by decide +kernel
theorem dX9_told_69 : decode cX9_told 69 = .ok (.aload_n 0, 1) := by decide +kernel
theorem dX9_told_70 : decode cX9_told 70 = .ok (.getfield 56, 3) := by decide +kernel
theorem dX9_told_73 : decode cX9_told 73 = .ok (.invokevirtual 195, 3) := by decide +kernel
theorem dX9_told_76 : decode cX9_told 76 = .ok (.ireturn, 1) := by decide +kernel
theorem dX9_told_77 : decode cX9_told 77 = .ok (.iload_n 2, 1) := by decide +kernel
theorem dX9_told_78 : decode cX9_told 78 = .ok (.iconst 3, 1) := by decide +kernel
theorem dX9_told_79 : decode cX9_told 79 = .ok (.if_icmp .ne 11, 3) := by decide +kernel
theorem dX9_told_82 : decode cX9_told 82 = .ok (.aload_n 0, 1) := by decide +kernel
theorem dX9_told_83 : decode cX9_told 83 = .ok (.aload_n 3, 1) := by decide +kernel
theorem dX9_told_84 : decode cX9_told 84 = .ok (.invokevirtual 196, 3) := by decide +kernel
theorem dX9_told_87 : decode cX9_told 87 = .ok (.goto 8, 3) := by decide +kernel
theorem dX9_told_90 : decode cX9_told 90 = .ok (.aload_n 0, 1) := by decide +kernel
theorem dX9_told_91 : decode cX9_told 91 = .ok (.aload_n 3, 1) := by decide +kernel
theorem dX9_told_92 : decode cX9_told 92 = .ok (.invokevirtual 199, 3) := by decide +kernel
theorem dX9_told_95 : decode cX9_told 95 = .ok (.ireturn, 1) := by decide +kernel
theorem dX9_in_0 : decode cX9_in 0 = .ok (.iload_n 1, 1) := by decide +kernel
theorem dX9_in_1 : decode cX9_in 1 = .ok (.invokestatic 77, 3) := by decide +kernel
theorem dX9_in_4 : decode cX9_in 4 = .ok (.ifCond .ne 14, 3) := by decide +kernel
theorem dX9_in_7 : decode cX9_in 7 = .ok (.iload 4, 2) := by decide +kernel
theorem dX9_in_9 : decode cX9_in 9 = .ok (.ifCond .lt 9, 3) := by decide +kernel
theorem dX9_in_12 : decode cX9_in 12 = .ok (.iload 4, 2) := by decide +kernel
theorem dX9_in_14 : decode cX9_in 14 = .ok (.iconst 1, 1) := by decide +kernel
theorem dX9_in_15 : decode cX9_in 15 = .ok (.if_icmp .le 5, 3) := by decide +kernel
theorem dX9_in_18 : decode cX9_in 18 = .ok (.iconst (-1), 1) := by decide +kernel
theorem dX9_in_19 : decode cX9_in 19 = .ok (.ireturn, 1) := by decide +kernel
theorem dX9_in_20 : decode cX9_in 20 = .ok (.iload_n 2, 1) := by decide +kernel
theorem dX9_in_21 : decode cX9_in 21 = .ok (.iload_n 3, 1) := by decide +kernel
theorem dX9_in_22 : decode cX9_in 22 = .ok (.invokestatic 81, 3) := by decide +kernel
theorem dX9_in_25 : decode cX9_in 25 = .ok (.ifCond .eq 6, 3) := by decide +kernel
theorem dX9_in_28 : decode cX9_in 28 = .ok (.bipush (-2), 2) := by decide +kernel
theorem dX9_in_30 : decode cX9_in 30 = .ok (.ireturn, 1) := by decide +kernel
theorem dX9_in_31 : decode cX9_in 31 = .ok (.aload_n 0, 1) := by decide +kernel
theorem dX9_in_32 : decode cX9_in 32 = .ok (.getfield 12, 3) := by decide +kernel
theorem dX9_in_35 : decode cX9_in 35 = .ok (.iload_n 1, 1) := by decide +kernel
theorem dX9_in_36 : decode cX9_in 36 = .ok (.invokevirtual 85, 3) := by decide +kernel
theorem dX9_in_39 : decode cX9_in 39 = .ok (.astore 5, 2) := by decide +kernel
theorem dX9_in_41 : decode cX9_in 41 = .ok (.iload 4, 2) := by decide +kernel
theorem dX9_in_43 : decode cX9_in 43 = .ok (.ifCond .ne 19, 3) := by decide +kernel
theorem dX9_in_46 : decode cX9_in 46 = .ok (.aload 5, 2) := by decide +kernel
theorem dX9_in_48 : decode cX9_in 48 = .ok (.iload_n 2, 1) := by decide +kernel
theorem dX9_in_49 : decode cX9_in 49 = .ok (.iload_n 3, 1) := by decide +kernel
theorem dX9_in_50 : decode cX9_in 50 = .ok (.invokevirtual 202, 3) := by decide +kernel
theorem dX9_in_53 : decode cX9_in 53 = .ok (.ifCond .eq 7, 3) := by decide +kernel
theorem dX9_in_56 : decode cX9_in 56 = .ok (.iconst 1, 1) := by decide +kernel
theorem dX9_in_57 : decode cX9_in 57 = .ok (.goto 4, 3) := by decide +kernel
theorem dX9_in_60 : decode cX9_in 60 = .ok (.iconst 0, 1) := by decide +kernel
theorem dX9_in_61 : decode cX9_in 61 = .ok (.ireturn, 1) := by decide +kernel
theorem dX9_in_62 : decode cX9_in 62 = .ok (.aload 5, 2) := by decide +kernel
theorem dX9_in_64 : decode cX9_in 64 = .ok (.invokevirtual 93, 3) := by decide +kernel
theorem dX9_in_67 : decode cX9_in 67 = .ok (.ifCond .ne 6, 3) := by decide +kernel
theorem dX9_in_70 : decode cX9_in 70 = .ok (.bipush (-3), 2) := by decide +kernel
theorem dX9_in_72 : decode cX9_in 72 = .ok (.ireturn, 1) := by decide +kernel
theorem dX9_in_73 : decode cX9_in 73 = .ok (.aload_n 0, 1) := by decide +kernel
theorem dX9_in_74 : decode cX9_in 74 = .ok (.getfield 56, 3) := by decide +kernel
theorem dX9_in_77 : decode cX9_in 77 = .ok (.aload 5, 2) := by decide +kernel
theorem dX9_in_79 : decode cX9_in 79 = .ok (.invokevirtual 129, 3) := by decide +kernel
theorem dX9_in_82 : decode cX9_in 82 = .ok (.aload_n 0, 1) := by decide +kernel
theorem dX9_in_83 : decode cX9_in 83 = .ok (.getfield 56, 3) := by decide +kernel
theorem dX9_in_86 : decode cX9_in 86 = .ok (.iload_n 2, 1) := by decide +kernel
theorem dX9_in_87 : decode cX9_in 87 = .ok (.iload_n 3, 1) := by decide +kernel
theorem dX9_in_88 : decode cX9_in 88 = .ok (.invokevirtual 205, 3) := by decide +kernel
theorem dX9_in_91 : decode cX9_in 91 = .ok (.ifCond .eq 7, 3) := by decide +kernel
theorem dX9_in_94 : decode cX9_in 94 = .ok (.iconst 1, 1) := by decide +kernel
theorem dX9_in_95 : decode cX9_in 95 = .ok (.goto 4, 3) := by decide +kernel
theorem dX9_in_98 : decode cX9_in 98 = .ok (.iconst 0, 1) := by decide +kernel
theorem dX9_in_99 : decode cX9_in 99 = .ok (.ireturn, 1) := by decide +kernel
theorem dX9_face_0 : decode cX9_face 0 = .ok (.iload_n 1, 1) := by decide +kernel
theorem dX9_face_1 : decode cX9_face 1 = .ok (.invokestatic 77, 3) := by decide +kernel
theorem dX9_face_4 : decode cX9_face 4 = .ok (.ifCond .eq 5, 3) := by decide +kernel
theorem dX9_face_7 : decode cX9_face 7 = .ok (.iconst (-1), 1) := by decide +kernel
theorem dX9_face_8 : decode cX9_face 8 = .ok (.ireturn, 1) := by decide +kernel
theorem dX9_face_9 : decode cX9_face 9 = .ok (.aload_n 0, 1) := by decide +kernel
theorem dX9_face_10 : decode cX9_face 10 = .ok (.getfield 12, 3) := by decide +kernel
theorem dX9_face_13 : decode cX9_face 13 = .ok (.iload_n 1, 1) := by decide +kernel
theorem dX9_face_14 : decode cX9_face 14 = .ok (.invokevirtual 85, 3) := by decide +kernel
theorem dX9_face_17 : decode cX9_face 17 = .ok (.astore 4, 2) := by decide +kernel
theorem dX9_face_19 : decode cX9_face 19 = .ok (.aload 4, 2) := by decide +kernel
theorem dX9_face_21 : decode cX9_face 21 = .ok (.invokevirtual 93, 3) := by decide +kernel
theorem dX9_face_24 : decode cX9_face 24 = .ok (.ifCond .ne 6, 3) := by decide +kernel
theorem dX9_face_27 : decode cX9_face 27 = .ok (.bipush (-3), 2) := by decide +kernel
theorem dX9_face_29 : decode cX9_face 29 = .ok (.ireturn, 1) := by decide +kernel
theorem dX9_face_30 : decode cX9_face 30 = .ok (.aload_n 0, 1) := by decide +kernel
theorem dX9_face_31 : decode cX9_face 31 = .ok (.getfield 56, 3) := by decide +kernel
theorem dX9_face_34 : decode cX9_face 34 = .ok (.aload 4, 2) := by decide +kernel
theorem dX9_face_36 : decode cX9_face 36 = .ok (.invokevirtual 129, 3) := by decide +kernel
theorem dX9_face_39 : decode cX9_face 39 = .ok (.iload_n 2, 1) := by decide +kernel
theorem dX9_face_40 : decode cX9_face 40 = .ok (.ifCond .lt 23, 3) := by decide +kernel
theorem dX9_face_43 : decode cX9_face 43 = .ok (.iload_n 2, 1) := by decide +kernel
theorem dX9_face_44 : decode cX9_face 44 = .ok (.aload_n 0, 1) := by decide +kernel
theorem dX9_face_45 : decode cX9_face 45 = .ok (.getfield 56, 3) := by decide +kernel
theorem dX9_face_48 : decode cX9_face 48 = .ok (.invokevirtual 195, 3) := by decide +kernel
theorem dX9_face_51 : decode cX9_face 51 = .ok (.if_icmp .ge 12, 3) := by decide +kernel
theorem dX9_face_54 : decode cX9_face 54 = .ok (.iload_n 3, 1) := by decide +kernel
theorem dX9_face_55 : decode cX9_face 55 = .ok (.ifCond .lt 8, 3) := by decide +kernel
theorem dX9_face_58 : decode cX9_face 58 = .ok (.iload_n 3, 1) := by decide +kernel
theorem dX9_face_59 : decode cX9_face 59 = .ok (.iconst 2, 1) := by decide +kernel
theorem dX9_face_60 : decode cX9_face 60 = .ok (.if_icmp .le 5, 3) := by decide +kernel
theorem dX9_face_63 : decode cX9_face 63 = .ok (.iconst (-1), 1) := by decide +kernel
theorem dX9_face_64 : decode cX9_face 64 = .ok (.ireturn, 1) := by decide +kernel
theorem dX9_face_65 : decode cX9_face 65 = .ok (.iload_n 3, 1) := by decide +kernel
theorem dX9_face_66 : decode cX9_face 66 = .ok (.lookupswitch 44 #[(0, 26), (1, 35)], 26) := by decide +kernel
theorem dX9_face_92 : decode cX9_face 92 = .ok (.aload_n 0, 1) := by decide +kernel
theorem dX9_face_93 : decode cX9_face 93 = .ok (.getfield 56, 3) := by decide +kernel
theorem dX9_face_96 : decode cX9_face 96 = .ok (.iload_n 2, 1) := by decide +kernel
theorem dX9_face_97 : decode cX9_face 97 = .ok (.invokevirtual 208, 3) := by decide +kernel
theorem dX9_face_100 : decode cX9_face 100 = .ok (.ireturn, 1) := by decide +kernel
theorem dX9_face_101 : decode cX9_face 101 = .ok (.aload_n 0, 1) := by decide +kernel
theorem dX9_face_102 : decode cX9_face 102 = .ok (.getfield 56, 3) := by decide +kernel
theorem dX9_face_105 : decode cX9_face 105 = .ok (.iload_n 2, 1) := by decide +kernel
theorem dX9_face_106 : decode cX9_face 106 = .ok (.invokevirtual 211, 3) := by decide +kernel
theorem dX9_face_109 : decode cX9_face 109 = .ok (.ireturn, 1) := by decide +kernel
theorem dX9_face_110 : decode cX9_face 110 = .ok (.aload_n 0, 1) := by decide +kernel
theorem dX9_face_111 : decode cX9_face 111 = .ok (.getfield 56, 3) := by decide +kernel
theorem dX9_face_114 : decode cX9_face 114 = .ok (.iload_n 2, 1) := by decide +kernel
theorem dX9_face_115 : decode cX9_face 115 = .ok (.invokevirtual 214, 3) := by decide +kernel
theorem dX9_face_118 : decode cX9_face 118 = .ok (.ireturn, 1) := by decide +kernel
theorem dX9_held_0 : decode cX9_held 0 = .ok (.iload_n 1, 1) := by decide +kernel
theorem dX9_held_1 : decode cX9_held 1 = .ok (.invokestatic 77, 3) := by decide +kernel
theorem dX9_held_4 : decode cX9_held 4 = .ok (.ifCond .eq 5, 3) := by decide +kernel
theorem dX9_held_7 : decode cX9_held 7 = .ok (.iconst (-1), 1) := by decide +kernel
theorem dX9_held_8 : decode cX9_held 8 = .ok (.ireturn, 1) := by decide +kernel
theorem dX9_held_9 : decode cX9_held 9 = .ok (.iload_n 2, 1) := by decide +kernel
theorem dX9_held_10 : decode cX9_held 10 = .ok (.iload_n 3, 1) := by decide +kernel
theorem dX9_held_11 : decode cX9_held 11 = .ok (.invokestatic 81, 3) := by decide +kernel
theorem dX9_held_14 : decode cX9_held 14 = .ok (.ifCond .ne 13, 3) := by decide +kernel
theorem dX9_held_17 : decode cX9_held 17 = .ok (.iload 4, 2) := by decide +kernel
theorem dX9_held_19 : decode cX9_held 19 = .ok (.iload 5, 2) := by decide +kernel
theorem dX9_held_21 : decode cX9_held 21 = .ok (.invokestatic 217, 3) := by decide +kernel
theorem dX9_held_24 : decode cX9_held 24 = .ok (.ifCond .eq 6, 3) := by decide +kernel
theorem dX9_held_27 : decode cX9_held 27 = .ok (.bipush (-2), 2) := by decide +kernel
theorem dX9_held_29 : decode cX9_held 29 = .ok (.ireturn, 1) := by decide +kernel
theorem dX9_held_30 : decode cX9_held 30 = .ok (.aload_n 0, 1) := by decide +kernel
theorem dX9_held_31 : decode cX9_held 31 = .ok (.getfield 12, 3) := by decide +kernel
theorem dX9_held_34 : decode cX9_held 34 = .ok (.iload_n 1, 1) := by decide +kernel
theorem dX9_held_35 : decode cX9_held 35 = .ok (.invokevirtual 85, 3) := by decide +kernel
theorem dX9_held_38 : decode cX9_held 38 = .ok (.astore 6, 2) := by decide +kernel
theorem dX9_held_40 : decode cX9_held 40 = .ok (.aload 6, 2) := by decide +kernel
theorem dX9_held_42 : decode cX9_held 42 = .ok (.invokevirtual 93, 3) := by decide +kernel
theorem dX9_held_45 : decode cX9_held 45 = .ok (.ifCond .ne 6, 3) := by decide +kernel
theorem dX9_held_48 : decode cX9_held 48 = .ok (.bipush (-3), 2) := by decide +kernel
theorem dX9_held_50 : decode cX9_held 50 = .ok (.ireturn, 1) := by decide +kernel
theorem dX9_held_51 : decode cX9_held 51 = .ok (.aload_n 0, 1) := by decide +kernel
theorem dX9_held_52 : decode cX9_held 52 = .ok (.getfield 56, 3) := by decide +kernel
theorem dX9_held_55 : decode cX9_held 55 = .ok (.aload 6, 2) := by decide +kernel
theorem dX9_held_57 : decode cX9_held 57 = .ok (.invokevirtual 129, 3) := by decide +kernel
theorem dX9_held_60 : decode cX9_held 60 = .ok (.aload_n 0, 1) := by decide +kernel
theorem dX9_held_61 : decode cX9_held 61 = .ok (.getfield 56, 3) := by decide +kernel
theorem dX9_held_64 : decode cX9_held 64 = .ok (.iload_n 2, 1) := by decide +kernel
theorem dX9_held_65 : decode cX9_held 65 = .ok (.iload_n 3, 1) := by decide +kernel
theorem dX9_held_66 : decode cX9_held 66 = .ok (.iload 4, 2) := by decide +kernel
theorem dX9_held_68 : decode cX9_held 68 = .ok (.iload 5, 2) := by decide +kernel
theorem dX9_held_70 : decode cX9_held 70 = .ok (.invokevirtual 220, 3) := by decide +kernel
theorem dX9_held_73 : decode cX9_held 73 = .ok (.ifCond .ge 7, 3) := by decide +kernel
theorem dX9_held_76 : decode cX9_held 76 = .ok (.iconst 1, 1) := by decide +kernel
theorem dX9_held_77 : decode cX9_held 77 = .ok (.goto 4, 3) := by decide +kernel
theorem dX9_held_80 : decode cX9_held 80 = .ok (.iconst 0, 1) := by decide +kernel
theorem dX9_held_81 : decode cX9_held 81 = .ok (.ireturn, 1) := by decide +kernel
theorem dX9_reason_0 : decode cX9_reason 0 = .ok (.iload_n 1, 1) := by decide +kernel
theorem dX9_reason_1 : decode cX9_reason 1 = .ok (.invokestatic 77, 3) := by decide +kernel
theorem dX9_reason_4 : decode cX9_reason 4 = .ok (.ifCond .ne 14, 3) := by decide +kernel
theorem dX9_reason_7 : decode cX9_reason 7 = .ok (.iload 6, 2) := by decide +kernel
theorem dX9_reason_9 : decode cX9_reason 9 = .ok (.ifCond .lt 9, 3) := by decide +kernel
theorem dX9_reason_12 : decode cX9_reason 12 = .ok (.iload 6, 2) := by decide +kernel
theorem dX9_reason_14 : decode cX9_reason 14 = .ok (.iconst 4, 1) := by decide +kernel
theorem dX9_reason_15 : decode cX9_reason 15 = .ok (.if_icmp .le 5, 3) := by decide +kernel
theorem dX9_reason_18 : decode cX9_reason 18 = .ok (.iconst (-1), 1) := by decide +kernel
theorem dX9_reason_19 : decode cX9_reason 19 = .ok (.ireturn, 1) := by decide +kernel
theorem dX9_reason_20 : decode cX9_reason 20 = .ok (.iload_n 2, 1) := by decide +kernel
theorem dX9_reason_21 : decode cX9_reason 21 = .ok (.iload_n 3, 1) := by decide +kernel
theorem dX9_reason_22 : decode cX9_reason 22 = .ok (.invokestatic 81, 3) := by decide +kernel
theorem dX9_reason_25 : decode cX9_reason 25 = .ok (.ifCond .ne 13, 3) := by decide +kernel
theorem dX9_reason_28 : decode cX9_reason 28 = .ok (.iload 4, 2) := by decide +kernel
theorem dX9_reason_30 : decode cX9_reason 30 = .ok (.iload 5, 2) := by decide +kernel
theorem dX9_reason_32 : decode cX9_reason 32 = .ok (.invokestatic 217, 3) := by decide +kernel
theorem dX9_reason_35 : decode cX9_reason 35 = .ok (.ifCond .eq 6, 3) := by decide +kernel
theorem dX9_reason_38 : decode cX9_reason 38 = .ok (.bipush (-2), 2) := by decide +kernel
theorem dX9_reason_40 : decode cX9_reason 40 = .ok (.ireturn, 1) := by decide +kernel
theorem dX9_reason_41 : decode cX9_reason 41 = .ok (.aload_n 0, 1) := by decide +kernel
theorem dX9_reason_42 : decode cX9_reason 42 = .ok (.getfield 12, 3) := by decide +kernel
theorem dX9_reason_45 : decode cX9_reason 45 = .ok (.iload_n 1, 1) := by decide +kernel
theorem dX9_reason_46 : decode cX9_reason 46 = .ok (.invokevirtual 85, 3) := by decide +kernel
theorem dX9_reason_49 : decode cX9_reason 49 = .ok (.astore 7, 2) := by decide +kernel
theorem dX9_reason_51 : decode cX9_reason 51 = .ok (.aload 7, 2) := by decide +kernel
theorem dX9_reason_53 : decode cX9_reason 53 = .ok (.invokevirtual 93, 3) := by decide +kernel
theorem dX9_reason_56 : decode cX9_reason 56 = .ok (.ifCond .ne 6, 3) := by decide +kernel
theorem dX9_reason_59 : decode cX9_reason 59 = .ok (.bipush (-3), 2) := by decide +kernel
theorem dX9_reason_61 : decode cX9_reason 61 = .ok (.ireturn, 1) := by decide +kernel
theorem dX9_reason_62 : decode cX9_reason 62 = .ok (.aload_n 0, 1) := by decide +kernel
theorem dX9_reason_63 : decode cX9_reason 63 = .ok (.getfield 56, 3) := by decide +kernel
theorem dX9_reason_66 : decode cX9_reason 66 = .ok (.aload 7, 2) := by decide +kernel
theorem dX9_reason_68 : decode cX9_reason 68 = .ok (.invokevirtual 129, 3) := by decide +kernel
theorem dX9_reason_71 : decode cX9_reason 71 = .ok (.aload_n 0, 1) := by decide +kernel
theorem dX9_reason_72 : decode cX9_reason 72 = .ok (.getfield 56, 3) := by decide +kernel
theorem dX9_reason_75 : decode cX9_reason 75 = .ok (.iload_n 2, 1) := by decide +kernel
theorem dX9_reason_76 : decode cX9_reason 76 = .ok (.iload_n 3, 1) := by decide +kernel
theorem dX9_reason_77 : decode cX9_reason 77 = .ok (.iload 4, 2) := by decide +kernel
theorem dX9_reason_79 : decode cX9_reason 79 = .ok (.iload 5, 2) := by decide +kernel
theorem dX9_reason_81 : decode cX9_reason 81 = .ok (.invokevirtual 220, 3) := by decide +kernel
theorem dX9_reason_84 : decode cX9_reason 84 = .ok (.istore 8, 2) := by decide +kernel
theorem dX9_reason_86 : decode cX9_reason 86 = .ok (.iload 8, 2) := by decide +kernel
theorem dX9_reason_88 : decode cX9_reason 88 = .ok (.ifCond .ge 6, 3) := by decide +kernel
theorem dX9_reason_91 : decode cX9_reason 91 = .ok (.bipush (-5), 2) := by decide +kernel
theorem dX9_reason_93 : decode cX9_reason 93 = .ok (.ireturn, 1) := by decide +kernel
theorem dX9_reason_94 : decode cX9_reason 94 = .ok (.iload 6, 2) := by decide +kernel
theorem dX9_reason_96 : decode cX9_reason 96 = .ok (.tableswitch 64 0 3 #[32, 35, 51, 61], 32) := by decide +kernel
theorem dX9_reason_128 : decode cX9_reason 128 = .ok (.iload 8, 2) := by decide +kernel
theorem dX9_reason_130 : decode cX9_reason 130 = .ok (.ireturn, 1) := by decide +kernel
theorem dX9_reason_131 : decode cX9_reason 131 = .ok (.aload_n 0, 1) := by decide +kernel
theorem dX9_reason_132 : decode cX9_reason 132 = .ok (.getfield 56, 3) := by decide +kernel
theorem dX9_reason_135 : decode cX9_reason 135 = .ok (.iload 8, 2) := by decide +kernel
theorem dX9_reason_137 : decode cX9_reason 137 = .ok (.iload_n 2, 1) := by decide +kernel
theorem dX9_reason_138 : decode cX9_reason 138 = .ok (.iconst 1, 1) := by decide +kernel
theorem dX9_reason_139 : decode cX9_reason 139 = .ok (.iadd, 1) := by decide +kernel
theorem dX9_reason_140 : decode cX9_reason 140 = .ok (.iload_n 3, 1) := by decide +kernel
theorem dX9_reason_141 : decode cX9_reason 141 = .ok (.iconst 1, 1) := by decide +kernel
theorem dX9_reason_142 : decode cX9_reason 142 = .ok (.iadd, 1) := by decide +kernel
theorem dX9_reason_143 : decode cX9_reason 143 = .ok (.invokevirtual 224, 3) := by decide +kernel
theorem dX9_reason_146 : decode cX9_reason 146 = .ok (.ireturn, 1) := by decide +kernel
theorem dX9_reason_147 : decode cX9_reason 147 = .ok (.aload_n 0, 1) := by decide +kernel
theorem dX9_reason_148 : decode cX9_reason 148 = .ok (.getfield 56, 3) := by decide +kernel
theorem dX9_reason_151 : decode cX9_reason 151 = .ok (.iload 8, 2) := by decide +kernel
theorem dX9_reason_153 : decode cX9_reason 153 = .ok (.invokevirtual 214, 3) := by decide +kernel
theorem dX9_reason_156 : decode cX9_reason 156 = .ok (.ireturn, 1) := by decide +kernel
theorem dX9_reason_157 : decode cX9_reason 157 = .ok (.iload 4, 2) := by decide +kernel
theorem dX9_reason_159 : decode cX9_reason 159 = .ok (.ireturn, 1) := by decide +kernel
theorem dX9_reason_160 : decode cX9_reason 160 = .ok (.iload 5, 2) := by decide +kernel
theorem dX9_reason_162 : decode cX9_reason 162 = .ok (.ireturn, 1) := by decide +kernel
theorem dX9_jump_0 : decode cX9_jump 0 = .ok (.iload_n 1, 1) := by decide +kernel
theorem dX9_jump_1 : decode cX9_jump 1 = .ok (.invokestatic 77, 3) := by decide +kernel
theorem dX9_jump_4 : decode cX9_jump 4 = .ok (.ifCond .ne 19, 3) := by decide +kernel
theorem dX9_jump_7 : decode cX9_jump 7 = .ok (.iload_n 2, 1) := by decide +kernel
theorem dX9_jump_8 : decode cX9_jump 8 = .ok (.iload_n 3, 1) := by decide +kernel
theorem dX9_jump_9 : decode cX9_jump 9 = .ok (.invokestatic 81, 3) := by decide +kernel
theorem dX9_jump_12 : decode cX9_jump 12 = .ok (.ifCond .ne 11, 3) := by decide +kernel
theorem dX9_jump_15 : decode cX9_jump 15 = .ok (.iload 4, 2) := by decide +kernel
theorem dX9_jump_17 : decode cX9_jump 17 = .ok (.invokestatic 227, 3) := by decide +kernel
theorem dX9_jump_20 : decode cX9_jump 20 = .ok (.ifCond .eq 7, 3) := by decide +kernel
theorem dX9_jump_23 : decode cX9_jump 23 = .ok (.ldc2_w 230, 3) := by decide +kernel
theorem dX9_jump_26 : decode cX9_jump 26 = .ok (.lreturn, 1) := by decide +kernel
theorem dX9_jump_27 : decode cX9_jump 27 = .ok (.aload_n 0, 1) := by decide +kernel
theorem dX9_jump_28 : decode cX9_jump 28 = .ok (.getfield 12, 3) := by decide +kernel
theorem dX9_jump_31 : decode cX9_jump 31 = .ok (.iload_n 1, 1) := by decide +kernel
theorem dX9_jump_32 : decode cX9_jump 32 = .ok (.invokevirtual 85, 3) := by decide +kernel
theorem dX9_jump_35 : decode cX9_jump 35 = .ok (.astore 5, 2) := by decide +kernel
theorem dX9_jump_37 : decode cX9_jump 37 = .ok (.aload 5, 2) := by decide +kernel
theorem dX9_jump_39 : decode cX9_jump 39 = .ok (.invokevirtual 93, 3) := by decide +kernel
theorem dX9_jump_42 : decode cX9_jump 42 = .ok (.ifCond .ne 7, 3) := by decide +kernel
theorem dX9_jump_45 : decode cX9_jump 45 = .ok (.ldc2_w 230, 3) := by decide +kernel
theorem dX9_jump_48 : decode cX9_jump 48 = .ok (.lreturn, 1) := by decide +kernel
theorem dX9_jump_49 : decode cX9_jump 49 = .ok (.aload_n 0, 1) := by decide +kernel
theorem dX9_jump_50 : decode cX9_jump 50 = .ok (.getfield 56, 3) := by decide +kernel
theorem dX9_jump_53 : decode cX9_jump 53 = .ok (.aload 5, 2) := by decide +kernel
theorem dX9_jump_55 : decode cX9_jump 55 = .ok (.invokevirtual 129, 3) := by decide +kernel
theorem dX9_jump_58 : decode cX9_jump 58 = .ok (.aload_n 0, 1) := by decide +kernel
theorem dX9_jump_59 : decode cX9_jump 59 = .ok (.getfield 56, 3) := by decide +kernel
theorem dX9_jump_62 : decode cX9_jump 62 = .ok (.iload_n 2, 1) := by decide +kernel
theorem dX9_jump_63 : decode cX9_jump 63 = .ok (.iload_n 3, 1) := by decide +kernel
theorem dX9_jump_64 : decode cX9_jump 64 = .ok (.invokevirtual 232, 3) := by decide +kernel
theorem dX9_jump_67 : decode cX9_jump 67 = .ok (.istore 6, 2) := by decide +kernel
theorem dX9_jump_69 : decode cX9_jump 69 = .ok (.iload 6, 2) := by decide +kernel
theorem dX9_jump_71 : decode cX9_jump 71 = .ok (.ifCond .ge 7, 3) := by decide +kernel
theorem dX9_jump_74 : decode cX9_jump 74 = .ok (.ldc2_w 230, 3) := by decide +kernel
theorem dX9_jump_77 : decode cX9_jump 77 = .ok (.lreturn, 1) := by decide +kernel
theorem dX9_jump_78 : decode cX9_jump 78 = .ok (.aload_n 0, 1) := by decide +kernel
theorem dX9_jump_79 : decode cX9_jump 79 = .ok (.getfield 56, 3) := by decide +kernel
theorem dX9_jump_82 : decode cX9_jump 82 = .ok (.iload 6, 2) := by decide +kernel
theorem dX9_jump_84 : decode cX9_jump 84 = .ok (.iload_n 2, 1) := by decide +kernel
theorem dX9_jump_85 : decode cX9_jump 85 = .ok (.iconst 1, 1) := by decide +kernel
theorem dX9_jump_86 : decode cX9_jump 86 = .ok (.iadd, 1) := by decide +kernel
theorem dX9_jump_87 : decode cX9_jump 87 = .ok (.iload_n 3, 1) := by decide +kernel
theorem dX9_jump_88 : decode cX9_jump 88 = .ok (.iconst 1, 1) := by decide +kernel
theorem dX9_jump_89 : decode cX9_jump 89 = .ok (.iadd, 1) := by decide +kernel
theorem dX9_jump_90 : decode cX9_jump 90 = .ok (.invokevirtual 224, 3) := by decide +kernel
theorem dX9_jump_93 : decode cX9_jump 93 = .ok (.aload_n 0, 1) := by decide +kernel
theorem dX9_jump_94 : decode cX9_jump 94 = .ok (.getfield 56, 3) := by decide +kernel
theorem dX9_jump_97 : decode cX9_jump 97 = .ok (.iload 6, 2) := by decide +kernel
theorem dX9_jump_99 : decode cX9_jump 99 = .ok (.invokevirtual 214, 3) := by decide +kernel
theorem dX9_jump_102 : decode cX9_jump 102 = .ok (.iload 4, 2) := by decide +kernel
theorem dX9_jump_104 : decode cX9_jump 104 = .ok (.invokestatic 235, 3) := by decide +kernel
theorem dX9_jump_107 : decode cX9_jump 107 = .ok (.lreturn, 1) := by decide +kernel
theorem dX9_jumps_0 : decode cX9_jumps 0 = .ok (.iload_n 1, 1) := by decide +kernel
theorem dX9_jumps_1 : decode cX9_jumps 1 = .ok (.invokestatic 77, 3) := by decide +kernel
theorem dX9_jumps_4 : decode cX9_jumps 4 = .ok (.ifCond .ne 10, 3) := by decide +kernel
theorem dX9_jumps_7 : decode cX9_jumps 7 = .ok (.iload_n 3, 1) := by decide +kernel
theorem dX9_jumps_8 : decode cX9_jumps 8 = .ok (.invokestatic 227, 3) := by decide +kernel
theorem dX9_jumps_11 : decode cX9_jumps 11 = .ok (.ifCond .eq 7, 3) := by decide +kernel
theorem dX9_jumps_14 : decode cX9_jumps 14 = .ok (.ldc2_w 230, 3) := by decide +kernel
theorem dX9_jumps_17 : decode cX9_jumps 17 = .ok (.lreturn, 1) := by decide +kernel
theorem dX9_jumps_18 : decode cX9_jumps 18 = .ok (.aload_n 0, 1) := by decide +kernel
theorem dX9_jumps_19 : decode cX9_jumps 19 = .ok (.getfield 12, 3) := by decide +kernel
theorem dX9_jumps_22 : decode cX9_jumps 22 = .ok (.iload_n 1, 1) := by decide +kernel
theorem dX9_jumps_23 : decode cX9_jumps 23 = .ok (.invokevirtual 85, 3) := by decide +kernel
theorem dX9_jumps_26 : decode cX9_jumps 26 = .ok (.astore 4, 2) := by decide +kernel
theorem dX9_jumps_28 : decode cX9_jumps 28 = .ok (.aload 4, 2) := by decide +kernel
theorem dX9_jumps_30 : decode cX9_jumps 30 = .ok (.invokevirtual 93, 3) := by decide +kernel
theorem dX9_jumps_33 : decode cX9_jumps 33 = .ok (.ifCond .eq 17, 3) := by decide +kernel
theorem dX9_jumps_36 : decode cX9_jumps 36 = .ok (.iload_n 2, 1) := by decide +kernel
theorem dX9_jumps_37 : decode cX9_jumps 37 = .ok (.ifCond .lt 13, 3) := by decide +kernel
theorem dX9_jumps_40 : decode cX9_jumps 40 = .ok (.iload_n 2, 1) := by decide +kernel
theorem dX9_jumps_41 : decode cX9_jumps 41 = .ok (.aload_n 0, 1) := by decide +kernel
theorem dX9_jumps_42 : decode cX9_jumps 42 = .ok (.aload 4, 2) := by decide +kernel
theorem dX9_jumps_44 : decode cX9_jumps 44 = .ok (.invokevirtual 199, 3) := by decide +kernel
theorem dX9_jumps_47 : decode cX9_jumps 47 = .ok (.if_icmp .lt 7, 3) := by decide +kernel
theorem dX9_jumps_50 : decode cX9_jumps 50 = .ok (.ldc2_w 230, 3) := by decide +kernel
theorem dX9_jumps_53 : decode cX9_jumps 53 = .ok (.lreturn, 1) := by decide +kernel
theorem dX9_jumps_54 : decode cX9_jumps 54 = .ok (.aload_n 0, 1) := by decide +kernel
theorem dX9_jumps_55 : decode cX9_jumps 55 = .ok (.getfield 63, 3) := by decide +kernel
theorem dX9_jumps_58 : decode cX9_jumps 58 = .ok (.iload_n 2, 1) := by decide +kernel
theorem dX9_jumps_59 : decode cX9_jumps 59 = .ok (.invokevirtual 239, 3) := by decide +kernel
theorem dX9_jumps_62 : decode cX9_jumps 62 = .ok (.aload_n 0, 1) := by decide +kernel
theorem dX9_jumps_63 : decode cX9_jumps 63 = .ok (.getfield 63, 3) := by decide +kernel
theorem dX9_jumps_66 : decode cX9_jumps 66 = .ok (.iload_n 2, 1) := by decide +kernel
theorem dX9_jumps_67 : decode cX9_jumps 67 = .ok (.invokevirtual 242, 3) := by decide +kernel
theorem dX9_jumps_70 : decode cX9_jumps 70 = .ok (.iload_n 3, 1) := by decide +kernel
theorem dX9_jumps_71 : decode cX9_jumps 71 = .ok (.invokestatic 235, 3) := by decide +kernel
theorem dX9_jumps_74 : decode cX9_jumps 74 = .ok (.lreturn, 1) := by decide +kernel
theorem dX9_lacks_0 : decode cX9_lacks 0 = .ok (.iload_n 1, 1) := by decide +kernel
theorem dX9_lacks_1 : decode cX9_lacks 1 = .ok (.invokestatic 77, 3) := by decide +kernel
theorem dX9_lacks_4 : decode cX9_lacks 4 = .ok (.ifCond .eq 5, 3) := by decide +kernel
theorem dX9_lacks_7 : decode cX9_lacks 7 = .ok (.iconst (-1), 1) := by decide +kernel
theorem dX9_lacks_8 : decode cX9_lacks 8 = .ok (.ireturn, 1) := by decide +kernel
theorem dX9_lacks_9 : decode cX9_lacks 9 = .ok (.iload_n 2, 1) := by decide +kernel
theorem dX9_lacks_10 : decode cX9_lacks 10 = .ok (.iload_n 3, 1) := by decide +kernel
theorem dX9_lacks_11 : decode cX9_lacks 11 = .ok (.invokestatic 217, 3) := by decide +kernel
theorem dX9_lacks_14 : decode cX9_lacks 14 = .ok (.ifCond .eq 6, 3) := by decide +kernel
theorem dX9_lacks_17 : decode cX9_lacks 17 = .ok (.bipush (-2), 2) := by decide +kernel
theorem dX9_lacks_19 : decode cX9_lacks 19 = .ok (.ireturn, 1) := by decide +kernel
theorem dX9_lacks_20 : decode cX9_lacks 20 = .ok (.aload_n 0, 1) := by decide +kernel
theorem dX9_lacks_21 : decode cX9_lacks 21 = .ok (.getfield 12, 3) := by decide +kernel
theorem dX9_lacks_24 : decode cX9_lacks 24 = .ok (.iload_n 1, 1) := by decide +kernel
theorem dX9_lacks_25 : decode cX9_lacks 25 = .ok (.invokevirtual 85, 3) := by decide +kernel
theorem dX9_lacks_28 : decode cX9_lacks 28 = .ok (.astore 4, 2) := by decide +kernel
theorem dX9_lacks_30 : decode cX9_lacks 30 = .ok (.aload 4, 2) := by decide +kernel
theorem dX9_lacks_32 : decode cX9_lacks 32 = .ok (.invokevirtual 93, 3) := by decide +kernel
theorem dX9_lacks_35 : decode cX9_lacks 35 = .ok (.ifCond .ne 6, 3) := by decide +kernel
theorem dX9_lacks_38 : decode cX9_lacks 38 = .ok (.bipush (-3), 2) := by decide +kernel
theorem dX9_lacks_40 : decode cX9_lacks 40 = .ok (.ireturn, 1) := by decide +kernel
theorem dX9_lacks_41 : decode cX9_lacks 41 = .ok (.aload_n 0, 1) := by decide +kernel
theorem dX9_lacks_42 : decode cX9_lacks 42 = .ok (.aload 4, 2) := by decide +kernel
theorem dX9_lacks_44 : decode cX9_lacks 44 = .ok (.iload_n 2, 1) := by decide +kernel
theorem dX9_lacks_45 : decode cX9_lacks 45 = .ok (.iload_n 3, 1) := by decide +kernel
theorem dX9_lacks_46 : decode cX9_lacks 46 = .ok (.invokevirtual 245, 3) := by decide +kernel
theorem dX9_lacks_49 : decode cX9_lacks 49 = .ok (.ireturn, 1) := by decide +kernel
theorem dX9_height_0 : decode cX9_height 0 = .ok (.iload_n 1, 1) := by decide +kernel
theorem dX9_height_1 : decode cX9_height 1 = .ok (.invokestatic 77, 3) := by decide +kernel
theorem dX9_height_4 : decode cX9_height 4 = .ok (.ifCond .ne 10, 3) := by decide +kernel
theorem dX9_height_7 : decode cX9_height 7 = .ok (.iload_n 2, 1) := by decide +kernel
theorem dX9_height_8 : decode cX9_height 8 = .ok (.invokestatic 249, 3) := by decide +kernel
theorem dX9_height_11 : decode cX9_height 11 = .ok (.ifCond .eq 5, 3) := by decide +kernel
theorem dX9_height_14 : decode cX9_height 14 = .ok (.iconst (-1), 1) := by decide +kernel
theorem dX9_height_15 : decode cX9_height 15 = .ok (.ireturn, 1) := by decide +kernel
theorem dX9_height_16 : decode cX9_height 16 = .ok (.iload_n 3, 1) := by decide +kernel
theorem dX9_height_17 : decode cX9_height 17 = .ok (.ifCond .lt 9, 3) := by decide +kernel
theorem dX9_height_20 : decode cX9_height 20 = .ok (.iload_n 3, 1) := by decide +kernel
theorem dX9_height_21 : decode cX9_height 21 = .ok (.bipush 60, 2) := by decide +kernel
theorem dX9_height_23 : decode cX9_height 23 = .ok (.if_icmp .le 6, 3) := by decide +kernel
theorem dX9_height_26 : decode cX9_height 26 = .ok (.bipush (-2), 2) := by decide +kernel
theorem dX9_height_28 : decode cX9_height 28 = .ok (.ireturn, 1) := by decide +kernel
theorem dX9_height_29 : decode cX9_height 29 = .ok (.iload_n 2, 1) := by decide +kernel
theorem dX9_height_30 : decode cX9_height 30 = .ok (.ifCond .ne 16, 3) := by decide +kernel
theorem dX9_height_33 : decode cX9_height 33 = .ok (.aload_n 0, 1) := by decide +kernel
theorem dX9_height_34 : decode cX9_height 34 = .ok (.getfield 12, 3) := by decide +kernel
theorem dX9_height_37 : decode cX9_height 37 = .ok (.iload_n 1, 1) := by decide +kernel
theorem dX9_height_38 : decode cX9_height 38 = .ok (.invokevirtual 85, 3) := by decide +kernel
theorem dX9_height_41 : decode cX9_height 41 = .ok (.iload_n 3, 1) := by decide +kernel
theorem dX9_height_42 : decode cX9_height 42 = .ok (.invokevirtual 252, 3) := by decide +kernel
theorem dX9_height_45 : decode cX9_height 45 = .ok (.ireturn, 1) := by decide +kernel
theorem dX9_height_46 : decode cX9_height 46 = .ok (.iload_n 2, 1) := by decide +kernel
theorem dX9_height_47 : decode cX9_height 47 = .ok (.iconst 1, 1) := by decide +kernel
theorem dX9_height_48 : decode cX9_height 48 = .ok (.if_icmp .ne 31, 3) := by decide +kernel
theorem dX9_height_51 : decode cX9_height 51 = .ok (.aload_n 0, 1) := by decide +kernel
theorem dX9_height_52 : decode cX9_height 52 = .ok (.getfield 12, 3) := by decide +kernel
theorem dX9_height_55 : decode cX9_height 55 = .ok (.iconst 0, 1) := by decide +kernel
theorem dX9_height_56 : decode cX9_height 56 = .ok (.invokevirtual 85, 3) := by decide +kernel
theorem dX9_height_59 : decode cX9_height 59 = .ok (.iload_n 3, 1) := by decide +kernel
theorem dX9_height_60 : decode cX9_height 60 = .ok (.invokevirtual 252, 3) := by decide +kernel
theorem dX9_height_63 : decode cX9_height 63 = .ok (.aload_n 0, 1) := by decide +kernel
theorem dX9_height_64 : decode cX9_height 64 = .ok (.getfield 12, 3) := by decide +kernel
theorem dX9_height_67 : decode cX9_height 67 = .ok (.iconst 1, 1) := by decide +kernel
theorem dX9_height_68 : decode cX9_height 68 = .ok (.invokevirtual 85, 3) := by decide +kernel
theorem dX9_height_71 : decode cX9_height 71 = .ok (.iload_n 3, 1) := by decide +kernel
theorem dX9_height_72 : decode cX9_height 72 = .ok (.invokevirtual 252, 3) := by decide +kernel
theorem dX9_height_75 : decode cX9_height 75 = .ok (.invokestatic 255, 3) := by decide +kernel
theorem dX9_height_78 : decode cX9_height 78 = .ok (.ireturn, 1) := by decide +kernel
theorem dX9_height_79 : decode cX9_height 79 = .ok (.aload_n 0, 1) := by decide +kernel
theorem dX9_height_80 : decode cX9_height 80 = .ok (.getfield 70, 3) := by decide +kernel
theorem dX9_height_83 : decode cX9_height 83 = .ok (.invokevirtual 258, 3) := by decide +kernel
theorem dX9_height_86 : decode cX9_height 86 = .ok (.iload_n 2, 1) := by decide +kernel
theorem dX9_height_87 : decode cX9_height 87 = .ok (.iconst 2, 1) := by decide +kernel
theorem dX9_height_88 : decode cX9_height 88 = .ok (.if_icmp .ne 36, 3) := by decide +kernel
theorem dX9_height_91 : decode cX9_height 91 = .ok (.aload_n 0, 1) := by decide +kernel
theorem dX9_height_92 : decode cX9_height 92 = .ok (.getfield 70, 3) := by decide +kernel
theorem dX9_height_95 : decode cX9_height 95 = .ok (.aload_n 0, 1) := by decide +kernel
theorem dX9_height_96 : decode cX9_height 96 = .ok (.getfield 12, 3) := by decide +kernel
theorem dX9_height_99 : decode cX9_height 99 = .ok (.iconst 0, 1) := by decide +kernel
theorem dX9_height_100 : decode cX9_height 100 = .ok (.invokevirtual 85, 3) := by decide +kernel
theorem dX9_height_103 : decode cX9_height 103 = .ok (.invokevirtual 261, 3) := by decide +kernel
theorem dX9_height_106 : decode cX9_height 106 = .ok (.aload_n 0, 1) := by decide +kernel
theorem dX9_height_107 : decode cX9_height 107 = .ok (.getfield 70, 3) := by decide +kernel
theorem dX9_height_110 : decode cX9_height 110 = .ok (.aload_n 0, 1) := by decide +kernel
theorem dX9_height_111 : decode cX9_height 111 = .ok (.getfield 12, 3) := by decide +kernel
theorem dX9_height_114 : decode cX9_height 114 = .ok (.iconst 1, 1) := by decide +kernel
theorem dX9_height_115 : decode cX9_height 115 = .ok (.invokevirtual 85, 3) := by decide +kernel
theorem dX9_height_118 : decode cX9_height 118 = .ok (.invokevirtual 261, 3) := by decide +kernel
theorem dX9_height_121 : decode cX9_height 121 = .ok (.goto 34, 3) := by decide +kernel
theorem dX9_height_124 : decode cX9_height 124 = .ok (.bipush 10, 2) := by decide +kernel
theorem dX9_height_126 : decode cX9_height 126 = .ok (.istore 4, 2) := by decide +kernel
theorem dX9_height_128 : decode cX9_height 128 = .ok (.iload 4, 2) := by decide +kernel
theorem dX9_height_130 : decode cX9_height 130 = .ok (.iload_n 2, 1) := by decide +kernel
theorem dX9_height_131 : decode cX9_height 131 = .ok (.if_icmp .ge 24, 3) := by decide +kernel
theorem dX9_height_134 : decode cX9_height 134 = .ok (.aload_n 0, 1) := by decide +kernel
theorem dX9_height_135 : decode cX9_height 135 = .ok (.getfield 70, 3) := by decide +kernel
theorem dX9_height_138 : decode cX9_height 138 = .ok (.aload_n 0, 1) := by decide +kernel
theorem dX9_height_139 : decode cX9_height 139 = .ok (.getfield 12, 3) := by decide +kernel
theorem dX9_height_142 : decode cX9_height 142 = .ok (.iload_n 1, 1) := by decide +kernel
theorem dX9_height_143 : decode cX9_height 143 = .ok (.invokevirtual 85, 3) := by decide +kernel
theorem dX9_height_146 : decode cX9_height 146 = .ok (.invokevirtual 261, 3) := by decide +kernel
theorem dX9_height_149 : decode cX9_height 149 = .ok (.iinc 4 1, 3) := by decide +kernel
theorem dX9_height_152 : decode cX9_height 152 = .ok (.goto (-24), 3) := by decide +kernel
theorem dX9_height_155 : decode cX9_height 155 = .ok (.aload_n 0, 1) := by decide +kernel
theorem dX9_height_156 : decode cX9_height 156 = .ok (.getfield 70, 3) := by decide +kernel
theorem dX9_height_159 : decode cX9_height 159 = .ok (.iload_n 3, 1) := by decide +kernel
theorem dX9_height_160 : decode cX9_height 160 = .ok (.invokevirtual 264, 3) := by decide +kernel
theorem dX9_height_163 : decode cX9_height 163 = .ok (.ireturn, 1) := by decide +kernel
theorem dX9_reduces_0 : decode cX9_reduces 0 = .ok (.iload_n 1, 1) := by decide +kernel
theorem dX9_reduces_1 : decode cX9_reduces 1 = .ok (.ifCond .lt 8, 3) := by decide +kernel
theorem dX9_reduces_4 : decode cX9_reduces 4 = .ok (.iload_n 1, 1) := by decide +kernel
theorem dX9_reduces_5 : decode cX9_reduces 5 = .ok (.iconst 1, 1) := by decide +kernel
theorem dX9_reduces_6 : decode cX9_reduces 6 = .ok (.if_icmp .le 5, 3) := by decide +kernel
theorem dX9_reduces_9 : decode cX9_reduces 9 = .ok (.iconst (-1), 1) := by decide +kernel
theorem dX9_reduces_10 : decode cX9_reduces 10 = .ok (.ireturn, 1) := by decide +kernel
theorem dX9_reduces_11 : decode cX9_reduces 11 = .ok (.iload_n 1, 1) := by decide +kernel
theorem dX9_reduces_12 : decode cX9_reduces 12 = .ok (.ifCond .ne 10, 3) := by decide +kernel
theorem dX9_reduces_15 : decode cX9_reduces 15 = .ok (.aload_n 0, 1) := by decide +kernel
theorem dX9_reduces_16 : decode cX9_reduces 16 = .ok (.invokevirtual 267, 3) := by decide +kernel
theorem dX9_reduces_19 : decode cX9_reduces 19 = .ok (.goto 7, 3) := by decide +kernel
theorem dX9_reduces_22 : decode cX9_reduces 22 = .ok (.aload_n 0, 1) := by decide +kernel
theorem dX9_reduces_23 : decode cX9_reduces 23 = .ok (.invokevirtual 270, 3) := by decide +kernel
theorem dX9_reduces_26 : decode cX9_reduces 26 = .ok (.ireturn, 1) := by decide +kernel
theorem dX9_see_0 : decode cX9_see 0 = .ok (.iload_n 1, 1) := by decide +kernel
theorem dX9_see_1 : decode cX9_see 1 = .ok (.iconst (-1), 1) := by decide +kernel
theorem dX9_see_2 : decode cX9_see 2 = .ok (.if_icmp .ne 15, 3) := by decide +kernel
theorem dX9_see_5 : decode cX9_see 5 = .ok (.aload_n 0, 1) := by decide +kernel
theorem dX9_see_6 : decode cX9_see 6 = .ok (.getfield 12, 3) := by decide +kernel
theorem dX9_see_9 : decode cX9_see 9 = .ok (.getfield 273, 3) := by decide +kernel
theorem dX9_see_12 : decode cX9_see 12 = .ok (.invokevirtual 277, 3) := by decide +kernel
theorem dX9_see_15 : decode cX9_see 15 = .ok (.iconst 0, 1) := by decide +kernel
theorem dX9_see_16 : decode cX9_see 16 = .ok (.ireturn, 1) := by decide +kernel
theorem dX9_see_17 : decode cX9_see 17 = .ok (.iload_n 1, 1) := by decide +kernel
theorem dX9_see_18 : decode cX9_see 18 = .ok (.ifCond .lt 9, 3) := by decide +kernel
theorem dX9_see_21 : decode cX9_see 21 = .ok (.iload_n 1, 1) := by decide +kernel
theorem dX9_see_22 : decode cX9_see 22 = .ok (.bipush 99, 2) := by decide +kernel
theorem dX9_see_24 : decode cX9_see 24 = .ok (.if_icmp .le 5, 3) := by decide +kernel
theorem dX9_see_27 : decode cX9_see 27 = .ok (.iconst (-1), 1) := by decide +kernel
theorem dX9_see_28 : decode cX9_see 28 = .ok (.ireturn, 1) := by decide +kernel
theorem dX9_see_29 : decode cX9_see 29 = .ok (.iload_n 2, 1) := by decide +kernel
theorem dX9_see_30 : decode cX9_see 30 = .ok (.iload_n 3, 1) := by decide +kernel
theorem dX9_see_31 : decode cX9_see 31 = .ok (.invokestatic 217, 3) := by decide +kernel
theorem dX9_see_34 : decode cX9_see 34 = .ok (.ifCond .eq 6, 3) := by decide +kernel
theorem dX9_see_37 : decode cX9_see 37 = .ok (.bipush (-2), 2) := by decide +kernel
theorem dX9_see_39 : decode cX9_see 39 = .ok (.ireturn, 1) := by decide +kernel
theorem dX9_see_40 : decode cX9_see 40 = .ok (.aload_n 0, 1) := by decide +kernel
theorem dX9_see_41 : decode cX9_see 41 = .ok (.getfield 12, 3) := by decide +kernel
theorem dX9_see_44 : decode cX9_see 44 = .ok (.getfield 273, 3) := by decide +kernel
theorem dX9_see_47 : decode cX9_see 47 = .ok (.iload_n 1, 1) := by decide +kernel
theorem dX9_see_48 : decode cX9_see 48 = .ok (.iload_n 2, 1) := by decide +kernel
theorem dX9_see_49 : decode cX9_see 49 = .ok (.iload_n 3, 1) := by decide +kernel
theorem dX9_see_50 : decode cX9_see 50 = .ok (.invokevirtual 280, 3) := by decide +kernel
theorem dX9_see_53 : decode cX9_see 53 = .ok (.ireturn, 1) := by decide +kernel
theorem dX9_fits_0 : decode cX9_fits 0 = .ok (.aload_n 0, 1) := by decide +kernel
theorem dX9_fits_1 : decode cX9_fits 1 = .ok (.iload_n 1, 1) := by decide +kernel
theorem dX9_fits_2 : decode cX9_fits 2 = .ok (.iload_n 2, 1) := by decide +kernel
theorem dX9_fits_3 : decode cX9_fits 3 = .ok (.invokevirtual 105, 3) := by decide +kernel
theorem dX9_fits_6 : decode cX9_fits 6 = .ok (.ifCond .ne 23, 3) := by decide +kernel
theorem dX9_fits_9 : decode cX9_fits 9 = .ok (.iload_n 3, 1) := by decide +kernel
theorem dX9_fits_10 : decode cX9_fits 10 = .ok (.ifCond .lt 19, 3) := by decide +kernel
theorem dX9_fits_13 : decode cX9_fits 13 = .ok (.iload_n 3, 1) := by decide +kernel
theorem dX9_fits_14 : decode cX9_fits 14 = .ok (.iconst 1, 1) := by decide +kernel
theorem dX9_fits_15 : decode cX9_fits 15 = .ok (.if_icmp .gt 14, 3) := by decide +kernel
theorem dX9_fits_18 : decode cX9_fits 18 = .ok (.iload 4, 2) := by decide +kernel
theorem dX9_fits_20 : decode cX9_fits 20 = .ok (.ifCond .lt 9, 3) := by decide +kernel
theorem dX9_fits_23 : decode cX9_fits 23 = .ok (.iload 4, 2) := by decide +kernel
theorem dX9_fits_25 : decode cX9_fits 25 = .ok (.iconst 1, 1) := by decide +kernel
theorem dX9_fits_26 : decode cX9_fits 26 = .ok (.if_icmp .le 5, 3) := by decide +kernel
theorem dX9_fits_29 : decode cX9_fits 29 = .ok (.iconst (-1), 1) := by decide +kernel
theorem dX9_fits_30 : decode cX9_fits 30 = .ok (.ireturn, 1) := by decide +kernel
theorem dX9_fits_31 : decode cX9_fits 31 = .ok (.iconst 0, 1) := by decide +kernel
theorem dX9_fits_32 : decode cX9_fits 32 = .ok (.istore 5, 2) := by decide +kernel
theorem dX9_fits_34 : decode cX9_fits 34 = .ok (.bipush (-5), 2) := by decide +kernel
theorem dX9_fits_36 : decode cX9_fits 36 = .ok (.istore 6, 2) := by decide +kernel
theorem dX9_fits_38 : decode cX9_fits 38 = .ok (.iconst 0, 1) := by decide +kernel
theorem dX9_fits_39 : decode cX9_fits 39 = .ok (.istore 7, 2) := by decide +kernel
theorem dX9_fits_41 : decode cX9_fits 41 = .ok (.iload 7, 2) := by decide +kernel
theorem dX9_fits_43 : decode cX9_fits 43 = .ok (.bipush 9, 2) := by decide +kernel
theorem dX9_fits_45 : decode cX9_fits 45 = .ok (.if_icmp .gt 40, 3) := by decide +kernel
theorem dX9_fits_48 : decode cX9_fits 48 = .ok (.aload_n 0, 1) := by decide +kernel
theorem dX9_fits_49 : decode cX9_fits 49 = .ok (.iload_n 1, 1) := by decide +kernel
theorem dX9_fits_50 : decode cX9_fits 50 = .ok (.iload_n 2, 1) := by decide +kernel
theorem dX9_fits_51 : decode cX9_fits 51 = .ok (.iload_n 3, 1) := by decide +kernel
theorem dX9_fits_52 : decode cX9_fits 52 = .ok (.iload 7, 2) := by decide +kernel
theorem dX9_fits_54 : decode cX9_fits 54 = .ok (.invokevirtual 282, 3) := by decide +kernel
theorem dX9_fits_57 : decode cX9_fits 57 = .ok (.ifCond .eq 22, 3) := by decide +kernel
theorem dX9_fits_60 : decode cX9_fits 60 = .ok (.iinc 5 1, 3) := by decide +kernel
theorem dX9_fits_63 : decode cX9_fits 63 = .ok (.iload 6, 2) := by decide +kernel
theorem dX9_fits_65 : decode cX9_fits 65 = .ok (.bipush (-5), 2) := by decide +kernel
theorem dX9_fits_67 : decode cX9_fits 67 = .ok (.if_icmp .ne 8, 3) := by decide +kernel
theorem dX9_fits_70 : decode cX9_fits 70 = .ok (.iload 7, 2) := by decide +kernel
theorem dX9_fits_72 : decode cX9_fits 72 = .ok (.goto 5, 3) := by decide +kernel
theorem dX9_fits_75 : decode cX9_fits 75 = .ok (.iload 6, 2) := by decide +kernel
theorem dX9_fits_77 : decode cX9_fits 77 = .ok (.istore 6, 2) := by decide +kernel
theorem dX9_fits_79 : decode cX9_fits 79 = .ok (.iinc 7 1, 3) := by decide +kernel
theorem dX9_fits_82 : decode cX9_fits 82 = .ok (.goto (-41), 3) := by decide +kernel
theorem dX9_fits_85 : decode cX9_fits 85 = .ok (.iload 4, 2) := by decide +kernel
theorem dX9_fits_87 : decode cX9_fits 87 = .ok (.ifCond .ne 8, 3) := by decide +kernel
theorem dX9_fits_90 : decode cX9_fits 90 = .ok (.iload 5, 2) := by decide +kernel
theorem dX9_fits_92 : decode cX9_fits 92 = .ok (.goto 5, 3) := by decide +kernel
theorem dX9_fits_95 : decode cX9_fits 95 = .ok (.iload 6, 2) := by decide +kernel
theorem dX9_fits_97 : decode cX9_fits 97 = .ok (.ireturn, 1) := by decide +kernel
theorem dX9_odds_0 : decode cX9_odds 0 = .ok (.iload_n 1, 1) := by decide +kernel
theorem dX9_odds_1 : decode cX9_odds 1 = .ok (.invokestatic 77, 3) := by decide +kernel
theorem dX9_odds_4 : decode cX9_odds 4 = .ok (.ifCond .ne 19, 3) := by decide +kernel
theorem dX9_odds_7 : decode cX9_odds 7 = .ok (.iload_n 2, 1) := by decide +kernel
theorem dX9_odds_8 : decode cX9_odds 8 = .ok (.iload_n 3, 1) := by decide +kernel
theorem dX9_odds_9 : decode cX9_odds 9 = .ok (.invokestatic 217, 3) := by decide +kernel
theorem dX9_odds_12 : decode cX9_odds 12 = .ok (.ifCond .ne 11, 3) := by decide +kernel
theorem dX9_odds_15 : decode cX9_odds 15 = .ok (.iload 4, 2) := by decide +kernel
theorem dX9_odds_17 : decode cX9_odds 17 = .ok (.invokestatic 227, 3) := by decide +kernel
theorem dX9_odds_20 : decode cX9_odds 20 = .ok (.ifCond .eq 7, 3) := by decide +kernel
theorem dX9_odds_23 : decode cX9_odds 23 = .ok (.ldc2_w 230, 3) := by decide +kernel
theorem dX9_odds_26 : decode cX9_odds 26 = .ok (.lreturn, 1) := by decide +kernel
theorem dX9_odds_27 : decode cX9_odds 27 = .ok (.aload_n 0, 1) := by decide +kernel
theorem dX9_odds_28 : decode cX9_odds 28 = .ok (.getfield 12, 3) := by decide +kernel
theorem dX9_odds_31 : decode cX9_odds 31 = .ok (.iload_n 1, 1) := by decide +kernel
theorem dX9_odds_32 : decode cX9_odds 32 = .ok (.invokevirtual 85, 3) := by decide +kernel
theorem dX9_odds_35 : decode cX9_odds 35 = .ok (.astore 5, 2) := by decide +kernel
theorem dX9_odds_37 : decode cX9_odds 37 = .ok (.aload 5, 2) := by decide +kernel
theorem dX9_odds_39 : decode cX9_odds 39 = .ok (.invokevirtual 93, 3) := by decide +kernel
theorem dX9_odds_42 : decode cX9_odds 42 = .ok (.ifCond .ne 7, 3) := by decide +kernel
theorem dX9_odds_45 : decode cX9_odds 45 = .ok (.ldc2_w 230, 3) := by decide +kernel
theorem dX9_odds_48 : decode cX9_odds 48 = .ok (.lreturn, 1) := by decide +kernel
theorem dX9_odds_49 : decode cX9_odds 49 = .ok (.bipush 100, 2) := by decide +kernel
theorem dX9_odds_51 : decode cX9_odds 51 = .ok (.aload_n 0, 1) := by decide +kernel
theorem dX9_odds_52 : decode cX9_odds 52 = .ok (.aload 5, 2) := by decide +kernel
theorem dX9_odds_54 : decode cX9_odds 54 = .ok (.iload_n 2, 1) := by decide +kernel
theorem dX9_odds_55 : decode cX9_odds 55 = .ok (.iload_n 3, 1) := by decide +kernel
theorem dX9_odds_56 : decode cX9_odds 56 = .ok (.invokevirtual 245, 3) := by decide +kernel
theorem dX9_odds_59 : decode cX9_odds 59 = .ok (.isub, 1) := by decide +kernel
theorem dX9_odds_60 : decode cX9_odds 60 = .ok (.bipush 100, 2) := by decide +kernel
theorem dX9_odds_62 : decode cX9_odds 62 = .ok (.iload 4, 2) := by decide +kernel
theorem dX9_odds_64 : decode cX9_odds 64 = .ok (.invokestatic 235, 3) := by decide +kernel
theorem dX9_odds_67 : decode cX9_odds 67 = .ok (.lreturn, 1) := by decide +kernel
theorem dX9_mean_0 : decode cX9_mean 0 = .ok (.iload_n 1, 1) := by decide +kernel
theorem dX9_mean_1 : decode cX9_mean 1 = .ok (.invokestatic 77, 3) := by decide +kernel
theorem dX9_mean_4 : decode cX9_mean 4 = .ok (.ifCond .ne 10, 3) := by decide +kernel
theorem dX9_mean_7 : decode cX9_mean 7 = .ok (.iload_n 2, 1) := by decide +kernel
theorem dX9_mean_8 : decode cX9_mean 8 = .ok (.invokestatic 227, 3) := by decide +kernel
theorem dX9_mean_11 : decode cX9_mean 11 = .ok (.ifCond .eq 7, 3) := by decide +kernel
theorem dX9_mean_14 : decode cX9_mean 14 = .ok (.ldc2_w 230, 3) := by decide +kernel
theorem dX9_mean_17 : decode cX9_mean 17 = .ok (.lreturn, 1) := by decide +kernel
theorem dX9_mean_18 : decode cX9_mean 18 = .ok (.aload_n 0, 1) := by decide +kernel
theorem dX9_mean_19 : decode cX9_mean 19 = .ok (.getfield 12, 3) := by decide +kernel
theorem dX9_mean_22 : decode cX9_mean 22 = .ok (.iload_n 1, 1) := by decide +kernel
theorem dX9_mean_23 : decode cX9_mean 23 = .ok (.invokevirtual 85, 3) := by decide +kernel
theorem dX9_mean_26 : decode cX9_mean 26 = .ok (.astore_n 3, 1) := by decide +kernel
theorem dX9_mean_27 : decode cX9_mean 27 = .ok (.aload_n 3, 1) := by decide +kernel
theorem dX9_mean_28 : decode cX9_mean 28 = .ok (.invokevirtual 93, 3) := by decide +kernel
theorem dX9_mean_31 : decode cX9_mean 31 = .ok (.ifCond .ne 7, 3) := by decide +kernel
theorem dX9_mean_34 : decode cX9_mean 34 = .ok (.ldc2_w 230, 3) := by decide +kernel
theorem dX9_mean_37 : decode cX9_mean 37 = .ok (.lreturn, 1) := by decide +kernel
theorem dX9_mean_38 : decode cX9_mean 38 = .ok (.aload_n 3, 1) := by decide +kernel
theorem dX9_mean_39 : decode cX9_mean 39 = .ok (.invokevirtual 286, 3) := by decide +kernel
theorem dX9_mean_42 : decode cX9_mean 42 = .ok (.aload_n 3, 1) := by decide +kernel
theorem dX9_mean_43 : decode cX9_mean 43 = .ok (.invokevirtual 93, 3) := by decide +kernel
theorem dX9_mean_46 : decode cX9_mean 46 = .ok (.iload_n 2, 1) := by decide +kernel
theorem dX9_mean_47 : decode cX9_mean 47 = .ok (.invokestatic 235, 3) := by decide +kernel
theorem dX9_mean_50 : decode cX9_mean 50 = .ok (.lreturn, 1) := by decide +kernel
theorem dX9_event_0 : decode cX9_event 0 = .ok (.iload_n 1, 1) := by decide +kernel
theorem dX9_event_1 : decode cX9_event 1 = .ok (.iconst (-1), 1) := by decide +kernel
theorem dX9_event_2 : decode cX9_event 2 = .ok (.if_icmp .ne 15, 3) := by decide +kernel
theorem dX9_event_5 : decode cX9_event 5 = .ok (.aload_n 0, 1) := by decide +kernel
theorem dX9_event_6 : decode cX9_event 6 = .ok (.getfield 12, 3) := by decide +kernel
theorem dX9_event_9 : decode cX9_event 9 = .ok (.getfield 289, 3) := by decide +kernel
theorem dX9_event_12 : decode cX9_event 12 = .ok (.invokevirtual 277, 3) := by decide +kernel
theorem dX9_event_15 : decode cX9_event 15 = .ok (.iconst 0, 1) := by decide +kernel
theorem dX9_event_16 : decode cX9_event 16 = .ok (.ireturn, 1) := by decide +kernel
theorem dX9_event_17 : decode cX9_event 17 = .ok (.iload_n 1, 1) := by decide +kernel
theorem dX9_event_18 : decode cX9_event 18 = .ok (.ifCond .lt 8, 3) := by decide +kernel
theorem dX9_event_21 : decode cX9_event 21 = .ok (.iload_n 1, 1) := by decide +kernel
theorem dX9_event_22 : decode cX9_event 22 = .ok (.iconst 2, 1) := by decide +kernel
theorem dX9_event_23 : decode cX9_event 23 = .ok (.if_icmp .le 5, 3) := by decide +kernel
theorem dX9_event_26 : decode cX9_event 26 = .ok (.iconst (-1), 1) := by decide +kernel
theorem dX9_event_27 : decode cX9_event 27 = .ok (.ireturn, 1) := by decide +kernel
theorem dX9_event_28 : decode cX9_event 28 = .ok (.iload_n 1, 1) := by decide +kernel
theorem dX9_event_29 : decode cX9_event 29 = .ok (.iload_n 2, 1) := by decide +kernel
theorem dX9_event_30 : decode cX9_event 30 = .ok (.invokestatic 292, 3) := by decide +kernel
theorem dX9_event_33 : decode cX9_event 33 = .ok (.ifCond .eq 6, 3) := by decide +kernel
theorem dX9_event_36 : decode cX9_event 36 = .ok (.bipush (-2), 2) := by decide +kernel
theorem dX9_event_38 : decode cX9_event 38 = .ok (.ireturn, 1) := by decide +kernel
theorem dX9_event_39 : decode cX9_event 39 = .ok (.aload_n 0, 1) := by decide +kernel
theorem dX9_event_40 : decode cX9_event 40 = .ok (.getfield 12, 3) := by decide +kernel
theorem dX9_event_43 : decode cX9_event 43 = .ok (.getfield 289, 3) := by decide +kernel
theorem dX9_event_46 : decode cX9_event 46 = .ok (.iload_n 1, 1) := by decide +kernel
theorem dX9_event_47 : decode cX9_event 47 = .ok (.iload_n 2, 1) := by decide +kernel
theorem dX9_event_48 : decode cX9_event 48 = .ok (.iconst 0, 1) := by decide +kernel
theorem dX9_event_49 : decode cX9_event 49 = .ok (.invokevirtual 280, 3) := by decide +kernel
theorem dX9_event_52 : decode cX9_event 52 = .ok (.ireturn, 1) := by decide +kernel
theorem dX9_after_0 : decode cX9_after 0 = .ok (.iload_n 1, 1) := by decide +kernel
theorem dX9_after_1 : decode cX9_after 1 = .ok (.ifCond .lt 8, 3) := by decide +kernel
theorem dX9_after_4 : decode cX9_after 4 = .ok (.iload_n 1, 1) := by decide +kernel
theorem dX9_after_5 : decode cX9_after 5 = .ok (.iconst 2, 1) := by decide +kernel
theorem dX9_after_6 : decode cX9_after 6 = .ok (.if_icmp .le 5, 3) := by decide +kernel
theorem dX9_after_9 : decode cX9_after 9 = .ok (.iconst (-1), 1) := by decide +kernel
theorem dX9_after_10 : decode cX9_after 10 = .ok (.ireturn, 1) := by decide +kernel
theorem dX9_after_11 : decode cX9_after 11 = .ok (.aload_n 0, 1) := by decide +kernel
theorem dX9_after_12 : decode cX9_after 12 = .ok (.getfield 49, 3) := by decide +kernel
theorem dX9_after_15 : decode cX9_after 15 = .ok (.aload_n 0, 1) := by decide +kernel
theorem dX9_after_16 : decode cX9_after 16 = .ok (.getfield 12, 3) := by decide +kernel
theorem dX9_after_19 : decode cX9_after 19 = .ok (.iconst 0, 1) := by decide +kernel
theorem dX9_after_20 : decode cX9_after 20 = .ok (.invokevirtual 85, 3) := by decide +kernel
theorem dX9_after_23 : decode cX9_after 23 = .ok (.invokevirtual 136, 3) := by decide +kernel
theorem dX9_after_26 : decode cX9_after 26 = .ok (.iconst 0, 1) := by decide +kernel
theorem dX9_after_27 : decode cX9_after 27 = .ok (.istore_n 2, 1) := by decide +kernel
theorem dX9_after_28 : decode cX9_after 28 = .ok (.iload_n 2, 1) := by decide +kernel
theorem dX9_after_29 : decode cX9_after 29 = .ok (.aload_n 0, 1) := by decide +kernel
theorem dX9_after_30 : decode cX9_after 30 = .ok (.getfield 12, 3) := by decide +kernel
theorem dX9_after_33 : decode cX9_after 33 = .ok (.getfield 289, 3) := by decide +kernel
theorem dX9_after_36 : decode cX9_after 36 = .ok (.invokevirtual 295, 3) := by decide +kernel
theorem dX9_after_39 : decode cX9_after 39 = .ok (.if_icmp .ge 35, 3) := by decide +kernel
theorem dX9_after_42 : decode cX9_after 42 = .ok (.aload_n 0, 1) := by decide +kernel
theorem dX9_after_43 : decode cX9_after 43 = .ok (.aload_n 0, 1) := by decide +kernel
theorem dX9_after_44 : decode cX9_after 44 = .ok (.getfield 12, 3) := by decide +kernel
theorem dX9_after_47 : decode cX9_after 47 = .ok (.getfield 289, 3) := by decide +kernel
theorem dX9_after_50 : decode cX9_after 50 = .ok (.iload_n 2, 1) := by decide +kernel
theorem dX9_after_51 : decode cX9_after 51 = .ok (.invokevirtual 296, 3) := by decide +kernel
theorem dX9_after_54 : decode cX9_after 54 = .ok (.aload_n 0, 1) := by decide +kernel
theorem dX9_after_55 : decode cX9_after 55 = .ok (.getfield 12, 3) := by decide +kernel
theorem dX9_after_58 : decode cX9_after 58 = .ok (.getfield 289, 3) := by decide +kernel
theorem dX9_after_61 : decode cX9_after 61 = .ok (.iload_n 2, 1) := by decide +kernel
theorem dX9_after_62 : decode cX9_after 62 = .ok (.invokevirtual 299, 3) := by decide +kernel
theorem dX9_after_65 : decode cX9_after 65 = .ok (.invokevirtual 302, 3) := by decide +kernel
theorem dX9_after_68 : decode cX9_after 68 = .ok (.iinc 2 1, 3) := by decide +kernel
theorem dX9_after_71 : decode cX9_after 71 = .ok (.goto (-43), 3) := by decide +kernel
theorem dX9_after_74 : decode cX9_after 74 = .ok (.iload_n 1, 1) := by decide +kernel
theorem dX9_after_75 : decode cX9_after 75 = .ok (.ifCond .ne 11, 3) := by decide +kernel
theorem dX9_after_78 : decode cX9_after 78 = .ok (.aload_n 0, 1) := by decide +kernel
theorem dX9_after_79 : decode cX9_after 79 = .ok (.getfield 49, 3) := by decide +kernel
theorem dX9_after_82 : decode cX9_after 82 = .ok (.invokevirtual 93, 3) := by decide +kernel
theorem dX9_after_85 : decode cX9_after 85 = .ok (.ireturn, 1) := by decide +kernel
theorem dX9_after_86 : decode cX9_after 86 = .ok (.aload_n 0, 1) := by decide +kernel
theorem dX9_after_87 : decode cX9_after 87 = .ok (.getfield 49, 3) := by decide +kernel
theorem dX9_after_90 : decode cX9_after 90 = .ok (.invokevirtual 93, 3) := by decide +kernel
theorem dX9_after_93 : decode cX9_after 93 = .ok (.ifCond .ne 6, 3) := by decide +kernel
theorem dX9_after_96 : decode cX9_after 96 = .ok (.bipush (-3), 2) := by decide +kernel
theorem dX9_after_98 : decode cX9_after 98 = .ok (.ireturn, 1) := by decide +kernel
theorem dX9_after_99 : decode cX9_after 99 = .ok (.iload_n 1, 1) := by decide +kernel
theorem dX9_after_100 : decode cX9_after 100 = .ok (.iconst 1, 1) := by decide +kernel
theorem dX9_after_101 : decode cX9_after 101 = .ok (.if_icmp .ne 14, 3) := by decide +kernel
theorem dX9_after_104 : decode cX9_after 104 = .ok (.aload_n 0, 1) := by decide +kernel
theorem dX9_after_105 : decode cX9_after 105 = .ok (.aload_n 0, 1) := by decide +kernel
theorem dX9_after_106 : decode cX9_after 106 = .ok (.getfield 49, 3) := by decide +kernel
theorem dX9_after_109 : decode cX9_after 109 = .ok (.invokevirtual 199, 3) := by decide +kernel
theorem dX9_after_112 : decode cX9_after 112 = .ok (.goto 11, 3) := by decide +kernel
theorem dX9_after_115 : decode cX9_after 115 = .ok (.aload_n 0, 1) := by decide +kernel
theorem dX9_after_116 : decode cX9_after 116 = .ok (.aload_n 0, 1) := by decide +kernel
theorem dX9_after_117 : decode cX9_after 117 = .ok (.getfield 49, 3) := by decide +kernel
theorem dX9_after_120 : decode cX9_after 120 = .ok (.invokevirtual 196, 3) := by decide +kernel
theorem dX9_after_123 : decode cX9_after 123 = .ok (.ireturn, 1) := by decide +kernel
theorem dX9_book_0 : decode cX9_book 0 = .ok (.iload_n 1, 1) := by decide +kernel
theorem dX9_book_1 : decode cX9_book 1 = .ok (.iconst (-1), 1) := by decide +kernel
theorem dX9_book_2 : decode cX9_book 2 = .ok (.if_icmp .ne 15, 3) := by decide +kernel
theorem dX9_book_5 : decode cX9_book 5 = .ok (.aload_n 0, 1) := by decide +kernel
theorem dX9_book_6 : decode cX9_book 6 = .ok (.getfield 12, 3) := by decide +kernel
theorem dX9_book_9 : decode cX9_book 9 = .ok (.getfield 305, 3) := by decide +kernel
theorem dX9_book_12 : decode cX9_book 12 = .ok (.invokevirtual 277, 3) := by decide +kernel
theorem dX9_book_15 : decode cX9_book 15 = .ok (.iconst 0, 1) := by decide +kernel
theorem dX9_book_16 : decode cX9_book 16 = .ok (.ireturn, 1) := by decide +kernel
theorem dX9_book_17 : decode cX9_book 17 = .ok (.iload_n 1, 1) := by decide +kernel
theorem dX9_book_18 : decode cX9_book 18 = .ok (.ifCond .lt 9, 3) := by decide +kernel
theorem dX9_book_21 : decode cX9_book 21 = .ok (.iload_n 1, 1) := by decide +kernel
theorem dX9_book_22 : decode cX9_book 22 = .ok (.bipush 99, 2) := by decide +kernel
theorem dX9_book_24 : decode cX9_book 24 = .ok (.if_icmp .le 5, 3) := by decide +kernel
theorem dX9_book_27 : decode cX9_book 27 = .ok (.iconst (-1), 1) := by decide +kernel
theorem dX9_book_28 : decode cX9_book 28 = .ok (.ireturn, 1) := by decide +kernel
theorem dX9_book_29 : decode cX9_book 29 = .ok (.iload_n 2, 1) := by decide +kernel
theorem dX9_book_30 : decode cX9_book 30 = .ok (.ifCond .lt 8, 3) := by decide +kernel
theorem dX9_book_33 : decode cX9_book 33 = .ok (.iload_n 2, 1) := by decide +kernel
theorem dX9_book_34 : decode cX9_book 34 = .ok (.iconst 1, 1) := by decide +kernel
theorem dX9_book_35 : decode cX9_book 35 = .ok (.if_icmp .le 6, 3) := by decide +kernel
theorem dX9_book_38 : decode cX9_book 38 = .ok (.bipush (-2), 2) := by decide +kernel
theorem dX9_book_40 : decode cX9_book 40 = .ok (.ireturn, 1) := by decide +kernel
theorem dX9_book_41 : decode cX9_book 41 = .ok (.aload_n 0, 1) := by decide +kernel
theorem dX9_book_42 : decode cX9_book 42 = .ok (.getfield 12, 3) := by decide +kernel
theorem dX9_book_45 : decode cX9_book 45 = .ok (.getfield 305, 3) := by decide +kernel
theorem dX9_book_48 : decode cX9_book 48 = .ok (.iload_n 1, 1) := by decide +kernel
theorem dX9_book_49 : decode cX9_book 49 = .ok (.iload_n 2, 1) := by decide +kernel
theorem dX9_book_50 : decode cX9_book 50 = .ok (.iconst 0, 1) := by decide +kernel
theorem dX9_book_51 : decode cX9_book 51 = .ok (.invokevirtual 280, 3) := by decide +kernel
theorem dX9_book_54 : decode cX9_book 54 = .ok (.ireturn, 1) := by decide +kernel
theorem dX9_looked_0 : decode cX9_looked 0 = .ok (.iconst 0, 1) := by decide +kernel
theorem dX9_looked_1 : decode cX9_looked 1 = .ok (.istore_n 1, 1) := by decide +kernel
theorem dX9_looked_2 : decode cX9_looked 2 = .ok (.iload_n 1, 1) := by decide +kernel
theorem dX9_looked_3 : decode cX9_looked 3 = .ok (.aload_n 0, 1) := by decide +kernel
theorem dX9_looked_4 : decode cX9_looked 4 = .ok (.getfield 12, 3) := by decide +kernel
theorem dX9_looked_7 : decode cX9_looked 7 = .ok (.getfield 305, 3) := by decide +kernel
theorem dX9_looked_10 : decode cX9_looked 10 = .ok (.invokevirtual 295, 3) := by decide +kernel
theorem dX9_looked_13 : decode cX9_looked 13 = .ok (.if_icmp .ge 66, 3) := by decide +kernel
theorem dX9_looked_16 : decode cX9_looked 16 = .ok (.aload_n 0, 1) := by decide +kernel
theorem dX9_looked_17 : decode cX9_looked 17 = .ok (.getfield 12, 3) := by decide +kernel
theorem dX9_looked_20 : decode cX9_looked 20 = .ok (.getfield 305, 3) := by decide +kernel
theorem dX9_looked_23 : decode cX9_looked 23 = .ok (.iload_n 1, 1) := by decide +kernel
theorem dX9_looked_24 : decode cX9_looked 24 = .ok (.invokevirtual 296, 3) := by decide +kernel
theorem dX9_looked_27 : decode cX9_looked 27 = .ok (.istore_n 2, 1) := by decide +kernel
theorem dX9_looked_28 : decode cX9_looked 28 = .ok (.aload_n 0, 1) := by decide +kernel
theorem dX9_looked_29 : decode cX9_looked 29 = .ok (.getfield 12, 3) := by decide +kernel
theorem dX9_looked_32 : decode cX9_looked 32 = .ok (.iconst 0, 1) := by decide +kernel
theorem dX9_looked_33 : decode cX9_looked 33 = .ok (.invokevirtual 85, 3) := by decide +kernel
theorem dX9_looked_36 : decode cX9_looked 36 = .ok (.iload_n 2, 1) := by decide +kernel
theorem dX9_looked_37 : decode cX9_looked 37 = .ok (.bipush 10, 2) := by decide +kernel
theorem dX9_looked_39 : decode cX9_looked 39 = .ok (.idiv, 1) := by decide +kernel
theorem dX9_looked_40 : decode cX9_looked 40 = .ok (.iload_n 2, 1) := by decide +kernel
theorem dX9_looked_41 : decode cX9_looked 41 = .ok (.bipush 10, 2) := by decide +kernel
theorem dX9_looked_43 : decode cX9_looked 43 = .ok (.irem, 1) := by decide +kernel
theorem dX9_looked_44 : decode cX9_looked 44 = .ok (.invokevirtual 202, 3) := by decide +kernel
theorem dX9_looked_47 : decode cX9_looked 47 = .ok (.ifCond .eq 7, 3) := by decide +kernel
theorem dX9_looked_50 : decode cX9_looked 50 = .ok (.iconst 1, 1) := by decide +kernel
theorem dX9_looked_51 : decode cX9_looked 51 = .ok (.goto 4, 3) := by decide +kernel
theorem dX9_looked_54 : decode cX9_looked 54 = .ok (.iconst 0, 1) := by decide +kernel
theorem dX9_looked_55 : decode cX9_looked 55 = .ok (.istore_n 3, 1) := by decide +kernel
theorem dX9_looked_56 : decode cX9_looked 56 = .ok (.iload_n 3, 1) := by decide +kernel
theorem dX9_looked_57 : decode cX9_looked 57 = .ok (.aload_n 0, 1) := by decide +kernel
theorem dX9_looked_58 : decode cX9_looked 58 = .ok (.getfield 12, 3) := by decide +kernel
theorem dX9_looked_61 : decode cX9_looked 61 = .ok (.getfield 305, 3) := by decide +kernel
theorem dX9_looked_64 : decode cX9_looked 64 = .ok (.iload_n 1, 1) := by decide +kernel
theorem dX9_looked_65 : decode cX9_looked 65 = .ok (.invokevirtual 299, 3) := by decide +kernel
theorem dX9_looked_68 : decode cX9_looked 68 = .ok (.if_icmp .eq 5, 3) := by decide +kernel
theorem dX9_looked_71 : decode cX9_looked 71 = .ok (.iload_n 1, 1) := by decide +kernel
theorem dX9_looked_72 : decode cX9_looked 72 = .ok (.ireturn, 1) := by decide +kernel
theorem dX9_looked_73 : decode cX9_looked 73 = .ok (.iinc 1 1, 3) := by decide +kernel
theorem dX9_looked_76 : decode cX9_looked 76 = .ok (.goto (-74), 3) := by decide +kernel
theorem dX9_looked_79 : decode cX9_looked 79 = .ok (.bipush (-5), 2) := by decide +kernel
theorem dX9_looked_81 : decode cX9_looked 81 = .ok (.ireturn, 1) := by decide +kernel
theorem dX9_judge_0 : decode cX9_judge 0 = .ok (.iload_n 1, 1) := by decide +kernel
theorem dX9_judge_1 : decode cX9_judge 1 = .ok (.invokestatic 77, 3) := by decide +kernel
theorem dX9_judge_4 : decode cX9_judge 4 = .ok (.ifCond .ne 10, 3) := by decide +kernel
theorem dX9_judge_7 : decode cX9_judge 7 = .ok (.iload_n 2, 1) := by decide +kernel
