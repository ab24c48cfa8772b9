theorem dX0_init_0 : decode cX0_init 0 = .ok (.aload_n 0, 1) := by decide +kernel
theorem dX0_init_1 : decode cX0_init 1 = .ok (.invokespecial 1, 3) := by decide +kernel
theorem dX0_init_4 : decode cX0_init 4 = .ok (.aload_n 0, 1) := by decide +kernel
theorem dX0_init_5 : decode cX0_init 5 = .ok (.bipush 10, 2) := by decide +kernel
theorem dX0_init_7 : decode cX0_init 7 = .ok (.anewarray 9, 3) := by decide +kernel
theorem dX0_init_10 : decode cX0_init 10 = .ok (.putfield 11, 3) := by decide +kernel
theorem dX0_init_13 : decode cX0_init 13 = .ok (.iconst 0, 1) := by decide +kernel
theorem dX0_init_14 : decode cX0_init 14 = .ok (.istore_n 1, 1) := by decide +kernel
theorem dX0_init_15 : decode cX0_init 15 = .ok (.iload_n 1, 1) := by decide +kernel
theorem dX0_init_16 : decode cX0_init 16 = .ok (.bipush 10, 2) := by decide +kernel
theorem dX0_init_18 : decode cX0_init 18 = .ok (.if_icmp .ge 22, 3) := by decide +kernel
theorem dX0_init_21 : decode cX0_init 21 = .ok (.aload_n 0, 1) := by decide +kernel
theorem dX0_init_22 : decode cX0_init 22 = .ok (.getfield 11, 3) := by decide +kernel
theorem dX0_init_25 : decode cX0_init 25 = .ok (.iload_n 1, 1) := by decide +kernel
theorem dX0_init_26 : decode cX0_init 26 = .ok (.new 9, 3) := by decide +kernel
theorem dX0_init_29 : decode cX0_init 29 = .ok (.dup, 1) := by decide +kernel
theorem dX0_init_30 : decode cX0_init 30 = .ok (.invokespecial 15, 3) := by decide +kernel
theorem dX0_init_33 : decode cX0_init 33 = .ok (.aastore, 1) := by decide +kernel
theorem dX0_init_34 : decode cX0_init 34 = .ok (.iinc 1 1, 3) := by decide +kernel
theorem dX0_init_37 : decode cX0_init 37 = .ok (.goto (-22), 3) := by decide +kernel
theorem dX0_init_40 : decode cX0_init 40 = .ok (.aload_n 0, 1) := by decide +kernel
theorem dX0_init_41 : decode cX0_init 41 = .ok (.bipush 10, 2) := by decide +kernel
theorem dX0_init_43 : decode cX0_init 43 = .ok (.newarray .int, 2) := by decide +kernel
theorem dX0_init_45 : decode cX0_init 45 = .ok (.putfield 16, 3) := by decide +kernel
theorem dX0_init_48 : decode cX0_init 48 = .ok (.aload_n 0, 1) := by decide +kernel
theorem dX0_init_49 : decode cX0_init 49 = .ok (.iconst 0, 1) := by decide +kernel
theorem dX0_init_50 : decode cX0_init 50 = .ok (.putfield 20, 3) := by decide +kernel
theorem dX0_init_53 : decode cX0_init 53 = .ok (.aload_n 0, 1) := by decide +kernel
theorem dX0_init_54 : decode cX0_init 54 = .ok (.iconst 0, 1) := by decide +kernel
theorem dX0_init_55 : decode cX0_init 55 = .ok (.putfield 24, 3) := by decide +kernel
theorem dX0_init_58 : decode cX0_init 58 = .ok (.return_, 1) := by decide +kernel
theorem dX0_size_0 : decode cX0_size 0 = .ok (.aload_n 0, 1) := by decide +kernel
theorem dX0_size_1 : decode cX0_size 1 = .ok (.getfield 24, 3) := by decide +kernel
theorem dX0_size_4 : decode cX0_size 4 = .ok (.ireturn, 1) := by decide +kernel
theorem dX0_keep_0 : decode cX0_keep 0 = .ok (.aload_n 0, 1) := by decide +kernel
theorem dX0_keep_1 : decode cX0_keep 1 = .ok (.getfield 11, 3) := by decide +kernel
theorem dX0_keep_4 : decode cX0_keep 4 = .ok (.aload_n 0, 1) := by decide +kernel
theorem dX0_keep_5 : decode cX0_keep 5 = .ok (.getfield 20, 3) := by decide +kernel
theorem dX0_keep_8 : decode cX0_keep 8 = .ok (.aaload, 1) := by decide +kernel
theorem dX0_keep_9 : decode cX0_keep 9 = .ok (.aload_n 2, 1) := by decide +kernel
theorem dX0_keep_10 : decode cX0_keep 10 = .ok (.invokevirtual 27, 3) := by decide +kernel
theorem dX0_keep_13 : decode cX0_keep 13 = .ok (.aload_n 0, 1) := by decide +kernel
theorem dX0_keep_14 : decode cX0_keep 14 = .ok (.getfield 16, 3) := by decide +kernel
theorem dX0_keep_17 : decode cX0_keep 17 = .ok (.aload_n 0, 1) := by decide +kernel
theorem dX0_keep_18 : decode cX0_keep 18 = .ok (.getfield 20, 3) := by decide +kernel
theorem dX0_keep_21 : decode cX0_keep 21 = .ok (.iload_n 1, 1) := by decide +kernel
theorem dX0_keep_22 : decode cX0_keep 22 = .ok (.iastore, 1) := by decide +kernel
theorem dX0_keep_23 : decode cX0_keep 23 = .ok (.aload_n 0, 1) := by decide +kernel
theorem dX0_keep_24 : decode cX0_keep 24 = .ok (.aload_n 0, 1) := by decide +kernel
theorem dX0_keep_25 : decode cX0_keep 25 = .ok (.getfield 20, 3) := by decide +kernel
theorem dX0_keep_28 : decode cX0_keep 28 = .ok (.iconst 1, 1) := by decide +kernel
theorem dX0_keep_29 : decode cX0_keep 29 = .ok (.iadd, 1) := by decide +kernel
theorem dX0_keep_30 : decode cX0_keep 30 = .ok (.bipush 10, 2) := by decide +kernel
theorem dX0_keep_32 : decode cX0_keep 32 = .ok (.if_icmp .ge 12, 3) := by decide +kernel
theorem dX0_keep_35 : decode cX0_keep 35 = .ok (.aload_n 0, 1) := by decide +kernel
theorem dX0_keep_36 : decode cX0_keep 36 = .ok (.getfield 20, 3) := by decide +kernel
theorem dX0_keep_39 : decode cX0_keep 39 = .ok (.iconst 1, 1) := by decide +kernel
theorem dX0_keep_40 : decode cX0_keep 40 = .ok (.iadd, 1) := by decide +kernel
theorem dX0_keep_41 : decode cX0_keep 41 = .ok (.goto 4, 3) := by decide +kernel
theorem dX0_keep_44 : decode cX0_keep 44 = .ok (.iconst 0, 1) := by decide +kernel
theorem dX0_keep_45 : decode cX0_keep 45 = .ok (.putfield 20, 3) := by decide +kernel
theorem dX0_keep_48 : decode cX0_keep 48 = .ok (.aload_n 0, 1) := by decide +kernel
theorem dX0_keep_49 : decode cX0_keep 49 = .ok (.aload_n 0, 1) := by decide +kernel
theorem dX0_keep_50 : decode cX0_keep 50 = .ok (.getfield 24, 3) := by decide +kernel
theorem dX0_keep_53 : decode cX0_keep 53 = .ok (.iconst 1, 1) := by decide +kernel
theorem dX0_keep_54 : decode cX0_keep 54 = .ok (.iadd, 1) := by decide +kernel
theorem dX0_keep_55 : decode cX0_keep 55 = .ok (.bipush 10, 2) := by decide +kernel
theorem dX0_keep_57 : decode cX0_keep 57 = .ok (.invokestatic 31, 3) := by decide +kernel
theorem dX0_keep_60 : decode cX0_keep 60 = .ok (.putfield 24, 3) := by decide +kernel
theorem dX0_keep_63 : decode cX0_keep 63 = .ok (.return_, 1) := by decide +kernel
theorem dX0_takeBack_0 : decode cX0_takeBack 0 = .ok (.aload_n 0, 1) := by decide +kernel
theorem dX0_takeBack_1 : decode cX0_takeBack 1 = .ok (.getfield 24, 3) := by decide +kernel
theorem dX0_takeBack_4 : decode cX0_takeBack 4 = .ok (.ifCond .ne 4, 3) := by decide +kernel
theorem dX0_takeBack_7 : decode cX0_takeBack 7 = .ok (.return_, 1) := by decide +kernel
theorem dX0_takeBack_8 : decode cX0_takeBack 8 = .ok (.aload_n 0, 1) := by decide +kernel
theorem dX0_takeBack_9 : decode cX0_takeBack 9 = .ok (.aload_n 0, 1) := by decide +kernel
theorem dX0_takeBack_10 : decode cX0_takeBack 10 = .ok (.getfield 20, 3) := by decide +kernel
theorem dX0_takeBack_13 : decode cX0_takeBack 13 = .ok (.ifCond .le 12, 3) := by decide +kernel
theorem dX0_takeBack_16 : decode cX0_takeBack 16 = .ok (.aload_n 0, 1) := by decide +kernel
theorem dX0_takeBack_17 : decode cX0_takeBack 17 = .ok (.getfield 20, 3) := by decide +kernel
theorem dX0_takeBack_20 : decode cX0_takeBack 20 = .ok (.iconst 1, 1) := by decide +kernel
theorem dX0_takeBack_21 : decode cX0_takeBack 21 = .ok (.isub, 1) := by decide +kernel
theorem dX0_takeBack_22 : decode cX0_takeBack 22 = .ok (.goto 5, 3) := by decide +kernel
theorem dX0_takeBack_25 : decode cX0_takeBack 25 = .ok (.bipush 9, 2) := by decide +kernel
theorem dX0_takeBack_27 : decode cX0_takeBack 27 = .ok (.putfield 20, 3) := by decide +kernel
theorem dX0_takeBack_30 : decode cX0_takeBack 30 = .ok (.aload_n 1, 1) := by decide +kernel
theorem dX0_takeBack_31 : decode cX0_takeBack 31 = .ok (.aload_n 0, 1) := by decide +kernel
theorem dX0_takeBack_32 : decode cX0_takeBack 32 = .ok (.getfield 16, 3) := by decide +kernel
theorem dX0_takeBack_35 : decode cX0_takeBack 35 = .ok (.aload_n 0, 1) := by decide +kernel
theorem dX0_takeBack_36 : decode cX0_takeBack 36 = .ok (.getfield 20, 3) := by decide +kernel
theorem dX0_takeBack_39 : decode cX0_takeBack 39 = .ok (.iaload, 1) := by decide +kernel
theorem dX0_takeBack_40 : decode cX0_takeBack 40 = .ok (.invokevirtual 37, 3) := by decide +kernel
theorem dX0_takeBack_43 : decode cX0_takeBack 43 = .ok (.aload_n 0, 1) := by decide +kernel
theorem dX0_takeBack_44 : decode cX0_takeBack 44 = .ok (.getfield 11, 3) := by decide +kernel
theorem dX0_takeBack_47 : decode cX0_takeBack 47 = .ok (.aload_n 0, 1) := by decide +kernel
theorem dX0_takeBack_48 : decode cX0_takeBack 48 = .ok (.getfield 20, 3) := by decide +kernel
theorem dX0_takeBack_51 : decode cX0_takeBack 51 = .ok (.aaload, 1) := by decide +kernel
theorem dX0_takeBack_52 : decode cX0_takeBack 52 = .ok (.invokevirtual 27, 3) := by decide +kernel
theorem dX0_takeBack_55 : decode cX0_takeBack 55 = .ok (.aload_n 0, 1) := by decide +kernel
theorem dX0_takeBack_56 : decode cX0_takeBack 56 = .ok (.dup, 1) := by decide +kernel
theorem dX0_takeBack_57 : decode cX0_takeBack 57 = .ok (.getfield 24, 3) := by decide +kernel
theorem dX0_takeBack_60 : decode cX0_takeBack 60 = .ok (.iconst 1, 1) := by decide +kernel
theorem dX0_takeBack_61 : decode cX0_takeBack 61 = .ok (.isub, 1) := by decide +kernel
theorem dX0_takeBack_62 : decode cX0_takeBack 62 = .ok (.putfield 24, 3) := by decide +kernel
theorem dX0_takeBack_65 : decode cX0_takeBack 65 = .ok (.return_, 1) := by decide +kernel
theorem dX0_forget_0 : decode cX0_forget 0 = .ok (.aload_n 0, 1) := by decide +kernel
theorem dX0_forget_1 : decode cX0_forget 1 = .ok (.iconst 0, 1) := by decide +kernel
theorem dX0_forget_2 : decode cX0_forget 2 = .ok (.putfield 24, 3) := by decide +kernel
theorem dX0_forget_5 : decode cX0_forget 5 = .ok (.return_, 1) := by decide +kernel
theorem dX1_init_0 : decode cX1_init 0 = .ok (.aload_n 0, 1) := by decide +kernel
theorem dX1_init_1 : decode cX1_init 1 = .ok (.invokespecial 3, 3) := by decide +kernel
theorem dX1_init_4 : decode cX1_init 4 = .ok (.aload_n 0, 1) := by decide +kernel
theorem dX1_init_5 : decode cX1_init 5 = .ok (.bipush 61, 2) := by decide +kernel
theorem dX1_init_7 : decode cX1_init 7 = .ok (.newarray .int, 2) := by decide +kernel
theorem dX1_init_9 : decode cX1_init 9 = .ok (.putfield 9, 3) := by decide +kernel
theorem dX1_init_12 : decode cX1_init 12 = .ok (.return_, 1) := by decide +kernel
theorem dX1_ofAllTerms_0 : decode cX1_ofAllTerms 0 = .ok (.iconst 0, 1) := by decide +kernel
theorem dX1_ofAllTerms_1 : decode cX1_ofAllTerms 1 = .ok (.istore_n 1, 1) := by decide +kernel
theorem dX1_ofAllTerms_2 : decode cX1_ofAllTerms 2 = .ok (.iload_n 1, 1) := by decide +kernel
theorem dX1_ofAllTerms_3 : decode cX1_ofAllTerms 3 = .ok (.bipush 60, 2) := by decide +kernel
theorem dX1_ofAllTerms_5 : decode cX1_ofAllTerms 5 = .ok (.if_icmp .gt 16, 3) := by decide +kernel
theorem dX1_ofAllTerms_8 : decode cX1_ofAllTerms 8 = .ok (.aload_n 0, 1) := by decide +kernel
theorem dX1_ofAllTerms_9 : decode cX1_ofAllTerms 9 = .ok (.getfield 9, 3) := by decide +kernel
theorem dX1_ofAllTerms_12 : decode cX1_ofAllTerms 12 = .ok (.iload_n 1, 1) := by decide +kernel
theorem dX1_ofAllTerms_13 : decode cX1_ofAllTerms 13 = .ok (.iconst 0, 1) := by decide +kernel
theorem dX1_ofAllTerms_14 : decode cX1_ofAllTerms 14 = .ok (.iastore, 1) := by decide +kernel
theorem dX1_ofAllTerms_15 : decode cX1_ofAllTerms 15 = .ok (.iinc 1 1, 3) := by decide +kernel
theorem dX1_ofAllTerms_18 : decode cX1_ofAllTerms 18 = .ok (.goto (-16), 3) := by decide +kernel
theorem dX1_ofAllTerms_21 : decode cX1_ofAllTerms 21 = .ok (.return_, 1) := by decide +kernel
theorem dX1_multiply_0 : decode cX1_multiply 0 = .ok (.bipush 60, 2) := by decide +kernel
theorem dX1_multiply_2 : decode cX1_multiply 2 = .ok (.istore_n 2, 1) := by decide +kernel
theorem dX1_multiply_3 : decode cX1_multiply 3 = .ok (.iload_n 2, 1) := by decide +kernel
theorem dX1_multiply_4 : decode cX1_multiply 4 = .ok (.ifCond .lt 77, 3) := by decide +kernel
theorem dX1_multiply_7 : decode cX1_multiply 7 = .ok (.ldc 15, 2) := by decide +kernel
theorem dX1_multiply_9 : decode cX1_multiply 9 = .ok (.istore_n 3, 1) := by decide +kernel
theorem dX1_multiply_10 : decode cX1_multiply 10 = .ok (.iconst 0, 1) := by decide +kernel
theorem dX1_multiply_11 : decode cX1_multiply 11 = .ok (.istore 4, 2) := by decide +kernel
theorem dX1_multiply_13 : decode cX1_multiply 13 = .ok (.iload 4, 2) := by decide +kernel
theorem dX1_multiply_15 : decode cX1_multiply 15 = .ok (.aload_n 1, 1) := by decide +kernel
theorem dX1_multiply_16 : decode cX1_multiply 16 = .ok (.invokevirtual 16, 3) := by decide +kernel
theorem dX1_multiply_19 : decode cX1_multiply 19 = .ok (.if_icmp .ge 49, 3) := by decide +kernel
theorem dX1_multiply_22 : decode cX1_multiply 22 = .ok (.iload_n 2, 1) := by decide +kernel
theorem dX1_multiply_23 : decode cX1_multiply 23 = .ok (.aload_n 1, 1) := by decide +kernel
theorem dX1_multiply_24 : decode cX1_multiply 24 = .ok (.iload 4, 2) := by decide +kernel
theorem dX1_multiply_26 : decode cX1_multiply 26 = .ok (.invokevirtual 22, 3) := by decide +kernel
theorem dX1_multiply_29 : decode cX1_multiply 29 = .ok (.isub, 1) := by decide +kernel
theorem dX1_multiply_30 : decode cX1_multiply 30 = .ok (.istore 5, 2) := by decide +kernel
theorem dX1_multiply_32 : decode cX1_multiply 32 = .ok (.iload 5, 2) := by decide +kernel
theorem dX1_multiply_34 : decode cX1_multiply 34 = .ok (.ifCond .lt 28, 3) := by decide +kernel
theorem dX1_multiply_37 : decode cX1_multiply 37 = .ok (.iload 5, 2) := by decide +kernel
theorem dX1_multiply_39 : decode cX1_multiply 39 = .ok (.iload_n 2, 1) := by decide +kernel
theorem dX1_multiply_40 : decode cX1_multiply 40 = .ok (.if_icmp .gt 22, 3) := by decide +kernel
theorem dX1_multiply_43 : decode cX1_multiply 43 = .ok (.iload_n 3, 1) := by decide +kernel
theorem dX1_multiply_44 : decode cX1_multiply 44 = .ok (.aload_n 0, 1) := by decide +kernel
theorem dX1_multiply_45 : decode cX1_multiply 45 = .ok (.getfield 9, 3) := by decide +kernel
theorem dX1_multiply_48 : decode cX1_multiply 48 = .ok (.iload 5, 2) := by decide +kernel
theorem dX1_multiply_50 : decode cX1_multiply 50 = .ok (.iaload, 1) := by decide +kernel
theorem dX1_multiply_51 : decode cX1_multiply 51 = .ok (.aload_n 1, 1) := by decide +kernel
theorem dX1_multiply_52 : decode cX1_multiply 52 = .ok (.iload 4, 2) := by decide +kernel
theorem dX1_multiply_54 : decode cX1_multiply 54 = .ok (.invokevirtual 26, 3) := by decide +kernel
theorem dX1_multiply_57 : decode cX1_multiply 57 = .ok (.iadd, 1) := by decide +kernel
theorem dX1_multiply_58 : decode cX1_multiply 58 = .ok (.invokestatic 29, 3) := by decide +kernel
theorem dX1_multiply_61 : decode cX1_multiply 61 = .ok (.istore_n 3, 1) := by decide +kernel
theorem dX1_multiply_62 : decode cX1_multiply 62 = .ok (.iinc 4 1, 3) := by decide +kernel
theorem dX1_multiply_65 : decode cX1_multiply 65 = .ok (.goto (-52), 3) := by decide +kernel
theorem dX1_multiply_68 : decode cX1_multiply 68 = .ok (.aload_n 0, 1) := by decide +kernel
theorem dX1_multiply_69 : decode cX1_multiply 69 = .ok (.getfield 9, 3) := by decide +kernel
theorem dX1_multiply_72 : decode cX1_multiply 72 = .ok (.iload_n 2, 1) := by decide +kernel
theorem dX1_multiply_73 : decode cX1_multiply 73 = .ok (.iload_n 3, 1) := by decide +kernel
theorem dX1_multiply_74 : decode cX1_multiply 74 = .ok (.iastore, 1) := by decide +kernel
theorem dX1_multiply_75 : decode cX1_multiply 75 = .ok (.iinc 2 (-1), 3) := by decide +kernel
theorem dX1_multiply_78 : decode cX1_multiply 78 = .ok (.goto (-75), 3) := by decide +kernel
theorem dX1_multiply_81 : decode cX1_multiply 81 = .ok (.return_, 1) := by decide +kernel
theorem dX1_at_0 : decode cX1_at 0 = .ok (.iload_n 1, 1) := by decide +kernel
theorem dX1_at_1 : decode cX1_at 1 = .ok (.ifCond .lt 29, 3) := by decide +kernel
theorem dX1_at_4 : decode cX1_at 4 = .ok (.iload_n 1, 1) := by decide +kernel
theorem dX1_at_5 : decode cX1_at 5 = .ok (.bipush 60, 2) := by decide +kernel
theorem dX1_at_7 : decode cX1_at 7 = .ok (.if_icmp .gt 23, 3) := by decide +kernel
theorem dX1_at_10 : decode cX1_at 10 = .ok (.aload_n 0, 1) := by decide +kernel
theorem dX1_at_11 : decode cX1_at 11 = .ok (.getfield 9, 3) := by decide +kernel
theorem dX1_at_14 : decode cX1_at 14 = .ok (.iload_n 1, 1) := by decide +kernel
theorem dX1_at_15 : decode cX1_at 15 = .ok (.iaload, 1) := by decide +kernel
theorem dX1_at_16 : decode cX1_at 16 = .ok (.ldc 15, 2) := by decide +kernel
theorem dX1_at_18 : decode cX1_at 18 = .ok (.if_icmp .ge 12, 3) := by decide +kernel
theorem dX1_at_21 : decode cX1_at 21 = .ok (.aload_n 0, 1) := by decide +kernel
theorem dX1_at_22 : decode cX1_at 22 = .ok (.getfield 9, 3) := by decide +kernel
theorem dX1_at_25 : decode cX1_at 25 = .ok (.iload_n 1, 1) := by decide +kernel
theorem dX1_at_26 : decode cX1_at 26 = .ok (.iaload, 1) := by decide +kernel
theorem dX1_at_27 : decode cX1_at 27 = .ok (.goto 5, 3) := by decide +kernel
theorem dX1_at_30 : decode cX1_at 30 = .ok (.bipush (-5), 2) := by decide +kernel
theorem dX1_at_32 : decode cX1_at 32 = .ok (.ireturn, 1) := by decide +kernel
theorem dX1_isLike_0 : decode cX1_isLike 0 = .ok (.iconst 0, 1) := by decide +kernel
theorem dX1_isLike_1 : decode cX1_isLike 1 = .ok (.istore_n 2, 1) := by decide +kernel
theorem dX1_isLike_2 : decode cX1_isLike 2 = .ok (.iload_n 2, 1) := by decide +kernel
theorem dX1_isLike_3 : decode cX1_isLike 3 = .ok (.bipush 60, 2) := by decide +kernel
theorem dX1_isLike_5 : decode cX1_isLike 5 = .ok (.if_icmp .gt 26, 3) := by decide +kernel
theorem dX1_isLike_8 : decode cX1_isLike 8 = .ok (.aload_n 0, 1) := by decide +kernel
theorem dX1_isLike_9 : decode cX1_isLike 9 = .ok (.getfield 9, 3) := by decide +kernel
theorem dX1_isLike_12 : decode cX1_isLike 12 = .ok (.iload_n 2, 1) := by decide +kernel
theorem dX1_isLike_13 : decode cX1_isLike 13 = .ok (.iaload, 1) := by decide +kernel
theorem dX1_isLike_14 : decode cX1_isLike 14 = .ok (.aload_n 1, 1) := by decide +kernel
theorem dX1_isLike_15 : decode cX1_isLike 15 = .ok (.getfield 9, 3) := by decide +kernel
theorem dX1_isLike_18 : decode cX1_isLike 18 = .ok (.iload_n 2, 1) := by decide +kernel
theorem dX1_isLike_19 : decode cX1_isLike 19 = .ok (.iaload, 1) := by decide +kernel
theorem dX1_isLike_20 : decode cX1_isLike 20 = .ok (.if_icmp .eq 5, 3) := by decide +kernel
theorem dX1_isLike_23 : decode cX1_isLike 23 = .ok (.iconst 0, 1) := by decide +kernel
theorem dX1_isLike_24 : decode cX1_isLike 24 = .ok (.ireturn, 1) := by decide +kernel
theorem dX1_isLike_25 : decode cX1_isLike 25 = .ok (.iinc 2 1, 3) := by decide +kernel
theorem dX1_isLike_28 : decode cX1_isLike 28 = .ok (.goto (-26), 3) := by decide +kernel
theorem dX1_isLike_31 : decode cX1_isLike 31 = .ok (.iconst 1, 1) := by decide +kernel
theorem dX1_isLike_32 : decode cX1_isLike 32 = .ok (.ireturn, 1) := by decide +kernel
theorem dX2_init_0 : decode cX2_init 0 = .ok (.aload_n 0, 1) := by decide +kernel
theorem dX2_init_1 : decode cX2_init 1 = .ok (.invokespecial 3, 3) := by decide +kernel
theorem dX2_init_4 : decode cX2_init 4 = .ok (.aload_n 0, 1) := by decide +kernel
theorem dX2_init_5 : decode cX2_init 5 = .ok (.bipush 7, 2) := by decide +kernel
theorem dX2_init_7 : decode cX2_init 7 = .ok (.newarray .int, 2) := by decide +kernel
theorem dX2_init_9 : decode cX2_init 9 = .ok (.putfield 11, 3) := by decide +kernel
theorem dX2_init_12 : decode cX2_init 12 = .ok (.aload_n 0, 1) := by decide +kernel
theorem dX2_init_13 : decode cX2_init 13 = .ok (.bipush 7, 2) := by decide +kernel
theorem dX2_init_15 : decode cX2_init 15 = .ok (.newarray .int, 2) := by decide +kernel
theorem dX2_init_17 : decode cX2_init 17 = .ok (.putfield 15, 3) := by decide +kernel
theorem dX2_init_20 : decode cX2_init 20 = .ok (.aload_n 0, 1) := by decide +kernel
theorem dX2_init_21 : decode cX2_init 21 = .ok (.bipush 7, 2) := by decide +kernel
theorem dX2_init_23 : decode cX2_init 23 = .ok (.newarray .int, 2) := by decide +kernel
theorem dX2_init_25 : decode cX2_init 25 = .ok (.putfield 18, 3) := by decide +kernel
theorem dX2_init_28 : decode cX2_init 28 = .ok (.aload_n 0, 1) := by decide +kernel
theorem dX2_init_29 : decode cX2_init 29 = .ok (.iconst 0, 1) := by decide +kernel
theorem dX2_init_30 : decode cX2_init 30 = .ok (.putfield 21, 3) := by decide +kernel
theorem dX2_init_33 : decode cX2_init 33 = .ok (.return_, 1) := by decide +kernel
theorem dX2_wrap_0 : decode cX2_wrap 0 = .ok (.aload_n 0, 1) := by decide +kernel
theorem dX2_wrap_1 : decode cX2_wrap 1 = .ok (.iconst 0, 1) := by decide +kernel
theorem dX2_wrap_2 : decode cX2_wrap 2 = .ok (.putfield 21, 3) := by decide +kernel
theorem dX2_wrap_5 : decode cX2_wrap 5 = .ok (.aload_n 1, 1) := by decide +kernel
theorem dX2_wrap_6 : decode cX2_wrap 6 = .ok (.invokevirtual 25, 3) := by decide +kernel
theorem dX2_wrap_9 : decode cX2_wrap 9 = .ok (.ifCond .ne 4, 3) := by decide +kernel
theorem dX2_wrap_12 : decode cX2_wrap 12 = .ok (.return_, 1) := by decide +kernel
theorem dX2_wrap_13 : decode cX2_wrap 13 = .ok (.aload_n 0, 1) := by decide +kernel
theorem dX2_wrap_14 : decode cX2_wrap 14 = .ok (.iconst 1, 1) := by decide +kernel
theorem dX2_wrap_15 : decode cX2_wrap 15 = .ok (.iconst 0, 1) := by decide +kernel
theorem dX2_wrap_16 : decode cX2_wrap 16 = .ok (.aload_n 1, 1) := by decide +kernel
theorem dX2_wrap_17 : decode cX2_wrap 17 = .ok (.iconst 1, 1) := by decide +kernel
theorem dX2_wrap_18 : decode cX2_wrap 18 = .ok (.iconst 0, 1) := by decide +kernel
theorem dX2_wrap_19 : decode cX2_wrap 19 = .ok (.invokevirtual 30, 3) := by decide +kernel
theorem dX2_wrap_22 : decode cX2_wrap 22 = .ok (.invokevirtual 34, 3) := by decide +kernel
theorem dX2_wrap_25 : decode cX2_wrap 25 = .ok (.iconst 0, 1) := by decide +kernel
theorem dX2_wrap_26 : decode cX2_wrap 26 = .ok (.istore_n 2, 1) := by decide +kernel
theorem dX2_wrap_27 : decode cX2_wrap 27 = .ok (.iload_n 2, 1) := by decide +kernel
theorem dX2_wrap_28 : decode cX2_wrap 28 = .ok (.getstatic 38, 3) := by decide +kernel
theorem dX2_wrap_31 : decode cX2_wrap 31 = .ok (.arraylength, 1) := by decide +kernel
theorem dX2_wrap_32 : decode cX2_wrap 32 = .ok (.if_icmp .ge 66, 3) := by decide +kernel
theorem dX2_wrap_35 : decode cX2_wrap 35 = .ok (.iload_n 2, 1) := by decide +kernel
theorem dX2_wrap_36 : decode cX2_wrap 36 = .ok (.getstatic 41, 3) := by decide +kernel
theorem dX2_wrap_39 : decode cX2_wrap 39 = .ok (.arraylength, 1) := by decide +kernel
theorem dX2_wrap_40 : decode cX2_wrap 40 = .ok (.if_icmp .ge 58, 3) := by decide +kernel
theorem dX2_wrap_43 : decode cX2_wrap 43 = .ok (.aload_n 1, 1) := by decide +kernel
theorem dX2_wrap_44 : decode cX2_wrap 44 = .ok (.getstatic 38, 3) := by decide +kernel
theorem dX2_wrap_47 : decode cX2_wrap 47 = .ok (.iload_n 2, 1) := by decide +kernel
theorem dX2_wrap_48 : decode cX2_wrap 48 = .ok (.iaload, 1) := by decide +kernel
theorem dX2_wrap_49 : decode cX2_wrap 49 = .ok (.getstatic 41, 3) := by decide +kernel
theorem dX2_wrap_52 : decode cX2_wrap 52 = .ok (.iload_n 2, 1) := by decide +kernel
theorem dX2_wrap_53 : decode cX2_wrap 53 = .ok (.iaload, 1) := by decide +kernel
theorem dX2_wrap_54 : decode cX2_wrap 54 = .ok (.invokevirtual 30, 3) := by decide +kernel
theorem dX2_wrap_57 : decode cX2_wrap 57 = .ok (.istore_n 3, 1) := by decide +kernel
theorem dX2_wrap_58 : decode cX2_wrap 58 = .ok (.aload_n 1, 1) := by decide +kernel
theorem dX2_wrap_59 : decode cX2_wrap 59 = .ok (.getstatic 38, 3) := by decide +kernel
theorem dX2_wrap_62 : decode cX2_wrap 62 = .ok (.iload_n 2, 1) := by decide +kernel
theorem dX2_wrap_63 : decode cX2_wrap 63 = .ok (.iaload, 1) := by decide +kernel
theorem dX2_wrap_64 : decode cX2_wrap 64 = .ok (.getstatic 41, 3) := by decide +kernel
theorem dX2_wrap_67 : decode cX2_wrap 67 = .ok (.iload_n 2, 1) := by decide +kernel
theorem dX2_wrap_68 : decode cX2_wrap 68 = .ok (.iaload, 1) := by decide +kernel
theorem dX2_wrap_69 : decode cX2_wrap 69 = .ok (.iload_n 3, 1) := by decide +kernel
theorem dX2_wrap_70 : decode cX2_wrap 70 = .ok (.invokevirtual 44, 3) := by decide +kernel
theorem dX2_wrap_73 : decode cX2_wrap 73 = .ok (.iconst 2, 1) := by decide +kernel
theorem dX2_wrap_74 : decode cX2_wrap 74 = .ok (.if_icmp .lt 18, 3) := by decide +kernel
theorem dX2_wrap_77 : decode cX2_wrap 77 = .ok (.aload_n 0, 1) := by decide +kernel
theorem dX2_wrap_78 : decode cX2_wrap 78 = .ok (.getstatic 38, 3) := by decide +kernel
theorem dX2_wrap_81 : decode cX2_wrap 81 = .ok (.iload_n 2, 1) := by decide +kernel
theorem dX2_wrap_82 : decode cX2_wrap 82 = .ok (.iaload, 1) := by decide +kernel
theorem dX2_wrap_83 : decode cX2_wrap 83 = .ok (.getstatic 41, 3) := by decide +kernel
theorem dX2_wrap_86 : decode cX2_wrap 86 = .ok (.iload_n 2, 1) := by decide +kernel
theorem dX2_wrap_87 : decode cX2_wrap 87 = .ok (.iaload, 1) := by decide +kernel
theorem dX2_wrap_88 : decode cX2_wrap 88 = .ok (.iload_n 3, 1) := by decide +kernel
theorem dX2_wrap_89 : decode cX2_wrap 89 = .ok (.invokevirtual 34, 3) := by decide +kernel
theorem dX2_wrap_92 : decode cX2_wrap 92 = .ok (.iinc 2 1, 3) := by decide +kernel
theorem dX2_wrap_95 : decode cX2_wrap 95 = .ok (.goto (-68), 3) := by decide +kernel
theorem dX2_wrap_98 : decode cX2_wrap 98 = .ok (.aload_n 0, 1) := by decide +kernel
theorem dX2_wrap_99 : decode cX2_wrap 99 = .ok (.iconst 0, 1) := by decide +kernel
theorem dX2_wrap_100 : decode cX2_wrap 100 = .ok (.iconst 1, 1) := by decide +kernel
theorem dX2_wrap_101 : decode cX2_wrap 101 = .ok (.aload_n 1, 1) := by decide +kernel
theorem dX2_wrap_102 : decode cX2_wrap 102 = .ok (.iconst 0, 1) := by decide +kernel
theorem dX2_wrap_103 : decode cX2_wrap 103 = .ok (.iconst 1, 1) := by decide +kernel
theorem dX2_wrap_104 : decode cX2_wrap 104 = .ok (.invokevirtual 30, 3) := by decide +kernel
theorem dX2_wrap_107 : decode cX2_wrap 107 = .ok (.invokevirtual 34, 3) := by decide +kernel
theorem dX2_wrap_110 : decode cX2_wrap 110 = .ok (.return_, 1) := by decide +kernel
theorem dX2_add_0 : decode cX2_add 0 = .ok (.aload_n 0, 1) := by decide +kernel
theorem dX2_add_1 : decode cX2_add 1 = .ok (.getfield 21, 3) := by decide +kernel
theorem dX2_add_4 : decode cX2_add 4 = .ok (.bipush 7, 2) := by decide +kernel
theorem dX2_add_6 : decode cX2_add 6 = .ok (.if_icmp .ge 43, 3) := by decide +kernel
theorem dX2_add_9 : decode cX2_add 9 = .ok (.aload_n 0, 1) := by decide +kernel
theorem dX2_add_10 : decode cX2_add 10 = .ok (.getfield 11, 3) := by decide +kernel
theorem dX2_add_13 : decode cX2_add 13 = .ok (.aload_n 0, 1) := by decide +kernel
theorem dX2_add_14 : decode cX2_add 14 = .ok (.getfield 21, 3) := by decide +kernel
theorem dX2_add_17 : decode cX2_add 17 = .ok (.iload_n 1, 1) := by decide +kernel
theorem dX2_add_18 : decode cX2_add 18 = .ok (.iastore, 1) := by decide +kernel
theorem dX2_add_19 : decode cX2_add 19 = .ok (.aload_n 0, 1) := by decide +kernel
theorem dX2_add_20 : decode cX2_add 20 = .ok (.getfield 15, 3) := by decide +kernel
theorem dX2_add_23 : decode cX2_add 23 = .ok (.aload_n 0, 1) := by decide +kernel
theorem dX2_add_24 : decode cX2_add 24 = .ok (.getfield 21, 3) := by decide +kernel
theorem dX2_add_27 : decode cX2_add 27 = .ok (.iload_n 2, 1) := by decide +kernel
theorem dX2_add_28 : decode cX2_add 28 = .ok (.iastore, 1) := by decide +kernel
theorem dX2_add_29 : decode cX2_add 29 = .ok (.aload_n 0, 1) := by decide +kernel
theorem dX2_add_30 : decode cX2_add 30 = .ok (.getfield 18, 3) := by decide +kernel
theorem dX2_add_33 : decode cX2_add 33 = .ok (.aload_n 0, 1) := by decide +kernel
theorem dX2_add_34 : decode cX2_add 34 = .ok (.getfield 21, 3) := by decide +kernel
theorem dX2_add_37 : decode cX2_add 37 = .ok (.iload_n 3, 1) := by decide +kernel
theorem dX2_add_38 : decode cX2_add 38 = .ok (.iastore, 1) := by decide +kernel
theorem dX2_add_39 : decode cX2_add 39 = .ok (.aload_n 0, 1) := by decide +kernel
theorem dX2_add_40 : decode cX2_add 40 = .ok (.dup, 1) := by decide +kernel
theorem dX2_add_41 : decode cX2_add 41 = .ok (.getfield 21, 3) := by decide +kernel
theorem dX2_add_44 : decode cX2_add 44 = .ok (.iconst 1, 1) := by decide +kernel
theorem dX2_add_45 : decode cX2_add 45 = .ok (.iadd, 1) := by decide +kernel
theorem dX2_add_46 : decode cX2_add 46 = .ok (.putfield 21, 3) := by decide +kernel
theorem dX2_add_49 : decode cX2_add 49 = .ok (.return_, 1) := by decide +kernel
theorem dX2_size_0 : decode cX2_size 0 = .ok (.aload_n 0, 1) := by decide +kernel
theorem dX2_size_1 : decode cX2_size 1 = .ok (.getfield 21, 3) := by decide +kernel
theorem dX2_size_4 : decode cX2_size 4 = .ok (.ireturn, 1) := by decide +kernel
theorem dX2_weightA_0 : decode cX2_weightA 0 = .ok (.iload_n 1, 1) := by decide +kernel
theorem dX2_weightA_1 : decode cX2_weightA 1 = .ok (.ifCond .lt 20, 3) := by decide +kernel
theorem dX2_weightA_4 : decode cX2_weightA 4 = .ok (.iload_n 1, 1) := by decide +kernel
theorem dX2_weightA_5 : decode cX2_weightA 5 = .ok (.aload_n 0, 1) := by decide +kernel
theorem dX2_weightA_6 : decode cX2_weightA 6 = .ok (.getfield 21, 3) := by decide +kernel
theorem dX2_weightA_9 : decode cX2_weightA 9 = .ok (.if_icmp .ge 12, 3) := by decide +kernel
theorem dX2_weightA_12 : decode cX2_weightA 12 = .ok (.aload_n 0, 1) := by decide +kernel
theorem dX2_weightA_13 : decode cX2_weightA 13 = .ok (.getfield 11, 3) := by decide +kernel
theorem dX2_weightA_16 : decode cX2_weightA 16 = .ok (.iload_n 1, 1) := by decide +kernel
theorem dX2_weightA_17 : decode cX2_weightA 17 = .ok (.iaload, 1) := by decide +kernel
theorem dX2_weightA_18 : decode cX2_weightA 18 = .ok (.goto 4, 3) := by decide +kernel
theorem dX2_weightA_21 : decode cX2_weightA 21 = .ok (.iconst 0, 1) := by decide +kernel
theorem dX2_weightA_22 : decode cX2_weightA 22 = .ok (.ireturn, 1) := by decide +kernel
theorem dX2_weightB_0 : decode cX2_weightB 0 = .ok (.iload_n 1, 1) := by decide +kernel
theorem dX2_weightB_1 : decode cX2_weightB 1 = .ok (.ifCond .lt 20, 3) := by decide +kernel
theorem dX2_weightB_4 : decode cX2_weightB 4 = .ok (.iload_n 1, 1) := by decide +kernel
theorem dX2_weightB_5 : decode cX2_weightB 5 = .ok (.aload_n 0, 1) := by decide +kernel
theorem dX2_weightB_6 : decode cX2_weightB 6 = .ok (.getfield 21, 3) := by decide +kernel
theorem dX2_weightB_9 : decode cX2_weightB 9 = .ok (.if_icmp .ge 12, 3) := by decide +kernel
theorem dX2_weightB_12 : decode cX2_weightB 12 = .ok (.aload_n 0, 1) := by decide +kernel
theorem dX2_weightB_13 : decode cX2_weightB 13 = .ok (.getfield 15, 3) := by decide +kernel
theorem dX2_weightB_16 : decode cX2_weightB 16 = .ok (.iload_n 1, 1) := by decide +kernel
theorem dX2_weightB_17 : decode cX2_weightB 17 = .ok (.iaload, 1) := by decide +kernel
theorem dX2_weightB_18 : decode cX2_weightB 18 = .ok (.goto 4, 3) := by decide +kernel
theorem dX2_weightB_21 : decode cX2_weightB 21 = .ok (.iconst 0, 1) := by decide +kernel
theorem dX2_weightB_22 : decode cX2_weightB 22 = .ok (.ireturn, 1) := by decide +kernel
theorem dX2_level_0 : decode cX2_level 0 = .ok (.iload_n 1, 1) := by decide +kernel
theorem dX2_level_1 : decode cX2_level 1 = .ok (.ifCond .lt 20, 3) := by decide +kernel
theorem dX2_level_4 : decode cX2_level 4 = .ok (.iload_n 1, 1) := by decide +kernel
theorem dX2_level_5 : decode cX2_level 5 = .ok (.aload_n 0, 1) := by decide +kernel
theorem dX2_level_6 : decode cX2_level 6 = .ok (.getfield 21, 3) := by decide +kernel
theorem dX2_level_9 : decode cX2_level 9 = .ok (.if_icmp .ge 12, 3) := by decide +kernel
theorem dX2_level_12 : decode cX2_level 12 = .ok (.aload_n 0, 1) := by decide +kernel
theorem dX2_level_13 : decode cX2_level 13 = .ok (.getfield 18, 3) := by decide +kernel
theorem dX2_level_16 : decode cX2_level 16 = .ok (.iload_n 1, 1) := by decide +kernel
theorem dX2_level_17 : decode cX2_level 17 = .ok (.iaload, 1) := by decide +kernel
theorem dX2_level_18 : decode cX2_level 18 = .ok (.goto 4, 3) := by decide +kernel
theorem dX2_level_21 : decode cX2_level 21 = .ok (.iconst 0, 1) := by decide +kernel
theorem dX2_level_22 : decode cX2_level 22 = .ok (.ireturn, 1) := by decide +kernel
theorem dX2_weigh_0 : decode cX2_weigh 0 = .ok (.aload_n 0, 1) := by decide +kernel
theorem dX2_weigh_1 : decode cX2_weigh 1 = .ok (.iload_n 1, 1) := by decide +kernel
theorem dX2_weigh_2 : decode cX2_weigh 2 = .ok (.invokevirtual 48, 3) := by decide +kernel
theorem dX2_weigh_5 : decode cX2_weigh 5 = .ok (.iload_n 2, 1) := by decide +kernel
theorem dX2_weigh_6 : decode cX2_weigh 6 = .ok (.imul, 1) := by decide +kernel
theorem dX2_weigh_7 : decode cX2_weigh 7 = .ok (.aload_n 0, 1) := by decide +kernel
theorem dX2_weigh_8 : decode cX2_weigh 8 = .ok (.iload_n 1, 1) := by decide +kernel
theorem dX2_weigh_9 : decode cX2_weigh 9 = .ok (.invokevirtual 52, 3) := by decide +kernel
theorem dX2_weigh_12 : decode cX2_weigh 12 = .ok (.iload_n 3, 1) := by decide +kernel
theorem dX2_weigh_13 : decode cX2_weigh 13 = .ok (.imul, 1) := by decide +kernel
theorem dX2_weigh_14 : decode cX2_weigh 14 = .ok (.iadd, 1) := by decide +kernel
theorem dX2_weigh_15 : decode cX2_weigh 15 = .ok (.ireturn, 1) := by decide +kernel
theorem dX2_covers_0 : decode cX2_covers 0 = .ok (.iconst 0, 1) := by decide +kernel
theorem dX2_covers_1 : decode cX2_covers 1 = .ok (.istore_n 3, 1) := by decide +kernel
theorem dX2_covers_2 : decode cX2_covers 2 = .ok (.iload_n 3, 1) := by decide +kernel
theorem dX2_covers_3 : decode cX2_covers 3 = .ok (.aload_n 0, 1) := by decide +kernel
theorem dX2_covers_4 : decode cX2_covers 4 = .ok (.getfield 21, 3) := by decide +kernel
theorem dX2_covers_7 : decode cX2_covers 7 = .ok (.if_icmp .ge 37, 3) := by decide +kernel
theorem dX2_covers_10 : decode cX2_covers 10 = .ok (.aload_n 0, 1) := by decide +kernel
theorem dX2_covers_11 : decode cX2_covers 11 = .ok (.getfield 11, 3) := by decide +kernel
theorem dX2_covers_14 : decode cX2_covers 14 = .ok (.iload_n 3, 1) := by decide +kernel
theorem dX2_covers_15 : decode cX2_covers 15 = .ok (.iaload, 1) := by decide +kernel
theorem dX2_covers_16 : decode cX2_covers 16 = .ok (.iload_n 1, 1) := by decide +kernel
theorem dX2_covers_17 : decode cX2_covers 17 = .ok (.imul, 1) := by decide +kernel
theorem dX2_covers_18 : decode cX2_covers 18 = .ok (.aload_n 0, 1) := by decide +kernel
theorem dX2_covers_19 : decode cX2_covers 19 = .ok (.getfield 15, 3) := by decide +kernel
theorem dX2_covers_22 : decode cX2_covers 22 = .ok (.iload_n 3, 1) := by decide +kernel
theorem dX2_covers_23 : decode cX2_covers 23 = .ok (.iaload, 1) := by decide +kernel
theorem dX2_covers_24 : decode cX2_covers 24 = .ok (.iload_n 2, 1) := by decide +kernel
theorem dX2_covers_25 : decode cX2_covers 25 = .ok (.imul, 1) := by decide +kernel
theorem dX2_covers_26 : decode cX2_covers 26 = .ok (.iadd, 1) := by decide +kernel
theorem dX2_covers_27 : decode cX2_covers 27 = .ok (.aload_n 0, 1) := by decide +kernel
theorem dX2_covers_28 : decode cX2_covers 28 = .ok (.getfield 18, 3) := by decide +kernel
theorem dX2_covers_31 : decode cX2_covers 31 = .ok (.iload_n 3, 1) := by decide +kernel
theorem dX2_covers_32 : decode cX2_covers 32 = .ok (.iaload, 1) := by decide +kernel
theorem dX2_covers_33 : decode cX2_covers 33 = .ok (.if_icmp .ge 5, 3) := by decide +kernel
theorem dX2_covers_36 : decode cX2_covers 36 = .ok (.iconst 0, 1) := by decide +kernel
theorem dX2_covers_37 : decode cX2_covers 37 = .ok (.ireturn, 1) := by decide +kernel
theorem dX2_covers_38 : decode cX2_covers 38 = .ok (.iinc 3 1, 3) := by decide +kernel
theorem dX2_covers_41 : decode cX2_covers 41 = .ok (.goto (-39), 3) := by decide +kernel
theorem dX2_covers_44 : decode cX2_covers 44 = .ok (.iconst 1, 1) := by decide +kernel
theorem dX2_covers_45 : decode cX2_covers 45 = .ok (.ireturn, 1) := by decide +kernel
theorem dX2_barring_0 : decode cX2_barring 0 = .ok (.iconst 0, 1) := by decide +kernel
theorem dX2_barring_1 : decode cX2_barring 1 = .ok (.istore 5, 2) := by decide +kernel
theorem dX2_barring_3 : decode cX2_barring 3 = .ok (.iload 5, 2) := by decide +kernel
theorem dX2_barring_5 : decode cX2_barring 5 = .ok (.aload_n 0, 1) := by decide +kernel
theorem dX2_barring_6 : decode cX2_barring 6 = .ok (.getfield 21, 3) := by decide +kernel
theorem dX2_barring_9 : decode cX2_barring 9 = .ok (.if_icmp .ge 64, 3) := by decide +kernel
theorem dX2_barring_12 : decode cX2_barring 12 = .ok (.aload_n 0, 1) := by decide +kernel
theorem dX2_barring_13 : decode cX2_barring 13 = .ok (.getfield 11, 3) := by decide +kernel
theorem dX2_barring_16 : decode cX2_barring 16 = .ok (.iload 5, 2) := by decide +kernel
theorem dX2_barring_18 : decode cX2_barring 18 = .ok (.iaload, 1) := by decide +kernel
theorem dX2_barring_19 : decode cX2_barring 19 = .ok (.iload_n 1, 1) := by decide +kernel
theorem dX2_barring_20 : decode cX2_barring 20 = .ok (.iconst 1, 1) := by decide +kernel
theorem dX2_barring_21 : decode cX2_barring 21 = .ok (.iadd, 1) := by decide +kernel
theorem dX2_barring_22 : decode cX2_barring 22 = .ok (.imul, 1) := by decide +kernel
theorem dX2_barring_23 : decode cX2_barring 23 = .ok (.aload_n 0, 1) := by decide +kernel
theorem dX2_barring_24 : decode cX2_barring 24 = .ok (.getfield 15, 3) := by decide +kernel
theorem dX2_barring_27 : decode cX2_barring 27 = .ok (.iload 5, 2) := by decide +kernel
theorem dX2_barring_29 : decode cX2_barring 29 = .ok (.iaload, 1) := by decide +kernel
theorem dX2_barring_30 : decode cX2_barring 30 = .ok (.iload_n 2, 1) := by decide +kernel
theorem dX2_barring_31 : decode cX2_barring 31 = .ok (.iconst 1, 1) := by decide +kernel
theorem dX2_barring_32 : decode cX2_barring 32 = .ok (.iadd, 1) := by decide +kernel
theorem dX2_barring_33 : decode cX2_barring 33 = .ok (.imul, 1) := by decide +kernel
theorem dX2_barring_34 : decode cX2_barring 34 = .ok (.iadd, 1) := by decide +kernel
theorem dX2_barring_35 : decode cX2_barring 35 = .ok (.istore 6, 2) := by decide +kernel
theorem dX2_barring_37 : decode cX2_barring 37 = .ok (.aload_n 0, 1) := by decide +kernel
theorem dX2_barring_38 : decode cX2_barring 38 = .ok (.getfield 18, 3) := by decide +kernel
theorem dX2_barring_41 : decode cX2_barring 41 = .ok (.iload 5, 2) := by decide +kernel
theorem dX2_barring_43 : decode cX2_barring 43 = .ok (.iaload, 1) := by decide +kernel
theorem dX2_barring_44 : decode cX2_barring 44 = .ok (.ifCond .le 23, 3) := by decide +kernel
theorem dX2_barring_47 : decode cX2_barring 47 = .ok (.iload 6, 2) := by decide +kernel
theorem dX2_barring_49 : decode cX2_barring 49 = .ok (.iload 4, 2) := by decide +kernel
theorem dX2_barring_51 : decode cX2_barring 51 = .ok (.imul, 1) := by decide +kernel
theorem dX2_barring_52 : decode cX2_barring 52 = .ok (.iload_n 3, 1) := by decide +kernel
theorem dX2_barring_53 : decode cX2_barring 53 = .ok (.aload_n 0, 1) := by decide +kernel
theorem dX2_barring_54 : decode cX2_barring 54 = .ok (.getfield 18, 3) := by decide +kernel
theorem dX2_barring_57 : decode cX2_barring 57 = .ok (.iload 5, 2) := by decide +kernel
theorem dX2_barring_59 : decode cX2_barring 59 = .ok (.iaload, 1) := by decide +kernel
theorem dX2_barring_60 : decode cX2_barring 60 = .ok (.imul, 1) := by decide +kernel
theorem dX2_barring_61 : decode cX2_barring 61 = .ok (.if_icmp .gt 6, 3) := by decide +kernel
theorem dX2_barring_64 : decode cX2_barring 64 = .ok (.iload 5, 2) := by decide +kernel
theorem dX2_barring_66 : decode cX2_barring 66 = .ok (.ireturn, 1) := by decide +kernel
theorem dX2_barring_67 : decode cX2_barring 67 = .ok (.iinc 5 1, 3) := by decide +kernel
theorem dX2_barring_70 : decode cX2_barring 70 = .ok (.goto (-67), 3) := by decide +kernel
theorem dX2_barring_73 : decode cX2_barring 73 = .ok (.iconst (-1), 1) := by decide +kernel
theorem dX2_barring_74 : decode cX2_barring 74 = .ok (.ireturn, 1) := by decide +kernel
theorem dX2_tightest_0 : decode cX2_tightest 0 = .ok (.iconst (-1), 1) := by decide +kernel
theorem dX2_tightest_1 : decode cX2_tightest 1 = .ok (.istore_n 3, 1) := by decide +kernel
theorem dX2_tightest_2 : decode cX2_tightest 2 = .ok (.iconst 0, 1) := by decide +kernel
theorem dX2_tightest_3 : decode cX2_tightest 3 = .ok (.istore 4, 2) := by decide +kernel
theorem dX2_tightest_5 : decode cX2_tightest 5 = .ok (.iconst 0, 1) := by decide +kernel
theorem dX2_tightest_6 : decode cX2_tightest 6 = .ok (.istore 5, 2) := by decide +kernel
theorem dX2_tightest_8 : decode cX2_tightest 8 = .ok (.iload 5, 2) := by decide +kernel
theorem dX2_tightest_10 : decode cX2_tightest 10 = .ok (.aload_n 0, 1) := by decide +kernel
theorem dX2_tightest_11 : decode cX2_tightest 11 = .ok (.getfield 21, 3) := by decide +kernel
theorem dX2_tightest_14 : decode cX2_tightest 14 = .ok (.if_icmp .ge 77, 3) := by decide +kernel
theorem dX2_tightest_17 : decode cX2_tightest 17 = .ok (.aload_n 0, 1) := by decide +kernel
theorem dX2_tightest_18 : decode cX2_tightest 18 = .ok (.getfield 11, 3) := by decide +kernel
theorem dX2_tightest_21 : decode cX2_tightest 21 = .ok (.iload 5, 2) := by decide +kernel
theorem dX2_tightest_23 : decode cX2_tightest 23 = .ok (.iaload, 1) := by decide +kernel
theorem dX2_tightest_24 : decode cX2_tightest 24 = .ok (.iload_n 1, 1) := by decide +kernel
theorem dX2_tightest_25 : decode cX2_tightest 25 = .ok (.iconst 1, 1) := by decide +kernel
theorem dX2_tightest_26 : decode cX2_tightest 26 = .ok (.iadd, 1) := by decide +kernel
theorem dX2_tightest_27 : decode cX2_tightest 27 = .ok (.imul, 1) := by decide +kernel
theorem dX2_tightest_28 : decode cX2_tightest 28 = .ok (.aload_n 0, 1) := by decide +kernel
theorem dX2_tightest_29 : decode cX2_tightest 29 = .ok (.getfield 15, 3) := by decide +kernel
theorem dX2_tightest_32 : decode cX2_tightest 32 = .ok (.iload 5, 2) := by decide +kernel
theorem dX2_tightest_34 : decode cX2_tightest 34 = .ok (.iaload, 1) := by decide +kernel
theorem dX2_tightest_35 : decode cX2_tightest 35 = .ok (.iload_n 2, 1) := by decide +kernel
theorem dX2_tightest_36 : decode cX2_tightest 36 = .ok (.iconst 1, 1) := by decide +kernel
theorem dX2_tightest_37 : decode cX2_tightest 37 = .ok (.iadd, 1) := by decide +kernel
theorem dX2_tightest_38 : decode cX2_tightest 38 = .ok (.imul, 1) := by decide +kernel
theorem dX2_tightest_39 : decode cX2_tightest 39 = .ok (.iadd, 1) := by decide +kernel
theorem dX2_tightest_40 : decode cX2_tightest 40 = .ok (.istore 6, 2) := by decide +kernel
theorem dX2_tightest_42 : decode cX2_tightest 42 = .ok (.aload_n 0, 1) := by decide +kernel
theorem dX2_tightest_43 : decode cX2_tightest 43 = .ok (.getfield 18, 3) := by decide +kernel
theorem dX2_tightest_46 : decode cX2_tightest 46 = .ok (.iload 5, 2) := by decide +kernel
theorem dX2_tightest_48 : decode cX2_tightest 48 = .ok (.iaload, 1) := by decide +kernel
theorem dX2_tightest_49 : decode cX2_tightest 49 = .ok (.ifCond .le 36, 3) := by decide +kernel
theorem dX2_tightest_52 : decode cX2_tightest 52 = .ok (.iload_n 3, 1) := by decide +kernel
theorem dX2_tightest_53 : decode cX2_tightest 53 = .ok (.ifCond .lt 25, 3) := by decide +kernel
theorem dX2_tightest_56 : decode cX2_tightest 56 = .ok (.iload 6, 2) := by decide +kernel
theorem dX2_tightest_58 : decode cX2_tightest 58 = .ok (.aload_n 0, 1) := by decide +kernel
theorem dX2_tightest_59 : decode cX2_tightest 59 = .ok (.getfield 18, 3) := by decide +kernel
theorem dX2_tightest_62 : decode cX2_tightest 62 = .ok (.iload_n 3, 1) := by decide +kernel
theorem dX2_tightest_63 : decode cX2_tightest 63 = .ok (.iaload, 1) := by decide +kernel
theorem dX2_tightest_64 : decode cX2_tightest 64 = .ok (.imul, 1) := by decide +kernel
theorem dX2_tightest_65 : decode cX2_tightest 65 = .ok (.iload 4, 2) := by decide +kernel
theorem dX2_tightest_67 : decode cX2_tightest 67 = .ok (.aload_n 0, 1) := by decide +kernel
theorem dX2_tightest_68 : decode cX2_tightest 68 = .ok (.getfield 18, 3) := by decide +kernel
theorem dX2_tightest_71 : decode cX2_tightest 71 = .ok (.iload 5, 2) := by decide +kernel
theorem dX2_tightest_73 : decode cX2_tightest 73 = .ok (.iaload, 1) := by decide +kernel
theorem dX2_tightest_74 : decode cX2_tightest 74 = .ok (.imul, 1) := by decide +kernel
theorem dX2_tightest_75 : decode cX2_tightest 75 = .ok (.if_icmp .ge 10, 3) := by decide +kernel
theorem dX2_tightest_78 : decode cX2_tightest 78 = .ok (.iload 5, 2) := by decide +kernel
theorem dX2_tightest_80 : decode cX2_tightest 80 = .ok (.istore_n 3, 1) := by decide +kernel
theorem dX2_tightest_81 : decode cX2_tightest 81 = .ok (.iload 6, 2) := by decide +kernel
theorem dX2_tightest_83 : decode cX2_tightest 83 = .ok (.istore 4, 2) := by decide +kernel
theorem dX2_tightest_85 : decode cX2_tightest 85 = .ok (.iinc 5 1, 3) := by decide +kernel
theorem dX2_tightest_88 : decode cX2_tightest 88 = .ok (.goto (-80), 3) := by decide +kernel
theorem dX2_tightest_91 : decode cX2_tightest 91 = .ok (.iload_n 3, 1) := by decide +kernel
theorem dX2_tightest_92 : decode cX2_tightest 92 = .ok (.ireturn, 1) := by decide +kernel
theorem dX2_floorAt_0 : decode cX2_floorAt 0 = .ok (.iconst 0, 1) := by decide +kernel
theorem dX2_floorAt_1 : decode cX2_floorAt 1 = .ok (.istore_n 2, 1) := by decide +kernel
theorem dX2_floorAt_2 : decode cX2_floorAt 2 = .ok (.iload_n 2, 1) := by decide +kernel
theorem dX2_floorAt_3 : decode cX2_floorAt 3 = .ok (.bipush 9, 2) := by decide +kernel
theorem dX2_floorAt_5 : decode cX2_floorAt 5 = .ok (.if_icmp .gt 20, 3) := by decide +kernel
theorem dX2_floorAt_8 : decode cX2_floorAt 8 = .ok (.aload_n 0, 1) := by decide +kernel
theorem dX2_floorAt_9 : decode cX2_floorAt 9 = .ok (.iload_n 1, 1) := by decide +kernel
theorem dX2_floorAt_10 : decode cX2_floorAt 10 = .ok (.iload_n 2, 1) := by decide +kernel
theorem dX2_floorAt_11 : decode cX2_floorAt 11 = .ok (.invokevirtual 55, 3) := by decide +kernel
theorem dX2_floorAt_14 : decode cX2_floorAt 14 = .ok (.ifCond .eq 5, 3) := by decide +kernel
theorem dX2_floorAt_17 : decode cX2_floorAt 17 = .ok (.iload_n 2, 1) := by decide +kernel
theorem dX2_floorAt_18 : decode cX2_floorAt 18 = .ok (.ireturn, 1) := by decide +kernel
theorem dX2_floorAt_19 : decode cX2_floorAt 19 = .ok (.iinc 2 1, 3) := by decide +kernel
theorem dX2_floorAt_22 : decode cX2_floorAt 22 = .ok (.goto (-20), 3) := by decide +kernel
theorem dX2_floorAt_25 : decode cX2_floorAt 25 = .ok (.bipush 10, 2) := by decide +kernel
theorem dX2_floorAt_27 : decode cX2_floorAt 27 = .ok (.ireturn, 1) := by decide +kernel
theorem dX2_putCorners_0 : decode cX2_putCorners 0 = .ok (.aload_n 1, 1) := by decide +kernel
theorem dX2_putCorners_1 : decode cX2_putCorners 1 = .ok (.invokevirtual 59, 3) := by decide +kernel
theorem dX2_putCorners_4 : decode cX2_putCorners 4 = .ok (.iconst 0, 1) := by decide +kernel
theorem dX2_putCorners_5 : decode cX2_putCorners 5 = .ok (.istore_n 2, 1) := by decide +kernel
theorem dX2_putCorners_6 : decode cX2_putCorners 6 = .ok (.bipush 10, 2) := by decide +kernel
theorem dX2_putCorners_8 : decode cX2_putCorners 8 = .ok (.istore_n 3, 1) := by decide +kernel
theorem dX2_putCorners_9 : decode cX2_putCorners 9 = .ok (.iconst 0, 1) := by decide +kernel
theorem dX2_putCorners_10 : decode cX2_putCorners 10 = .ok (.istore 4, 2) := by decide +kernel
theorem dX2_putCorners_12 : decode cX2_putCorners 12 = .ok (.iload 4, 2) := by decide +kernel
theorem dX2_putCorners_14 : decode cX2_putCorners 14 = .ok (.bipush 9, 2) := by decide +kernel
theorem dX2_putCorners_16 : decode cX2_putCorners 16 = .ok (.if_icmp .gt 37, 3) := by decide +kernel
theorem dX2_putCorners_19 : decode cX2_putCorners 19 = .ok (.aload_n 0, 1) := by decide +kernel
theorem dX2_putCorners_20 : decode cX2_putCorners 20 = .ok (.iload 4, 2) := by decide +kernel
theorem dX2_putCorners_22 : decode cX2_putCorners 22 = .ok (.invokevirtual 62, 3) := by decide +kernel
theorem dX2_putCorners_25 : decode cX2_putCorners 25 = .ok (.istore 5, 2) := by decide +kernel
theorem dX2_putCorners_27 : decode cX2_putCorners 27 = .ok (.iload 5, 2) := by decide +kernel
theorem dX2_putCorners_29 : decode cX2_putCorners 29 = .ok (.iload_n 3, 1) := by decide +kernel
theorem dX2_putCorners_30 : decode cX2_putCorners 30 = .ok (.if_icmp .ge 17, 3) := by decide +kernel
theorem dX2_putCorners_33 : decode cX2_putCorners 33 = .ok (.aload_n 1, 1) := by decide +kernel
theorem dX2_putCorners_34 : decode cX2_putCorners 34 = .ok (.iload 4, 2) := by decide +kernel
theorem dX2_putCorners_36 : decode cX2_putCorners 36 = .ok (.iload 5, 2) := by decide +kernel
theorem dX2_putCorners_38 : decode cX2_putCorners 38 = .ok (.invokevirtual 65, 3) := by decide +kernel
theorem dX2_putCorners_41 : decode cX2_putCorners 41 = .ok (.iinc 2 1, 3) := by decide +kernel
theorem dX2_putCorners_44 : decode cX2_putCorners 44 = .ok (.iload 5, 2) := by decide +kernel
theorem dX2_putCorners_46 : decode cX2_putCorners 46 = .ok (.istore_n 3, 1) := by decide +kernel
theorem dX2_putCorners_47 : decode cX2_putCorners 47 = .ok (.iinc 4 1, 3) := by decide +kernel
theorem dX2_putCorners_50 : decode cX2_putCorners 50 = .ok (.goto (-38), 3) := by decide +kernel
theorem dX2_putCorners_53 : decode cX2_putCorners 53 = .ok (.iload_n 2, 1) := by decide +kernel
theorem dX2_putCorners_54 : decode cX2_putCorners 54 = .ok (.ireturn, 1) := by decide +kernel
theorem dX3_init_0 : decode cX3_init 0 = .ok (.aload_n 0, 1) := by decide +kernel
theorem dX3_init_1 : decode cX3_init 1 = .ok (.invokespecial 3, 3) := by decide +kernel
theorem dX3_init_4 : decode cX3_init 4 = .ok (.aload_n 0, 1) := by decide +kernel
theorem dX3_init_5 : decode cX3_init 5 = .ok (.bipush 6, 2) := by decide +kernel
theorem dX3_init_7 : decode cX3_init 7 = .ok (.newarray .int, 2) := by decide +kernel
theorem dX3_init_9 : decode cX3_init 9 = .ok (.putfield 9, 3) := by decide +kernel
theorem dX3_init_12 : decode cX3_init 12 = .ok (.aload_n 0, 1) := by decide +kernel
theorem dX3_init_13 : decode cX3_init 13 = .ok (.bipush 6, 2) := by decide +kernel
theorem dX3_init_15 : decode cX3_init 15 = .ok (.newarray .int, 2) := by decide +kernel
theorem dX3_init_17 : decode cX3_init 17 = .ok (.putfield 15, 3) := by decide +kernel
theorem dX3_init_20 : decode cX3_init 20 = .ok (.aload_n 0, 1) := by decide +kernel
theorem dX3_init_21 : decode cX3_init 21 = .ok (.iconst 0, 1) := by decide +kernel
theorem dX3_init_22 : decode cX3_init 22 = .ok (.putfield 18, 3) := by decide +kernel
theorem dX3_init_25 : decode cX3_init 25 = .ok (.return_, 1) := by decide +kernel
theorem dX3_size_0 : decode cX3_size 0 = .ok (.aload_n 0, 1) := by decide +kernel
theorem dX3_size_1 : decode cX3_size 1 = .ok (.getfield 18, 3) := by decide +kernel
theorem dX3_size_4 : decode cX3_size 4 = .ok (.ireturn, 1) := by decide +kernel
theorem dX3_powerA_0 : decode cX3_powerA 0 = .ok (.iload_n 1, 1) := by decide +kernel
theorem dX3_powerA_1 : decode cX3_powerA 1 = .ok (.ifCond .lt 20, 3) := by decide +kernel
theorem dX3_powerA_4 : decode cX3_powerA 4 = .ok (.iload_n 1, 1) := by decide +kernel
theorem dX3_powerA_5 : decode cX3_powerA 5 = .ok (.aload_n 0, 1) := by decide +kernel
theorem dX3_powerA_6 : decode cX3_powerA 6 = .ok (.getfield 18, 3) := by decide +kernel
theorem dX3_powerA_9 : decode cX3_powerA 9 = .ok (.if_icmp .ge 12, 3) := by decide +kernel
theorem dX3_powerA_12 : decode cX3_powerA 12 = .ok (.aload_n 0, 1) := by decide +kernel
theorem dX3_powerA_13 : decode cX3_powerA 13 = .ok (.getfield 9, 3) := by decide +kernel
theorem dX3_powerA_16 : decode cX3_powerA 16 = .ok (.iload_n 1, 1) := by decide +kernel
theorem dX3_powerA_17 : decode cX3_powerA 17 = .ok (.iaload, 1) := by decide +kernel
theorem dX3_powerA_18 : decode cX3_powerA 18 = .ok (.goto 4, 3) := by decide +kernel
theorem dX3_powerA_21 : decode cX3_powerA 21 = .ok (.iconst 0, 1) := by decide +kernel
theorem dX3_powerA_22 : decode cX3_powerA 22 = .ok (.ireturn, 1) := by decide +kernel
theorem dX3_powerB_0 : decode cX3_powerB 0 = .ok (.iload_n 1, 1) := by decide +kernel
theorem dX3_powerB_1 : decode cX3_powerB 1 = .ok (.ifCond .lt 20, 3) := by decide +kernel
theorem dX3_powerB_4 : decode cX3_powerB 4 = .ok (.iload_n 1, 1) := by decide +kernel
theorem dX3_powerB_5 : decode cX3_powerB 5 = .ok (.aload_n 0, 1) := by decide +kernel
theorem dX3_powerB_6 : decode cX3_powerB 6 = .ok (.getfield 18, 3) := by decide +kernel
theorem dX3_powerB_9 : decode cX3_powerB 9 = .ok (.if_icmp .ge 12, 3) := by decide +kernel
theorem dX3_powerB_12 : decode cX3_powerB 12 = .ok (.aload_n 0, 1) := by decide +kernel
theorem dX3_powerB_13 : decode cX3_powerB 13 = .ok (.getfield 15, 3) := by decide +kernel
theorem dX3_powerB_16 : decode cX3_powerB 16 = .ok (.iload_n 1, 1) := by decide +kernel
theorem dX3_powerB_17 : decode cX3_powerB 17 = .ok (.iaload, 1) := by decide +kernel
theorem dX3_powerB_18 : decode cX3_powerB 18 = .ok (.goto 4, 3) := by decide +kernel
theorem dX3_powerB_21 : decode cX3_powerB 21 = .ok (.iconst 0, 1) := by decide +kernel
theorem dX3_powerB_22 : decode cX3_powerB 22 = .ok (.ireturn, 1) := by decide +kernel
theorem dX3_find_0 : decode cX3_find 0 = .ok (.iconst 0, 1) := by decide +kernel
theorem dX3_find_1 : decode cX3_find 1 = .ok (.istore_n 3, 1) := by decide +kernel
theorem dX3_find_2 : decode cX3_find 2 = .ok (.iload_n 3, 1) := by decide +kernel
theorem dX3_find_3 : decode cX3_find 3 = .ok (.aload_n 0, 1) := by decide +kernel
theorem dX3_find_4 : decode cX3_find 4 = .ok (.getfield 18, 3) := by decide +kernel
theorem dX3_find_7 : decode cX3_find 7 = .ok (.if_icmp .ge 31, 3) := by decide +kernel
theorem dX3_find_10 : decode cX3_find 10 = .ok (.aload_n 0, 1) := by decide +kernel
theorem dX3_find_11 : decode cX3_find 11 = .ok (.getfield 9, 3) := by decide +kernel
theorem dX3_find_14 : decode cX3_find 14 = .ok (.iload_n 3, 1) := by decide +kernel
theorem dX3_find_15 : decode cX3_find 15 = .ok (.iaload, 1) := by decide +kernel
theorem dX3_find_16 : decode cX3_find 16 = .ok (.iload_n 1, 1) := by decide +kernel
theorem dX3_find_17 : decode cX3_find 17 = .ok (.if_icmp .ne 15, 3) := by decide +kernel
theorem dX3_find_20 : decode cX3_find 20 = .ok (.aload_n 0, 1) := by decide +kernel
theorem dX3_find_21 : decode cX3_find 21 = .ok (.getfield 15, 3) := by decide +kernel
theorem dX3_find_24 : decode cX3_find 24 = .ok (.iload_n 3, 1) := by decide +kernel
theorem dX3_find_25 : decode cX3_find 25 = .ok (.iaload, 1) := by decide +kernel
theorem dX3_find_26 : decode cX3_find 26 = .ok (.iload_n 2, 1) := by decide +kernel
theorem dX3_find_27 : decode cX3_find 27 = .ok (.if_icmp .ne 5, 3) := by decide +kernel
theorem dX3_find_30 : decode cX3_find 30 = .ok (.iload_n 3, 1) := by decide +kernel
theorem dX3_find_31 : decode cX3_find 31 = .ok (.ireturn, 1) := by decide +kernel
theorem dX3_find_32 : decode cX3_find 32 = .ok (.iinc 3 1, 3) := by decide +kernel
theorem dX3_find_35 : decode cX3_find 35 = .ok (.goto (-33), 3) := by decide +kernel
theorem dX3_find_38 : decode cX3_find 38 = .ok (.iconst (-1), 1) := by decide +kernel
theorem dX3_find_39 : decode cX3_find 39 = .ok (.ireturn, 1) := by decide +kernel
theorem dX3_add_0 : decode cX3_add 0 = .ok (.aload_n 0, 1) := by decide +kernel
theorem dX3_add_1 : decode cX3_add 1 = .ok (.getfield 18, 3) := by decide +kernel
theorem dX3_add_4 : decode cX3_add 4 = .ok (.bipush 6, 2) := by decide +kernel
theorem dX3_add_6 : decode cX3_add 6 = .ok (.if_icmp .ge 33, 3) := by decide +kernel
theorem dX3_add_9 : decode cX3_add 9 = .ok (.aload_n 0, 1) := by decide +kernel
theorem dX3_add_10 : decode cX3_add 10 = .ok (.getfield 9, 3) := by decide +kernel
theorem dX3_add_13 : decode cX3_add 13 = .ok (.aload_n 0, 1) := by decide +kernel
theorem dX3_add_14 : decode cX3_add 14 = .ok (.getfield 18, 3) := by decide +kernel
theorem dX3_add_17 : decode cX3_add 17 = .ok (.iload_n 1, 1) := by decide +kernel
theorem dX3_add_18 : decode cX3_add 18 = .ok (.iastore, 1) := by decide +kernel
theorem dX3_add_19 : decode cX3_add 19 = .ok (.aload_n 0, 1) := by decide +kernel
theorem dX3_add_20 : decode cX3_add 20 = .ok (.getfield 15, 3) := by decide +kernel
theorem dX3_add_23 : decode cX3_add 23 = .ok (.aload_n 0, 1) := by decide +kernel
theorem dX3_add_24 : decode cX3_add 24 = .ok (.getfield 18, 3) := by decide +kernel
theorem dX3_add_27 : decode cX3_add 27 = .ok (.iload_n 2, 1) := by decide +kernel
theorem dX3_add_28 : decode cX3_add 28 = .ok (.iastore, 1) := by decide +kernel
theorem dX3_add_29 : decode cX3_add 29 = .ok (.aload_n 0, 1) := by decide +kernel
theorem dX3_add_30 : decode cX3_add 30 = .ok (.dup, 1) := by decide +kernel
theorem dX3_add_31 : decode cX3_add 31 = .ok (.getfield 18, 3) := by decide +kernel
theorem dX3_add_34 : decode cX3_add 34 = .ok (.iconst 1, 1) := by decide +kernel
theorem dX3_add_35 : decode cX3_add 35 = .ok (.iadd, 1) := by decide +kernel
theorem dX3_add_36 : decode cX3_add 36 = .ok (.putfield 18, 3) := by decide +kernel
theorem dX3_add_39 : decode cX3_add 39 = .ok (.return_, 1) := by decide +kernel
theorem dX3_addIfNew_0 : decode cX3_addIfNew 0 = .ok (.aload_n 0, 1) := by decide +kernel
theorem dX3_addIfNew_1 : decode cX3_addIfNew 1 = .ok (.iload_n 1, 1) := by decide +kernel
theorem dX3_addIfNew_2 : decode cX3_addIfNew 2 = .ok (.iload_n 2, 1) := by decide +kernel
theorem dX3_addIfNew_3 : decode cX3_addIfNew 3 = .ok (.invokevirtual 22, 3) := by decide +kernel
theorem dX3_addIfNew_6 : decode cX3_addIfNew 6 = .ok (.ifCond .ge 9, 3) := by decide +kernel
theorem dX3_addIfNew_9 : decode cX3_addIfNew 9 = .ok (.aload_n 0, 1) := by decide +kernel
theorem dX3_addIfNew_10 : decode cX3_addIfNew 10 = .ok (.iload_n 1, 1) := by decide +kernel
theorem dX3_addIfNew_11 : decode cX3_addIfNew 11 = .ok (.iload_n 2, 1) := by decide +kernel
theorem dX3_addIfNew_12 : decode cX3_addIfNew 12 = .ok (.invokevirtual 26, 3) := by decide +kernel
theorem dX3_addIfNew_15 : decode cX3_addIfNew 15 = .ok (.return_, 1) := by decide +kernel
theorem dX3_replace_0 : decode cX3_replace 0 = .ok (.iload_n 1, 1) := by decide +kernel
theorem dX3_replace_1 : decode cX3_replace 1 = .ok (.ifCond .lt 25, 3) := by decide +kernel
theorem dX3_replace_4 : decode cX3_replace 4 = .ok (.iload_n 1, 1) := by decide +kernel
theorem dX3_replace_5 : decode cX3_replace 5 = .ok (.aload_n 0, 1) := by decide +kernel
theorem dX3_replace_6 : decode cX3_replace 6 = .ok (.getfield 18, 3) := by decide +kernel
theorem dX3_replace_9 : decode cX3_replace 9 = .ok (.if_icmp .ge 17, 3) := by decide +kernel
theorem dX3_replace_12 : decode cX3_replace 12 = .ok (.aload_n 0, 1) := by decide +kernel
theorem dX3_replace_13 : decode cX3_replace 13 = .ok (.getfield 9, 3) := by decide +kernel
theorem dX3_replace_16 : decode cX3_replace 16 = .ok (.iload_n 1, 1) := by decide +kernel
theorem dX3_replace_17 : decode cX3_replace 17 = .ok (.iload_n 2, 1) := by decide +kernel
theorem dX3_replace_18 : decode cX3_replace 18 = .ok (.iastore, 1) := by decide +kernel
theorem dX3_replace_19 : decode cX3_replace 19 = .ok (.aload_n 0, 1) := by decide +kernel
theorem dX3_replace_20 : decode cX3_replace 20 = .ok (.getfield 15, 3) := by decide +kernel
theorem dX3_replace_23 : decode cX3_replace 23 = .ok (.iload_n 1, 1) := by decide +kernel
theorem dX3_replace_24 : decode cX3_replace 24 = .ok (.iload_n 3, 1) := by decide +kernel
theorem dX3_replace_25 : decode cX3_replace 25 = .ok (.iastore, 1) := by decide +kernel
theorem dX3_replace_26 : decode cX3_replace 26 = .ok (.return_, 1) := by decide +kernel
theorem dX3_remove_0 : decode cX3_remove 0 = .ok (.iload_n 1, 1) := by decide +kernel
theorem dX3_remove_1 : decode cX3_remove 1 = .ok (.ifCond .lt 11, 3) := by decide +kernel
theorem dX3_remove_4 : decode cX3_remove 4 = .ok (.iload_n 1, 1) := by decide +kernel
theorem dX3_remove_5 : decode cX3_remove 5 = .ok (.aload_n 0, 1) := by decide +kernel
theorem dX3_remove_6 : decode cX3_remove 6 = .ok (.getfield 18, 3) := by decide +kernel
theorem dX3_remove_9 : decode cX3_remove 9 = .ok (.if_icmp .lt 4, 3) := by decide +kernel
theorem dX3_remove_12 : decode cX3_remove 12 = .ok (.return_, 1) := by decide +kernel
theorem dX3_remove_13 : decode cX3_remove 13 = .ok (.iload_n 1, 1) := by decide +kernel
theorem dX3_remove_14 : decode cX3_remove 14 = .ok (.istore_n 2, 1) := by decide +kernel
theorem dX3_remove_15 : decode cX3_remove 15 = .ok (.iload_n 2, 1) := by decide +kernel
theorem dX3_remove_16 : decode cX3_remove 16 = .ok (.iconst 1, 1) := by decide +kernel
theorem dX3_remove_17 : decode cX3_remove 17 = .ok (.iadd, 1) := by decide +kernel
theorem dX3_remove_18 : decode cX3_remove 18 = .ok (.aload_n 0, 1) := by decide +kernel
theorem dX3_remove_19 : decode cX3_remove 19 = .ok (.getfield 18, 3) := by decide +kernel
theorem dX3_remove_22 : decode cX3_remove 22 = .ok (.if_icmp .ge 37, 3) := by decide +kernel
theorem dX3_remove_25 : decode cX3_remove 25 = .ok (.aload_n 0, 1) := by decide +kernel
theorem dX3_remove_26 : decode cX3_remove 26 = .ok (.getfield 9, 3) := by decide +kernel
theorem dX3_remove_29 : decode cX3_remove 29 = .ok (.iload_n 2, 1) := by decide +kernel
theorem dX3_remove_30 : decode cX3_remove 30 = .ok (.aload_n 0, 1) := by decide +kernel
theorem dX3_remove_31 : decode cX3_remove 31 = .ok (.getfield 9, 3) := by decide +kernel
theorem dX3_remove_34 : decode cX3_remove 34 = .ok (.iload_n 2, 1) := by decide +kernel
theorem dX3_remove_35 : decode cX3_remove 35 = .ok (.iconst 1, 1) := by decide +kernel
theorem dX3_remove_36 : decode cX3_remove 36 = .ok (.iadd, 1) := by decide +kernel
theorem dX3_remove_37 : decode cX3_remove 37 = .ok (.iaload, 1) := by decide +kernel
theorem dX3_remove_38 : decode cX3_remove 38 = .ok (.iastore, 1) := by decide +kernel
theorem dX3_remove_39 : decode cX3_remove 39 = .ok (.aload_n 0, 1) := by decide +kernel
theorem dX3_remove_40 : decode cX3_remove 40 = .ok (.getfield 15, 3) := by decide +kernel
theorem dX3_remove_43 : decode cX3_remove 43 = .ok (.iload_n 2, 1) := by decide +kernel
theorem dX3_remove_44 : decode cX3_remove 44 = .ok (.aload_n 0, 1) := by decide +kernel
theorem dX3_remove_45 : decode cX3_remove 45 = .ok (.getfield 15, 3) := by decide +kernel
theorem dX3_remove_48 : decode cX3_remove 48 = .ok (.iload_n 2, 1) := by decide +kernel
theorem dX3_remove_49 : decode cX3_remove 49 = .ok (.iconst 1, 1) := by decide +kernel
theorem dX3_remove_50 : decode cX3_remove 50 = .ok (.iadd, 1) := by decide +kernel
theorem dX3_remove_51 : decode cX3_remove 51 = .ok (.iaload, 1) := by decide +kernel
theorem dX3_remove_52 : decode cX3_remove 52 = .ok (.iastore, 1) := by decide +kernel
theorem dX3_remove_53 : decode cX3_remove 53 = .ok (.iinc 2 1, 3) := by decide +kernel
theorem dX3_remove_56 : decode cX3_remove 56 = .ok (.goto (-41), 3) := by decide +kernel
theorem dX3_remove_59 : decode cX3_remove 59 = .ok (.aload_n 0, 1) := by decide +kernel
theorem dX3_remove_60 : decode cX3_remove 60 = .ok (.dup, 1) := by decide +kernel
theorem dX3_remove_61 : decode cX3_remove 61 = .ok (.getfield 18, 3) := by decide +kernel
theorem dX3_remove_64 : decode cX3_remove 64 = .ok (.iconst 1, 1) := by decide +kernel
theorem dX3_remove_65 : decode cX3_remove 65 = .ok (.isub, 1) := by decide +kernel
theorem dX3_remove_66 : decode cX3_remove 66 = .ok (.putfield 18, 3) := by decide +kernel
theorem dX3_remove_69 : decode cX3_remove 69 = .ok (.return_, 1) := by decide +kernel
theorem dX3_empty_0 : decode cX3_empty 0 = .ok (.aload_n 0, 1) := by decide +kernel
theorem dX3_empty_1 : decode cX3_empty 1 = .ok (.iconst 0, 1) := by decide +kernel
theorem dX3_empty_2 : decode cX3_empty 2 = .ok (.putfield 18, 3) := by decide +kernel
theorem dX3_empty_5 : decode cX3_empty 5 = .ok (.return_, 1) := by decide +kernel
theorem dX3_copy_0 : decode cX3_copy 0 = .ok (.aload_n 0, 1) := by decide +kernel
theorem dX3_copy_1 : decode cX3_copy 1 = .ok (.aload_n 1, 1) := by decide +kernel
theorem dX3_copy_2 : decode cX3_copy 2 = .ok (.getfield 18, 3) := by decide +kernel
theorem dX3_copy_5 : decode cX3_copy 5 = .ok (.putfield 18, 3) := by decide +kernel
theorem dX3_copy_8 : decode cX3_copy 8 = .ok (.iconst 0, 1) := by decide +kernel
theorem dX3_copy_9 : decode cX3_copy 9 = .ok (.istore_n 2, 1) := by decide +kernel
theorem dX3_copy_10 : decode cX3_copy 10 = .ok (.iload_n 2, 1) := by decide +kernel
theorem dX3_copy_11 : decode cX3_copy 11 = .ok (.aload_n 0, 1) := by decide +kernel
theorem dX3_copy_12 : decode cX3_copy 12 = .ok (.getfield 18, 3) := by decide +kernel
theorem dX3_copy_15 : decode cX3_copy 15 = .ok (.if_icmp .ge 33, 3) := by decide +kernel
theorem dX3_copy_18 : decode cX3_copy 18 = .ok (.aload_n 0, 1) := by decide +kernel
theorem dX3_copy_19 : decode cX3_copy 19 = .ok (.getfield 9, 3) := by decide +kernel
theorem dX3_copy_22 : decode cX3_copy 22 = .ok (.iload_n 2, 1) := by decide +kernel
theorem dX3_copy_23 : decode cX3_copy 23 = .ok (.aload_n 1, 1) := by decide +kernel
theorem dX3_copy_24 : decode cX3_copy 24 = .ok (.getfield 9, 3) := by decide +kernel
theorem dX3_copy_27 : decode cX3_copy 27 = .ok (.iload_n 2, 1) := by decide +kernel
theorem dX3_copy_28 : decode cX3_copy 28 = .ok (.iaload, 1) := by decide +kernel
theorem dX3_copy_29 : decode cX3_copy 29 = .ok (.iastore, 1) := by decide +kernel
theorem dX3_copy_30 : decode cX3_copy 30 = .ok (.aload_n 0, 1) := by decide +kernel
theorem dX3_copy_31 : decode cX3_copy 31 = .ok (.getfield 15, 3) := by decide +kernel
theorem dX3_copy_34 : decode cX3_copy 34 = .ok (.iload_n 2, 1) := by decide +kernel
theorem dX3_copy_35 : decode cX3_copy 35 = .ok (.aload_n 1, 1) := by decide +kernel
theorem dX3_copy_36 : decode cX3_copy 36 = .ok (.getfield 15, 3) := by decide +kernel
theorem dX3_copy_39 : decode cX3_copy 39 = .ok (.iload_n 2, 1) := by decide +kernel
theorem dX3_copy_40 : decode cX3_copy 40 = .ok (.iaload, 1) := by decide +kernel
theorem dX3_copy_41 : decode cX3_copy 41 = .ok (.iastore, 1) := by decide +kernel
theorem dX3_copy_42 : decode cX3_copy 42 = .ok (.iinc 2 1, 3) := by decide +kernel
theorem dX3_copy_45 : decode cX3_copy 45 = .ok (.goto (-35), 3) := by decide +kernel
theorem dX3_copy_48 : decode cX3_copy 48 = .ok (.return_, 1) := by decide +kernel
theorem dX3_countUnknownTo_0 : decode cX3_countUnknownTo 0 = .ok (.iconst 0, 1) := by decide +kernel
theorem dX3_countUnknownTo_1 : decode cX3_countUnknownTo 1 = .ok (.istore_n 2, 1) := by decide +kernel
theorem dX3_countUnknownTo_2 : decode cX3_countUnknownTo 2 = .ok (.iconst 0, 1) := by decide +kernel
theorem dX3_countUnknownTo_3 : decode cX3_countUnknownTo 3 = .ok (.istore_n 3, 1) := by decide +kernel
theorem dX3_countUnknownTo_4 : decode cX3_countUnknownTo 4 = .ok (.iload_n 3, 1) := by decide +kernel
theorem dX3_countUnknownTo_5 : decode cX3_countUnknownTo 5 = .ok (.aload_n 0, 1) := by decide +kernel
theorem dX3_countUnknownTo_6 : decode cX3_countUnknownTo 6 = .ok (.getfield 18, 3) := by decide +kernel
theorem dX3_countUnknownTo_9 : decode cX3_countUnknownTo 9 = .ok (.if_icmp .ge 31, 3) := by decide +kernel
theorem dX3_countUnknownTo_12 : decode cX3_countUnknownTo 12 = .ok (.aload_n 1, 1) := by decide +kernel
theorem dX3_countUnknownTo_13 : decode cX3_countUnknownTo 13 = .ok (.aload_n 0, 1) := by decide +kernel
theorem dX3_countUnknownTo_14 : decode cX3_countUnknownTo 14 = .ok (.getfield 9, 3) := by decide +kernel
theorem dX3_countUnknownTo_17 : decode cX3_countUnknownTo 17 = .ok (.iload_n 3, 1) := by decide +kernel
theorem dX3_countUnknownTo_18 : decode cX3_countUnknownTo 18 = .ok (.iaload, 1) := by decide +kernel
theorem dX3_countUnknownTo_19 : decode cX3_countUnknownTo 19 = .ok (.aload_n 0, 1) := by decide +kernel
theorem dX3_countUnknownTo_20 : decode cX3_countUnknownTo 20 = .ok (.getfield 15, 3) := by decide +kernel
theorem dX3_countUnknownTo_23 : decode cX3_countUnknownTo 23 = .ok (.iload_n 3, 1) := by decide +kernel
theorem dX3_countUnknownTo_24 : decode cX3_countUnknownTo 24 = .ok (.iaload, 1) := by decide +kernel
theorem dX3_countUnknownTo_25 : decode cX3_countUnknownTo 25 = .ok (.invokevirtual 22, 3) := by decide +kernel
theorem dX3_countUnknownTo_28 : decode cX3_countUnknownTo 28 = .ok (.ifCond .ge 6, 3) := by decide +kernel
theorem dX3_countUnknownTo_31 : decode cX3_countUnknownTo 31 = .ok (.iinc 2 1, 3) := by decide +kernel
theorem dX3_countUnknownTo_34 : decode cX3_countUnknownTo 34 = .ok (.iinc 3 1, 3) := by decide +kernel
theorem dX3_countUnknownTo_37 : decode cX3_countUnknownTo 37 = .ok (.goto (-33), 3) := by decide +kernel
theorem dX3_countUnknownTo_40 : decode cX3_countUnknownTo 40 = .ok (.iload_n 2, 1) := by decide +kernel
theorem dX3_countUnknownTo_41 : decode cX3_countUnknownTo 41 = .ok (.ireturn, 1) := by decide +kernel
theorem dX3_lessen_0 : decode cX3_lessen 0 = .ok (.aload_n 0, 1) := by decide +kernel
theorem dX3_lessen_1 : decode cX3_lessen 1 = .ok (.getfield 18, 3) := by decide +kernel
theorem dX3_lessen_4 : decode cX3_lessen 4 = .ok (.istore_n 2, 1) := by decide +kernel
theorem dX3_lessen_5 : decode cX3_lessen 5 = .ok (.aload_n 0, 1) := by decide +kernel
theorem dX3_lessen_6 : decode cX3_lessen 6 = .ok (.iconst 0, 1) := by decide +kernel
theorem dX3_lessen_7 : decode cX3_lessen 7 = .ok (.putfield 18, 3) := by decide +kernel
theorem dX3_lessen_10 : decode cX3_lessen 10 = .ok (.iconst 0, 1) := by decide +kernel
theorem dX3_lessen_11 : decode cX3_lessen 11 = .ok (.istore_n 3, 1) := by decide +kernel
theorem dX3_lessen_12 : decode cX3_lessen 12 = .ok (.iload_n 3, 1) := by decide +kernel
theorem dX3_lessen_13 : decode cX3_lessen 13 = .ok (.iload_n 2, 1) := by decide +kernel
theorem dX3_lessen_14 : decode cX3_lessen 14 = .ok (.if_icmp .ge 37, 3) := by decide +kernel
theorem dX3_lessen_17 : decode cX3_lessen 17 = .ok (.aload_n 0, 1) := by decide +kernel
theorem dX3_lessen_18 : decode cX3_lessen 18 = .ok (.iconst 0, 1) := by decide +kernel
theorem dX3_lessen_19 : decode cX3_lessen 19 = .ok (.aload_n 0, 1) := by decide +kernel
theorem dX3_lessen_20 : decode cX3_lessen 20 = .ok (.getfield 9, 3) := by decide +kernel
theorem dX3_lessen_23 : decode cX3_lessen 23 = .ok (.iload_n 3, 1) := by decide +kernel
theorem dX3_lessen_24 : decode cX3_lessen 24 = .ok (.iaload, 1) := by decide +kernel
theorem dX3_lessen_25 : decode cX3_lessen 25 = .ok (.iload_n 1, 1) := by decide +kernel
theorem dX3_lessen_26 : decode cX3_lessen 26 = .ok (.isub, 1) := by decide +kernel
theorem dX3_lessen_27 : decode cX3_lessen 27 = .ok (.invokestatic 30, 3) := by decide +kernel
theorem dX3_lessen_30 : decode cX3_lessen 30 = .ok (.iconst 0, 1) := by decide +kernel
theorem dX3_lessen_31 : decode cX3_lessen 31 = .ok (.aload_n 0, 1) := by decide +kernel
theorem dX3_lessen_32 : decode cX3_lessen 32 = .ok (.getfield 15, 3) := by decide +kernel
theorem dX3_lessen_35 : decode cX3_lessen 35 = .ok (.iload_n 3, 1) := by decide +kernel
theorem dX3_lessen_36 : decode cX3_lessen 36 = .ok (.iaload, 1) := by decide +kernel
theorem dX3_lessen_37 : decode cX3_lessen 37 = .ok (.iload_n 1, 1) := by decide +kernel
theorem dX3_lessen_38 : decode cX3_lessen 38 = .ok (.isub, 1) := by decide +kernel
theorem dX3_lessen_39 : decode cX3_lessen 39 = .ok (.invokestatic 30, 3) := by decide +kernel
theorem dX3_lessen_42 : decode cX3_lessen 42 = .ok (.invokevirtual 35, 3) := by decide +kernel
theorem dX3_lessen_45 : decode cX3_lessen 45 = .ok (.iinc 3 1, 3) := by decide +kernel
theorem dX3_lessen_48 : decode cX3_lessen 48 = .ok (.goto (-36), 3) := by decide +kernel
theorem dX3_lessen_51 : decode cX3_lessen 51 = .ok (.return_, 1) := by decide +kernel
theorem dX3_contains_0 : decode cX3_contains 0 = .ok (.iconst 0, 1) := by decide +kernel
theorem dX3_contains_1 : decode cX3_contains 1 = .ok (.istore_n 3, 1) := by decide +kernel
theorem dX3_contains_2 : decode cX3_contains 2 = .ok (.iload_n 3, 1) := by decide +kernel
theorem dX3_contains_3 : decode cX3_contains 3 = .ok (.aload_n 0, 1) := by decide +kernel
theorem dX3_contains_4 : decode cX3_contains 4 = .ok (.getfield 18, 3) := by decide +kernel
theorem dX3_contains_7 : decode cX3_contains 7 = .ok (.if_icmp .ge 31, 3) := by decide +kernel
theorem dX3_contains_10 : decode cX3_contains 10 = .ok (.aload_n 0, 1) := by decide +kernel
theorem dX3_contains_11 : decode cX3_contains 11 = .ok (.getfield 9, 3) := by decide +kernel
theorem dX3_contains_14 : decode cX3_contains 14 = .ok (.iload_n 3, 1) := by decide +kernel
theorem dX3_contains_15 : decode cX3_contains 15 = .ok (.iaload, 1) := by decide +kernel
theorem dX3_contains_16 : decode cX3_contains 16 = .ok (.iload_n 1, 1) := by decide +kernel
theorem dX3_contains_17 : decode cX3_contains 17 = .ok (.if_icmp .gt 15, 3) := by decide +kernel
theorem dX3_contains_20 : decode cX3_contains 20 = .ok (.aload_n 0, 1) := by decide +kernel
theorem dX3_contains_21 : decode cX3_contains 21 = .ok (.getfield 15, 3) := by decide +kernel
theorem dX3_contains_24 : decode cX3_contains 24 = .ok (.iload_n 3, 1) := by decide +kernel
theorem dX3_contains_25 : decode cX3_contains 25 = .ok (.iaload, 1) := by decide +kernel
theorem dX3_contains_26 : decode cX3_contains 26 = .ok (.iload_n 2, 1) := by decide +kernel
theorem dX3_contains_27 : decode cX3_contains 27 = .ok (.if_icmp .gt 5, 3) := by decide +kernel
theorem dX3_contains_30 : decode cX3_contains 30 = .ok (.iconst 1, 1) := by decide +kernel
theorem dX3_contains_31 : decode cX3_contains 31 = .ok (.ireturn, 1) := by decide +kernel
theorem dX3_contains_32 : decode cX3_contains 32 = .ok (.iinc 3 1, 3) := by decide +kernel
theorem dX3_contains_35 : decode cX3_contains 35 = .ok (.goto (-33), 3) := by decide +kernel
theorem dX3_contains_38 : decode cX3_contains 38 = .ok (.iconst 0, 1) := by decide +kernel
theorem dX3_contains_39 : decode cX3_contains 39 = .ok (.ireturn, 1) := by decide +kernel
theorem dX3_isLeast_0 : decode cX3_isLeast 0 = .ok (.aload_n 0, 1) := by decide +kernel
theorem dX3_isLeast_1 : decode cX3_isLeast 1 = .ok (.iload_n 1, 1) := by decide +kernel
theorem dX3_isLeast_2 : decode cX3_isLeast 2 = .ok (.invokevirtual 38, 3) := by decide +kernel
theorem dX3_isLeast_5 : decode cX3_isLeast 5 = .ok (.istore_n 2, 1) := by decide +kernel
theorem dX3_isLeast_6 : decode cX3_isLeast 6 = .ok (.aload_n 0, 1) := by decide +kernel
theorem dX3_isLeast_7 : decode cX3_isLeast 7 = .ok (.iload_n 1, 1) := by decide +kernel
theorem dX3_isLeast_8 : decode cX3_isLeast 8 = .ok (.invokevirtual 42, 3) := by decide +kernel
theorem dX3_isLeast_11 : decode cX3_isLeast 11 = .ok (.istore_n 3, 1) := by decide +kernel
theorem dX3_isLeast_12 : decode cX3_isLeast 12 = .ok (.iconst 0, 1) := by decide +kernel
theorem dX3_isLeast_13 : decode cX3_isLeast 13 = .ok (.istore 4, 2) := by decide +kernel
theorem dX3_isLeast_15 : decode cX3_isLeast 15 = .ok (.iload 4, 2) := by decide +kernel
theorem dX3_isLeast_17 : decode cX3_isLeast 17 = .ok (.aload_n 0, 1) := by decide +kernel
theorem dX3_isLeast_18 : decode cX3_isLeast 18 = .ok (.getfield 18, 3) := by decide +kernel
theorem dX3_isLeast_21 : decode cX3_isLeast 21 = .ok (.if_icmp .ge 39, 3) := by decide +kernel
theorem dX3_isLeast_24 : decode cX3_isLeast 24 = .ok (.iload 4, 2) := by decide +kernel
theorem dX3_isLeast_26 : decode cX3_isLeast 26 = .ok (.iload_n 1, 1) := by decide +kernel
theorem dX3_isLeast_27 : decode cX3_isLeast 27 = .ok (.if_icmp .eq 27, 3) := by decide +kernel
theorem dX3_isLeast_30 : decode cX3_isLeast 30 = .ok (.aload_n 0, 1) := by decide +kernel
theorem dX3_isLeast_31 : decode cX3_isLeast 31 = .ok (.getfield 9, 3) := by decide +kernel
theorem dX3_isLeast_34 : decode cX3_isLeast 34 = .ok (.iload 4, 2) := by decide +kernel
theorem dX3_isLeast_36 : decode cX3_isLeast 36 = .ok (.iaload, 1) := by decide +kernel
theorem dX3_isLeast_37 : decode cX3_isLeast 37 = .ok (.iload_n 2, 1) := by decide +kernel
theorem dX3_isLeast_38 : decode cX3_isLeast 38 = .ok (.if_icmp .gt 16, 3) := by decide +kernel
theorem dX3_isLeast_41 : decode cX3_isLeast 41 = .ok (.aload_n 0, 1) := by decide +kernel
theorem dX3_isLeast_42 : decode cX3_isLeast 42 = .ok (.getfield 15, 3) := by decide +kernel
theorem dX3_isLeast_45 : decode cX3_isLeast 45 = .ok (.iload 4, 2) := by decide +kernel
theorem dX3_isLeast_47 : decode cX3_isLeast 47 = .ok (.iaload, 1) := by decide +kernel
theorem dX3_isLeast_48 : decode cX3_isLeast 48 = .ok (.iload_n 3, 1) := by decide +kernel
theorem dX3_isLeast_49 : decode cX3_isLeast 49 = .ok (.if_icmp .gt 5, 3) := by decide +kernel
theorem dX3_isLeast_52 : decode cX3_isLeast 52 = .ok (.iconst 0, 1) := by decide +kernel
theorem dX3_isLeast_53 : decode cX3_isLeast 53 = .ok (.ireturn, 1) := by decide +kernel
theorem dX3_isLeast_54 : decode cX3_isLeast 54 = .ok (.iinc 4 1, 3) := by decide +kernel
theorem dX3_isLeast_57 : decode cX3_isLeast 57 = .ok (.goto (-42), 3) := by decide +kernel
theorem dX3_isLeast_60 : decode cX3_isLeast 60 = .ok (.iconst 1, 1) := by decide +kernel
theorem dX3_isLeast_61 : decode cX3_isLeast 61 = .ok (.ireturn, 1) := by decide +kernel
theorem dX3_countLeast_0 : decode cX3_countLeast 0 = .ok (.iconst 0, 1) := by decide +kernel
theorem dX3_countLeast_1 : decode cX3_countLeast 1 = .ok (.istore_n 1, 1) := by decide +kernel
theorem dX3_countLeast_2 : decode cX3_countLeast 2 = .ok (.iconst 0, 1) := by decide +kernel
theorem dX3_countLeast_3 : decode cX3_countLeast 3 = .ok (.istore_n 2, 1) := by decide +kernel
theorem dX3_countLeast_4 : decode cX3_countLeast 4 = .ok (.iload_n 2, 1) := by decide +kernel
theorem dX3_countLeast_5 : decode cX3_countLeast 5 = .ok (.aload_n 0, 1) := by decide +kernel
theorem dX3_countLeast_6 : decode cX3_countLeast 6 = .ok (.getfield 18, 3) := by decide +kernel
theorem dX3_countLeast_9 : decode cX3_countLeast 9 = .ok (.if_icmp .ge 20, 3) := by decide +kernel
theorem dX3_countLeast_12 : decode cX3_countLeast 12 = .ok (.aload_n 0, 1) := by decide +kernel
theorem dX3_countLeast_13 : decode cX3_countLeast 13 = .ok (.iload_n 2, 1) := by decide +kernel
theorem dX3_countLeast_14 : decode cX3_countLeast 14 = .ok (.invokevirtual 45, 3) := by decide +kernel
theorem dX3_countLeast_17 : decode cX3_countLeast 17 = .ok (.ifCond .eq 6, 3) := by decide +kernel
theorem dX3_countLeast_20 : decode cX3_countLeast 20 = .ok (.iinc 1 1, 3) := by decide +kernel
theorem dX3_countLeast_23 : decode cX3_countLeast 23 = .ok (.iinc 2 1, 3) := by decide +kernel
theorem dX3_countLeast_26 : decode cX3_countLeast 26 = .ok (.goto (-22), 3) := by decide +kernel
theorem dX3_countLeast_29 : decode cX3_countLeast 29 = .ok (.iload_n 1, 1) := by decide +kernel
theorem dX3_countLeast_30 : decode cX3_countLeast 30 = .ok (.ireturn, 1) := by decide +kernel
theorem dX3_lowestB_0 : decode cX3_lowestB 0 = .ok (.bipush (-5), 2) := by decide +kernel
theorem dX3_lowestB_2 : decode cX3_lowestB 2 = .ok (.istore_n 2, 1) := by decide +kernel
theorem dX3_lowestB_3 : decode cX3_lowestB 3 = .ok (.iconst 0, 1) := by decide +kernel
theorem dX3_lowestB_4 : decode cX3_lowestB 4 = .ok (.istore_n 3, 1) := by decide +kernel
theorem dX3_lowestB_5 : decode cX3_lowestB 5 = .ok (.iload_n 3, 1) := by decide +kernel
theorem dX3_lowestB_6 : decode cX3_lowestB 6 = .ok (.aload_n 0, 1) := by decide +kernel
theorem dX3_lowestB_7 : decode cX3_lowestB 7 = .ok (.getfield 18, 3) := by decide +kernel
theorem dX3_lowestB_10 : decode cX3_lowestB 10 = .ok (.if_icmp .ge 30, 3) := by decide +kernel
theorem dX3_lowestB_13 : decode cX3_lowestB 13 = .ok (.aload_n 0, 1) := by decide +kernel
theorem dX3_lowestB_14 : decode cX3_lowestB 14 = .ok (.getfield 9, 3) := by decide +kernel
theorem dX3_lowestB_17 : decode cX3_lowestB 17 = .ok (.iload_n 3, 1) := by decide +kernel
theorem dX3_lowestB_18 : decode cX3_lowestB 18 = .ok (.iaload, 1) := by decide +kernel
theorem dX3_lowestB_19 : decode cX3_lowestB 19 = .ok (.iload_n 1, 1) := by decide +kernel
theorem dX3_lowestB_20 : decode cX3_lowestB 20 = .ok (.if_icmp .gt 14, 3) := by decide +kernel
theorem dX3_lowestB_23 : decode cX3_lowestB 23 = .ok (.iload_n 2, 1) := by decide +kernel
theorem dX3_lowestB_24 : decode cX3_lowestB 24 = .ok (.aload_n 0, 1) := by decide +kernel
theorem dX3_lowestB_25 : decode cX3_lowestB 25 = .ok (.getfield 15, 3) := by decide +kernel
theorem dX3_lowestB_28 : decode cX3_lowestB 28 = .ok (.iload_n 3, 1) := by decide +kernel
theorem dX3_lowestB_29 : decode cX3_lowestB 29 = .ok (.iaload, 1) := by decide +kernel
theorem dX3_lowestB_30 : decode cX3_lowestB 30 = .ok (.invokestatic 49, 3) := by decide +kernel
theorem dX3_lowestB_33 : decode cX3_lowestB 33 = .ok (.istore_n 2, 1) := by decide +kernel
theorem dX3_lowestB_34 : decode cX3_lowestB 34 = .ok (.iinc 3 1, 3) := by decide +kernel
theorem dX3_lowestB_37 : decode cX3_lowestB 37 = .ok (.goto (-32), 3) := by decide +kernel
theorem dX3_lowestB_40 : decode cX3_lowestB 40 = .ok (.iload_n 2, 1) := by decide +kernel
theorem dX3_lowestB_41 : decode cX3_lowestB 41 = .ok (.ireturn, 1) := by decide +kernel
theorem dX3_sumOfPowers_0 : decode cX3_sumOfPowers 0 = .ok (.iconst 0, 1) := by decide +kernel
theorem dX3_sumOfPowers_1 : decode cX3_sumOfPowers 1 = .ok (.istore_n 1, 1) := by decide +kernel
theorem dX3_sumOfPowers_2 : decode cX3_sumOfPowers 2 = .ok (.iconst 0, 1) := by decide +kernel
theorem dX3_sumOfPowers_3 : decode cX3_sumOfPowers 3 = .ok (.istore_n 2, 1) := by decide +kernel
theorem dX3_sumOfPowers_4 : decode cX3_sumOfPowers 4 = .ok (.iload_n 2, 1) := by decide +kernel
theorem dX3_sumOfPowers_5 : decode cX3_sumOfPowers 5 = .ok (.aload_n 0, 1) := by decide +kernel
theorem dX3_sumOfPowers_6 : decode cX3_sumOfPowers 6 = .ok (.getfield 18, 3) := by decide +kernel
theorem dX3_sumOfPowers_9 : decode cX3_sumOfPowers 9 = .ok (.if_icmp .ge 25, 3) := by decide +kernel
theorem dX3_sumOfPowers_12 : decode cX3_sumOfPowers 12 = .ok (.iload_n 1, 1) := by decide +kernel
theorem dX3_sumOfPowers_13 : decode cX3_sumOfPowers 13 = .ok (.aload_n 0, 1) := by decide +kernel
theorem dX3_sumOfPowers_14 : decode cX3_sumOfPowers 14 = .ok (.getfield 9, 3) := by decide +kernel
theorem dX3_sumOfPowers_17 : decode cX3_sumOfPowers 17 = .ok (.iload_n 2, 1) := by decide +kernel
theorem dX3_sumOfPowers_18 : decode cX3_sumOfPowers 18 = .ok (.iaload, 1) := by decide +kernel
theorem dX3_sumOfPowers_19 : decode cX3_sumOfPowers 19 = .ok (.aload_n 0, 1) := by decide +kernel
theorem dX3_sumOfPowers_20 : decode cX3_sumOfPowers 20 = .ok (.getfield 15, 3) := by decide +kernel
theorem dX3_sumOfPowers_23 : decode cX3_sumOfPowers 23 = .ok (.iload_n 2, 1) := by decide +kernel
theorem dX3_sumOfPowers_24 : decode cX3_sumOfPowers 24 = .ok (.iaload, 1) := by decide +kernel
theorem dX3_sumOfPowers_25 : decode cX3_sumOfPowers 25 = .ok (.iadd, 1) := by decide +kernel
theorem dX3_sumOfPowers_26 : decode cX3_sumOfPowers 26 = .ok (.iadd, 1) := by decide +kernel
theorem dX3_sumOfPowers_27 : decode cX3_sumOfPowers 27 = .ok (.istore_n 1, 1) := by decide +kernel
theorem dX3_sumOfPowers_28 : decode cX3_sumOfPowers 28 = .ok (.iinc 2 1, 3) := by decide +kernel
theorem dX3_sumOfPowers_31 : decode cX3_sumOfPowers 31 = .ok (.goto (-27), 3) := by decide +kernel
theorem dX3_sumOfPowers_34 : decode cX3_sumOfPowers 34 = .ok (.iload_n 1, 1) := by decide +kernel
theorem dX3_sumOfPowers_35 : decode cX3_sumOfPowers 35 = .ok (.ireturn, 1) := by decide +kernel
theorem dX3_leastWeight_0 : decode cX3_leastWeight 0 = .ok (.iload_n 1, 1) := by decide +kernel
theorem dX3_leastWeight_1 : decode cX3_leastWeight 1 = .ok (.aload_n 0, 1) := by decide +kernel
theorem dX3_leastWeight_2 : decode cX3_leastWeight 2 = .ok (.iconst 0, 1) := by decide +kernel
theorem dX3_leastWeight_3 : decode cX3_leastWeight 3 = .ok (.invokevirtual 38, 3) := by decide +kernel
theorem dX3_leastWeight_6 : decode cX3_leastWeight 6 = .ok (.imul, 1) := by decide +kernel
theorem dX3_leastWeight_7 : decode cX3_leastWeight 7 = .ok (.iload_n 2, 1) := by decide +kernel
theorem dX3_leastWeight_8 : decode cX3_leastWeight 8 = .ok (.aload_n 0, 1) := by decide +kernel
theorem dX3_leastWeight_9 : decode cX3_leastWeight 9 = .ok (.iconst 0, 1) := by decide +kernel
theorem dX3_leastWeight_10 : decode cX3_leastWeight 10 = .ok (.invokevirtual 42, 3) := by decide +kernel
theorem dX3_leastWeight_13 : decode cX3_leastWeight 13 = .ok (.imul, 1) := by decide +kernel
theorem dX3_leastWeight_14 : decode cX3_leastWeight 14 = .ok (.iadd, 1) := by decide +kernel
theorem dX3_leastWeight_15 : decode cX3_leastWeight 15 = .ok (.istore_n 3, 1) := by decide +kernel
theorem dX3_leastWeight_16 : decode cX3_leastWeight 16 = .ok (.iconst 1, 1) := by decide +kernel
theorem dX3_leastWeight_17 : decode cX3_leastWeight 17 = .ok (.istore 4, 2) := by decide +kernel
theorem dX3_leastWeight_19 : decode cX3_leastWeight 19 = .ok (.iload 4, 2) := by decide +kernel
theorem dX3_leastWeight_21 : decode cX3_leastWeight 21 = .ok (.aload_n 0, 1) := by decide +kernel
theorem dX3_leastWeight_22 : decode cX3_leastWeight 22 = .ok (.getfield 18, 3) := by decide +kernel
theorem dX3_leastWeight_25 : decode cX3_leastWeight 25 = .ok (.if_icmp .ge 33, 3) := by decide +kernel
theorem dX3_leastWeight_28 : decode cX3_leastWeight 28 = .ok (.iload_n 3, 1) := by decide +kernel
theorem dX3_leastWeight_29 : decode cX3_leastWeight 29 = .ok (.iload_n 1, 1) := by decide +kernel
theorem dX3_leastWeight_30 : decode cX3_leastWeight 30 = .ok (.aload_n 0, 1) := by decide +kernel
theorem dX3_leastWeight_31 : decode cX3_leastWeight 31 = .ok (.getfield 9, 3) := by decide +kernel
theorem dX3_leastWeight_34 : decode cX3_leastWeight 34 = .ok (.iload 4, 2) := by decide +kernel
theorem dX3_leastWeight_36 : decode cX3_leastWeight 36 = .ok (.iaload, 1) := by decide +kernel
theorem dX3_leastWeight_37 : decode cX3_leastWeight 37 = .ok (.imul, 1) := by decide +kernel
theorem dX3_leastWeight_38 : decode cX3_leastWeight 38 = .ok (.iload_n 2, 1) := by decide +kernel
theorem dX3_leastWeight_39 : decode cX3_leastWeight 39 = .ok (.aload_n 0, 1) := by decide +kernel
theorem dX3_leastWeight_40 : decode cX3_leastWeight 40 = .ok (.getfield 15, 3) := by decide +kernel
theorem dX3_leastWeight_43 : decode cX3_leastWeight 43 = .ok (.iload 4, 2) := by decide +kernel
theorem dX3_leastWeight_45 : decode cX3_leastWeight 45 = .ok (.iaload, 1) := by decide +kernel
theorem dX3_leastWeight_46 : decode cX3_leastWeight 46 = .ok (.imul, 1) := by decide +kernel
theorem dX3_leastWeight_47 : decode cX3_leastWeight 47 = .ok (.iadd, 1) := by decide +kernel
theorem dX3_leastWeight_48 : decode cX3_leastWeight 48 = .ok (.invokestatic 52, 3) := by decide +kernel
theorem dX3_leastWeight_51 : decode cX3_leastWeight 51 = .ok (.istore_n 3, 1) := by decide +kernel
theorem dX3_leastWeight_52 : decode cX3_leastWeight 52 = .ok (.iinc 4 1, 3) := by decide +kernel
theorem dX3_leastWeight_55 : decode cX3_leastWeight 55 = .ok (.goto (-36), 3) := by decide +kernel
theorem dX3_leastWeight_58 : decode cX3_leastWeight 58 = .ok (.iload_n 3, 1) := by decide +kernel
theorem dX3_leastWeight_59 : decode cX3_leastWeight 59 = .ok (.ireturn, 1) := by decide +kernel
theorem dX3_countOfWeight_0 : decode cX3_countOfWeight 0 = .ok (.iconst 0, 1) := by decide +kernel
theorem dX3_countOfWeight_1 : decode cX3_countOfWeight 1 = .ok (.istore 4, 2) := by decide +kernel
theorem dX3_countOfWeight_3 : decode cX3_countOfWeight 3 = .ok (.iconst 0, 1) := by decide +kernel
theorem dX3_countOfWeight_4 : decode cX3_countOfWeight 4 = .ok (.istore 5, 2) := by decide +kernel
theorem dX3_countOfWeight_6 : decode cX3_countOfWeight 6 = .ok (.iload 5, 2) := by decide +kernel
theorem dX3_countOfWeight_8 : decode cX3_countOfWeight 8 = .ok (.aload_n 0, 1) := by decide +kernel
theorem dX3_countOfWeight_9 : decode cX3_countOfWeight 9 = .ok (.getfield 18, 3) := by decide +kernel
theorem dX3_countOfWeight_12 : decode cX3_countOfWeight 12 = .ok (.if_icmp .ge 35, 3) := by decide +kernel
theorem dX3_countOfWeight_15 : decode cX3_countOfWeight 15 = .ok (.iload_n 1, 1) := by decide +kernel
theorem dX3_countOfWeight_16 : decode cX3_countOfWeight 16 = .ok (.aload_n 0, 1) := by decide +kernel
theorem dX3_countOfWeight_17 : decode cX3_countOfWeight 17 = .ok (.getfield 9, 3) := by decide +kernel
theorem dX3_countOfWeight_20 : decode cX3_countOfWeight 20 = .ok (.iload 5, 2) := by decide +kernel
theorem dX3_countOfWeight_22 : decode cX3_countOfWeight 22 = .ok (.iaload, 1) := by decide +kernel
theorem dX3_countOfWeight_23 : decode cX3_countOfWeight 23 = .ok (.imul, 1) := by decide +kernel
theorem dX3_countOfWeight_24 : decode cX3_countOfWeight 24 = .ok (.iload_n 2, 1) := by decide +kernel
theorem dX3_countOfWeight_25 : decode cX3_countOfWeight 25 = .ok (.aload_n 0, 1) := by decide +kernel
theorem dX3_countOfWeight_26 : decode cX3_countOfWeight 26 = .ok (.getfield 15, 3) := by decide +kernel
theorem dX3_countOfWeight_29 : decode cX3_countOfWeight 29 = .ok (.iload 5, 2) := by decide +kernel
theorem dX3_countOfWeight_31 : decode cX3_countOfWeight 31 = .ok (.iaload, 1) := by decide +kernel
theorem dX3_countOfWeight_32 : decode cX3_countOfWeight 32 = .ok (.imul, 1) := by decide +kernel
theorem dX3_countOfWeight_33 : decode cX3_countOfWeight 33 = .ok (.iadd, 1) := by decide +kernel
theorem dX3_countOfWeight_34 : decode cX3_countOfWeight 34 = .ok (.iload_n 3, 1) := by decide +kernel
theorem dX3_countOfWeight_35 : decode cX3_countOfWeight 35 = .ok (.if_icmp .ne 6, 3) := by decide +kernel
theorem dX3_countOfWeight_38 : decode cX3_countOfWeight 38 = .ok (.iinc 4 1, 3) := by decide +kernel
theorem dX3_countOfWeight_41 : decode cX3_countOfWeight 41 = .ok (.iinc 5 1, 3) := by decide +kernel
theorem dX3_countOfWeight_44 : decode cX3_countOfWeight 44 = .ok (.goto (-38), 3) := by decide +kernel
theorem dX3_countOfWeight_47 : decode cX3_countOfWeight 47 = .ok (.iload 4, 2) := by decide +kernel
theorem dX3_countOfWeight_49 : decode cX3_countOfWeight 49 = .ok (.ireturn, 1) := by decide +kernel
theorem dX4_init_0 : decode cX4_init 0 = .ok (.aload_n 0, 1) := by decide +kernel
theorem dX4_init_1 : decode cX4_init 1 = .ok (.invokespecial 3, 3) := by decide +kernel
theorem dX4_init_4 : decode cX4_init 4 = .ok (.aload_n 0, 1) := by decide +kernel
theorem dX4_init_5 : decode cX4_init 5 = .ok (.bipush 100, 2) := by decide +kernel
theorem dX4_init_7 : decode cX4_init 7 = .ok (.newarray .int, 2) := by decide +kernel
theorem dX4_init_9 : decode cX4_init 9 = .ok (.putfield 9, 3) := by decide +kernel
theorem dX4_init_12 : decode cX4_init 12 = .ok (.aload_n 0, 1) := by decide +kernel
theorem dX4_init_13 : decode cX4_init 13 = .ok (.bipush 100, 2) := by decide +kernel
theorem dX4_init_15 : decode cX4_init 15 = .ok (.newarray .int, 2) := by decide +kernel
theorem dX4_init_17 : decode cX4_init 17 = .ok (.putfield 15, 3) := by decide +kernel
theorem dX4_init_20 : decode cX4_init 20 = .ok (.aload_n 0, 1) := by decide +kernel
theorem dX4_init_21 : decode cX4_init 21 = .ok (.iconst 0, 1) := by decide +kernel
theorem dX4_init_22 : decode cX4_init 22 = .ok (.putfield 18, 3) := by decide +kernel
theorem dX4_init_25 : decode cX4_init 25 = .ok (.return_, 1) := by decide +kernel
theorem dX4_gather_0 : decode cX4_gather 0 = .ok (.aload_n 0, 1) := by decide +kernel
theorem dX4_gather_1 : decode cX4_gather 1 = .ok (.iconst 0, 1) := by decide +kernel
theorem dX4_gather_2 : decode cX4_gather 2 = .ok (.putfield 18, 3) := by decide +kernel
theorem dX4_gather_5 : decode cX4_gather 5 = .ok (.iconst 0, 1) := by decide +kernel
theorem dX4_gather_6 : decode cX4_gather 6 = .ok (.istore_n 2, 1) := by decide +kernel
theorem dX4_gather_7 : decode cX4_gather 7 = .ok (.iload_n 2, 1) := by decide +kernel
theorem dX4_gather_8 : decode cX4_gather 8 = .ok (.bipush 9, 2) := by decide +kernel
theorem dX4_gather_10 : decode cX4_gather 10 = .ok (.if_icmp .gt 58, 3) := by decide +kernel
theorem dX4_gather_13 : decode cX4_gather 13 = .ok (.iconst 0, 1) := by decide +kernel
theorem dX4_gather_14 : decode cX4_gather 14 = .ok (.istore_n 3, 1) := by decide +kernel
theorem dX4_gather_15 : decode cX4_gather 15 = .ok (.iload_n 3, 1) := by decide +kernel
theorem dX4_gather_16 : decode cX4_gather 16 = .ok (.bipush 9, 2) := by decide +kernel
theorem dX4_gather_18 : decode cX4_gather 18 = .ok (.if_icmp .gt 44, 3) := by decide +kernel
theorem dX4_gather_21 : decode cX4_gather 21 = .ok (.aload_n 1, 1) := by decide +kernel
theorem dX4_gather_22 : decode cX4_gather 22 = .ok (.iload_n 2, 1) := by decide +kernel
theorem dX4_gather_23 : decode cX4_gather 23 = .ok (.iload_n 3, 1) := by decide +kernel
theorem dX4_gather_24 : decode cX4_gather 24 = .ok (.invokevirtual 22, 3) := by decide +kernel
theorem dX4_gather_27 : decode cX4_gather 27 = .ok (.istore 4, 2) := by decide +kernel
theorem dX4_gather_29 : decode cX4_gather 29 = .ok (.iload 4, 2) := by decide +kernel
theorem dX4_gather_31 : decode cX4_gather 31 = .ok (.ifCond .lt 25, 3) := by decide +kernel
theorem dX4_gather_34 : decode cX4_gather 34 = .ok (.aload_n 0, 1) := by decide +kernel
theorem dX4_gather_35 : decode cX4_gather 35 = .ok (.aload_n 1, 1) := by decide +kernel
theorem dX4_gather_36 : decode cX4_gather 36 = .ok (.iload 4, 2) := by decide +kernel
theorem dX4_gather_38 : decode cX4_gather 38 = .ok (.iload_n 2, 1) := by decide +kernel
theorem dX4_gather_39 : decode cX4_gather 39 = .ok (.iconst 1, 1) := by decide +kernel
theorem dX4_gather_40 : decode cX4_gather 40 = .ok (.iadd, 1) := by decide +kernel
theorem dX4_gather_41 : decode cX4_gather 41 = .ok (.iload_n 3, 1) := by decide +kernel
theorem dX4_gather_42 : decode cX4_gather 42 = .ok (.iconst 1, 1) := by decide +kernel
theorem dX4_gather_43 : decode cX4_gather 43 = .ok (.iadd, 1) := by decide +kernel
theorem dX4_gather_44 : decode cX4_gather 44 = .ok (.invokevirtual 28, 3) := by decide +kernel
theorem dX4_gather_47 : decode cX4_gather 47 = .ok (.aload_n 1, 1) := by decide +kernel
theorem dX4_gather_48 : decode cX4_gather 48 = .ok (.iload 4, 2) := by decide +kernel
theorem dX4_gather_50 : decode cX4_gather 50 = .ok (.invokevirtual 32, 3) := by decide +kernel
theorem dX4_gather_53 : decode cX4_gather 53 = .ok (.invokevirtual 36, 3) := by decide +kernel
theorem dX4_gather_56 : decode cX4_gather 56 = .ok (.iinc 3 1, 3) := by decide +kernel
theorem dX4_gather_59 : decode cX4_gather 59 = .ok (.goto (-44), 3) := by decide +kernel
theorem dX4_gather_62 : decode cX4_gather 62 = .ok (.iinc 2 1, 3) := by decide +kernel
theorem dX4_gather_65 : decode cX4_gather 65 = .ok (.goto (-58), 3) := by decide +kernel
theorem dX4_gather_68 : decode cX4_gather 68 = .ok (.return_, 1) := by decide +kernel
theorem dX4_insert_0 : decode cX4_insert 0 = .ok (.iconst 0, 1) := by decide +kernel
theorem dX4_insert_1 : decode cX4_insert 1 = .ok (.istore_n 3, 1) := by decide +kernel
theorem dX4_insert_2 : decode cX4_insert 2 = .ok (.aload_n 0, 1) := by decide +kernel
theorem dX4_insert_3 : decode cX4_insert 3 = .ok (.getfield 18, 3) := by decide +kernel
theorem dX4_insert_6 : decode cX4_insert 6 = .ok (.istore 4, 2) := by decide +kernel
theorem dX4_insert_8 : decode cX4_insert 8 = .ok (.iconst 0, 1) := by decide +kernel
theorem dX4_insert_9 : decode cX4_insert 9 = .ok (.istore 5, 2) := by decide +kernel
theorem dX4_insert_11 : decode cX4_insert 11 = .ok (.iload 5, 2) := by decide +kernel
theorem dX4_insert_13 : decode cX4_insert 13 = .ok (.bipush 8, 2) := by decide +kernel
theorem dX4_insert_15 : decode cX4_insert 15 = .ok (.if_icmp .ge 56, 3) := by decide +kernel
theorem dX4_insert_18 : decode cX4_insert 18 = .ok (.iload_n 3, 1) := by decide +kernel
theorem dX4_insert_19 : decode cX4_insert 19 = .ok (.iload 4, 2) := by decide +kernel
theorem dX4_insert_21 : decode cX4_insert 21 = .ok (.if_icmp .ge 50, 3) := by decide +kernel
theorem dX4_insert_24 : decode cX4_insert 24 = .ok (.iload_n 3, 1) := by decide +kernel
theorem dX4_insert_25 : decode cX4_insert 25 = .ok (.iload 4, 2) := by decide +kernel
theorem dX4_insert_27 : decode cX4_insert 27 = .ok (.iadd, 1) := by decide +kernel
theorem dX4_insert_28 : decode cX4_insert 28 = .ok (.iconst 2, 1) := by decide +kernel
theorem dX4_insert_29 : decode cX4_insert 29 = .ok (.idiv, 1) := by decide +kernel
theorem dX4_insert_30 : decode cX4_insert 30 = .ok (.istore 6, 2) := by decide +kernel
theorem dX4_insert_32 : decode cX4_insert 32 = .ok (.aload_n 0, 1) := by decide +kernel
theorem dX4_insert_33 : decode cX4_insert 33 = .ok (.iload 6, 2) := by decide +kernel
theorem dX4_insert_35 : decode cX4_insert 35 = .ok (.iload_n 1, 1) := by decide +kernel
theorem dX4_insert_36 : decode cX4_insert 36 = .ok (.iload_n 2, 1) := by decide +kernel
theorem dX4_insert_37 : decode cX4_insert 37 = .ok (.invokevirtual 40, 3) := by decide +kernel
theorem dX4_insert_40 : decode cX4_insert 40 = .ok (.istore 7, 2) := by decide +kernel
theorem dX4_insert_42 : decode cX4_insert 42 = .ok (.iload 7, 2) := by decide +kernel
theorem dX4_insert_44 : decode cX4_insert 44 = .ok (.ifCond .ne 4, 3) := by decide +kernel
theorem dX4_insert_47 : decode cX4_insert 47 = .ok (.return_, 1) := by decide +kernel
theorem dX4_insert_48 : decode cX4_insert 48 = .ok (.iload 7, 2) := by decide +kernel
theorem dX4_insert_50 : decode cX4_insert 50 = .ok (.ifCond .ge 11, 3) := by decide +kernel
theorem dX4_insert_53 : decode cX4_insert 53 = .ok (.iload 6, 2) := by decide +kernel
theorem dX4_insert_55 : decode cX4_insert 55 = .ok (.iconst 1, 1) := by decide +kernel
theorem dX4_insert_56 : decode cX4_insert 56 = .ok (.iadd, 1) := by decide +kernel
theorem dX4_insert_57 : decode cX4_insert 57 = .ok (.istore_n 3, 1) := by decide +kernel
theorem dX4_insert_58 : decode cX4_insert 58 = .ok (.goto 7, 3) := by decide +kernel
theorem dX4_insert_61 : decode cX4_insert 61 = .ok (.iload 6, 2) := by decide +kernel
theorem dX4_insert_63 : decode cX4_insert 63 = .ok (.istore 4, 2) := by decide +kernel
theorem dX4_insert_65 : decode cX4_insert 65 = .ok (.iinc 5 1, 3) := by decide +kernel
theorem dX4_insert_68 : decode cX4_insert 68 = .ok (.goto (-57), 3) := by decide +kernel
theorem dX4_insert_71 : decode cX4_insert 71 = .ok (.aload_n 0, 1) := by decide +kernel
theorem dX4_insert_72 : decode cX4_insert 72 = .ok (.iload_n 3, 1) := by decide +kernel
theorem dX4_insert_73 : decode cX4_insert 73 = .ok (.iload_n 1, 1) := by decide +kernel
theorem dX4_insert_74 : decode cX4_insert 74 = .ok (.iload_n 2, 1) := by decide +kernel
theorem dX4_insert_75 : decode cX4_insert 75 = .ok (.invokevirtual 43, 3) := by decide +kernel
theorem dX4_insert_78 : decode cX4_insert 78 = .ok (.return_, 1) := by decide +kernel
theorem dX4_insertAt_0 : decode cX4_insertAt 0 = .ok (.iload_n 1, 1) := by decide +kernel
theorem dX4_insertAt_1 : decode cX4_insertAt 1 = .ok (.ifCond .lt 20, 3) := by decide +kernel
theorem dX4_insertAt_4 : decode cX4_insertAt 4 = .ok (.iload_n 1, 1) := by decide +kernel
theorem dX4_insertAt_5 : decode cX4_insertAt 5 = .ok (.aload_n 0, 1) := by decide +kernel
theorem dX4_insertAt_6 : decode cX4_insertAt 6 = .ok (.getfield 18, 3) := by decide +kernel
theorem dX4_insertAt_9 : decode cX4_insertAt 9 = .ok (.if_icmp .gt 12, 3) := by decide +kernel
theorem dX4_insertAt_12 : decode cX4_insertAt 12 = .ok (.aload_n 0, 1) := by decide +kernel
theorem dX4_insertAt_13 : decode cX4_insertAt 13 = .ok (.getfield 18, 3) := by decide +kernel
theorem dX4_insertAt_16 : decode cX4_insertAt 16 = .ok (.bipush 100, 2) := by decide +kernel
theorem dX4_insertAt_18 : decode cX4_insertAt 18 = .ok (.if_icmp .lt 4, 3) := by decide +kernel
theorem dX4_insertAt_21 : decode cX4_insertAt 21 = .ok (.return_, 1) := by decide +kernel
theorem dX4_insertAt_22 : decode cX4_insertAt 22 = .ok (.aload_n 0, 1) := by decide +kernel
theorem dX4_insertAt_23 : decode cX4_insertAt 23 = .ok (.getfield 9, 3) := by decide +kernel
theorem dX4_insertAt_26 : decode cX4_insertAt 26 = .ok (.iload_n 1, 1) := by decide +kernel
theorem dX4_insertAt_27 : decode cX4_insertAt 27 = .ok (.aload_n 0, 1) := by decide +kernel
theorem dX4_insertAt_28 : decode cX4_insertAt 28 = .ok (.getfield 9, 3) := by decide +kernel
theorem dX4_insertAt_31 : decode cX4_insertAt 31 = .ok (.iload_n 1, 1) := by decide +kernel
theorem dX4_insertAt_32 : decode cX4_insertAt 32 = .ok (.iconst 1, 1) := by decide +kernel
theorem dX4_insertAt_33 : decode cX4_insertAt 33 = .ok (.iadd, 1) := by decide +kernel
theorem dX4_insertAt_34 : decode cX4_insertAt 34 = .ok (.aload_n 0, 1) := by decide +kernel
theorem dX4_insertAt_35 : decode cX4_insertAt 35 = .ok (.getfield 18, 3) := by decide +kernel
theorem dX4_insertAt_38 : decode cX4_insertAt 38 = .ok (.iload_n 1, 1) := by decide +kernel
theorem dX4_insertAt_39 : decode cX4_insertAt 39 = .ok (.isub, 1) := by decide +kernel
theorem dX4_insertAt_40 : decode cX4_insertAt 40 = .ok (.invokestatic 47, 3) := by decide +kernel
theorem dX4_insertAt_43 : decode cX4_insertAt 43 = .ok (.aload_n 0, 1) := by decide +kernel
theorem dX4_insertAt_44 : decode cX4_insertAt 44 = .ok (.getfield 15, 3) := by decide +kernel
theorem dX4_insertAt_47 : decode cX4_insertAt 47 = .ok (.iload_n 1, 1) := by decide +kernel
theorem dX4_insertAt_48 : decode cX4_insertAt 48 = .ok (.aload_n 0, 1) := by decide +kernel
theorem dX4_insertAt_49 : decode cX4_insertAt 49 = .ok (.getfield 15, 3) := by decide +kernel
theorem dX4_insertAt_52 : decode cX4_insertAt 52 = .ok (.iload_n 1, 1) := by decide +kernel
theorem dX4_insertAt_53 : decode cX4_insertAt 53 = .ok (.iconst 1, 1) := by decide +kernel
theorem dX4_insertAt_54 : decode cX4_insertAt 54 = .ok (.iadd, 1) := by decide +kernel
theorem dX4_insertAt_55 : decode cX4_insertAt 55 = .ok (.aload_n 0, 1) := by decide +kernel
theorem dX4_insertAt_56 : decode cX4_insertAt 56 = .ok (.getfield 18, 3) := by decide +kernel
theorem dX4_insertAt_59 : decode cX4_insertAt 59 = .ok (.iload_n 1, 1) := by decide +kernel
theorem dX4_insertAt_60 : decode cX4_insertAt 60 = .ok (.isub, 1) := by decide +kernel
theorem dX4_insertAt_61 : decode cX4_insertAt 61 = .ok (.invokestatic 47, 3) := by decide +kernel
theorem dX4_insertAt_64 : decode cX4_insertAt 64 = .ok (.aload_n 0, 1) := by decide +kernel
theorem dX4_insertAt_65 : decode cX4_insertAt 65 = .ok (.getfield 9, 3) := by decide +kernel
theorem dX4_insertAt_68 : decode cX4_insertAt 68 = .ok (.iload_n 1, 1) := by decide +kernel
theorem dX4_insertAt_69 : decode cX4_insertAt 69 = .ok (.iload_n 2, 1) := by decide +kernel
theorem dX4_insertAt_70 : decode cX4_insertAt 70 = .ok (.iastore, 1) := by decide +kernel
theorem dX4_insertAt_71 : decode cX4_insertAt 71 = .ok (.aload_n 0, 1) := by decide +kernel
theorem dX4_insertAt_72 : decode cX4_insertAt 72 = .ok (.getfield 15, 3) := by decide +kernel
theorem dX4_insertAt_75 : decode cX4_insertAt 75 = .ok (.iload_n 1, 1) := by decide +kernel
theorem dX4_insertAt_76 : decode cX4_insertAt 76 = .ok (.iload_n 3, 1) := by decide +kernel
theorem dX4_insertAt_77 : decode cX4_insertAt 77 = .ok (.iastore, 1) := by decide +kernel
theorem dX4_insertAt_78 : decode cX4_insertAt 78 = .ok (.aload_n 0, 1) := by decide +kernel
theorem dX4_insertAt_79 : decode cX4_insertAt 79 = .ok (.dup, 1) := by decide +kernel
theorem dX4_insertAt_80 : decode cX4_insertAt 80 = .ok (.getfield 18, 3) := by decide +kernel
theorem dX4_insertAt_83 : decode cX4_insertAt 83 = .ok (.iconst 1, 1) := by decide +kernel
theorem dX4_insertAt_84 : decode cX4_insertAt 84 = .ok (.iadd, 1) := by decide +kernel
theorem dX4_insertAt_85 : decode cX4_insertAt 85 = .ok (.putfield 18, 3) := by decide +kernel
theorem dX4_insertAt_88 : decode cX4_insertAt 88 = .ok (.return_, 1) := by decide +kernel
theorem dX4_size_0 : decode cX4_size 0 = .ok (.aload_n 0, 1) := by decide +kernel
theorem dX4_size_1 : decode cX4_size 1 = .ok (.getfield 18, 3) := by decide +kernel
theorem dX4_size_4 : decode cX4_size 4 = .ok (.ireturn, 1) := by decide +kernel
theorem dX4_above_0 : decode cX4_above 0 = .ok (.iload_n 1, 1) := by decide +kernel
theorem dX4_above_1 : decode cX4_above 1 = .ok (.ifCond .lt 20, 3) := by decide +kernel
theorem dX4_above_4 : decode cX4_above 4 = .ok (.iload_n 1, 1) := by decide +kernel
theorem dX4_above_5 : decode cX4_above 5 = .ok (.aload_n 0, 1) := by decide +kernel
theorem dX4_above_6 : decode cX4_above 6 = .ok (.getfield 18, 3) := by decide +kernel
theorem dX4_above_9 : decode cX4_above 9 = .ok (.if_icmp .ge 12, 3) := by decide +kernel
theorem dX4_above_12 : decode cX4_above 12 = .ok (.aload_n 0, 1) := by decide +kernel
theorem dX4_above_13 : decode cX4_above 13 = .ok (.getfield 9, 3) := by decide +kernel
theorem dX4_above_16 : decode cX4_above 16 = .ok (.iload_n 1, 1) := by decide +kernel
theorem dX4_above_17 : decode cX4_above 17 = .ok (.iaload, 1) := by decide +kernel
theorem dX4_above_18 : decode cX4_above 18 = .ok (.goto 4, 3) := by decide +kernel
theorem dX4_above_21 : decode cX4_above 21 = .ok (.iconst 0, 1) := by decide +kernel
theorem dX4_above_22 : decode cX4_above 22 = .ok (.ireturn, 1) := by decide +kernel
theorem dX4_below_0 : decode cX4_below 0 = .ok (.iload_n 1, 1) := by decide +kernel
theorem dX4_below_1 : decode cX4_below 1 = .ok (.ifCond .lt 20, 3) := by decide +kernel
theorem dX4_below_4 : decode cX4_below 4 = .ok (.iload_n 1, 1) := by decide +kernel
theorem dX4_below_5 : decode cX4_below 5 = .ok (.aload_n 0, 1) := by decide +kernel
theorem dX4_below_6 : decode cX4_below 6 = .ok (.getfield 18, 3) := by decide +kernel
theorem dX4_below_9 : decode cX4_below 9 = .ok (.if_icmp .ge 12, 3) := by decide +kernel
theorem dX4_below_12 : decode cX4_below 12 = .ok (.aload_n 0, 1) := by decide +kernel
theorem dX4_below_13 : decode cX4_below 13 = .ok (.getfield 15, 3) := by decide +kernel
theorem dX4_below_16 : decode cX4_below 16 = .ok (.iload_n 1, 1) := by decide +kernel
theorem dX4_below_17 : decode cX4_below 17 = .ok (.iaload, 1) := by decide +kernel
theorem dX4_below_18 : decode cX4_below 18 = .ok (.goto 4, 3) := by decide +kernel
theorem dX4_below_21 : decode cX4_below 21 = .ok (.iconst 0, 1) := by decide +kernel
theorem dX4_below_22 : decode cX4_below 22 = .ok (.ireturn, 1) := by decide +kernel
theorem dX4_compare_0 : decode cX4_compare 0 = .ok (.iload_n 1, 1) := by decide +kernel
theorem dX4_compare_1 : decode cX4_compare 1 = .ok (.ifCond .lt 11, 3) := by decide +kernel
theorem dX4_compare_4 : decode cX4_compare 4 = .ok (.iload_n 1, 1) := by decide +kernel
theorem dX4_compare_5 : decode cX4_compare 5 = .ok (.aload_n 0, 1) := by decide +kernel
theorem dX4_compare_6 : decode cX4_compare 6 = .ok (.getfield 18, 3) := by decide +kernel
theorem dX4_compare_9 : decode cX4_compare 9 = .ok (.if_icmp .lt 5, 3) := by decide +kernel
theorem dX4_compare_12 : decode cX4_compare 12 = .ok (.iconst (-1), 1) := by decide +kernel
theorem dX4_compare_13 : decode cX4_compare 13 = .ok (.ireturn, 1) := by decide +kernel
theorem dX4_compare_14 : decode cX4_compare 14 = .ok (.aload_n 0, 1) := by decide +kernel
theorem dX4_compare_15 : decode cX4_compare 15 = .ok (.getfield 9, 3) := by decide +kernel
theorem dX4_compare_18 : decode cX4_compare 18 = .ok (.iload_n 1, 1) := by decide +kernel
theorem dX4_compare_19 : decode cX4_compare 19 = .ok (.iaload, 1) := by decide +kernel
theorem dX4_compare_20 : decode cX4_compare 20 = .ok (.iload_n 3, 1) := by decide +kernel
theorem dX4_compare_21 : decode cX4_compare 21 = .ok (.imul, 1) := by decide +kernel
theorem dX4_compare_22 : decode cX4_compare 22 = .ok (.iload_n 2, 1) := by decide +kernel
theorem dX4_compare_23 : decode cX4_compare 23 = .ok (.aload_n 0, 1) := by decide +kernel
theorem dX4_compare_24 : decode cX4_compare 24 = .ok (.getfield 15, 3) := by decide +kernel
theorem dX4_compare_27 : decode cX4_compare 27 = .ok (.iload_n 1, 1) := by decide +kernel
theorem dX4_compare_28 : decode cX4_compare 28 = .ok (.iaload, 1) := by decide +kernel
theorem dX4_compare_29 : decode cX4_compare 29 = .ok (.imul, 1) := by decide +kernel
theorem dX4_compare_30 : decode cX4_compare 30 = .ok (.isub, 1) := by decide +kernel
theorem dX4_compare_31 : decode cX4_compare 31 = .ok (.ireturn, 1) := by decide +kernel
theorem dX5_init_0 : decode cX5_init 0 = .ok (.aload_n 0, 1) := by decide +kernel
theorem dX5_init_1 : decode cX5_init 1 = .ok (.invokespecial 3, 3) := by decide +kernel
theorem dX5_init_4 : decode cX5_init 4 = .ok (.aload_n 0, 1) := by decide +kernel
theorem dX5_init_5 : decode cX5_init 5 = .ok (.iconst 0, 1) := by decide +kernel
theorem dX5_init_6 : decode cX5_init 6 = .ok (.iload_n 1, 1) := by decide +kernel
theorem dX5_init_7 : decode cX5_init 7 = .ok (.invokestatic 9, 3) := by decide +kernel
theorem dX5_init_10 : decode cX5_init 10 = .ok (.putfield 15, 3) := by decide +kernel
theorem dX5_init_13 : decode cX5_init 13 = .ok (.aload_n 0, 1) := by decide +kernel
theorem dX5_init_14 : decode cX5_init 14 = .ok (.aload_n 0, 1) := by decide +kernel
theorem dX5_init_15 : decode cX5_init 15 = .ok (.getfield 15, 3) := by decide +kernel
theorem dX5_init_18 : decode cX5_init 18 = .ok (.newarray .int, 2) := by decide +kernel
theorem dX5_init_20 : decode cX5_init 20 = .ok (.putfield 21, 3) := by decide +kernel
theorem dX5_init_23 : decode cX5_init 23 = .ok (.aload_n 0, 1) := by decide +kernel
theorem dX5_init_24 : decode cX5_init 24 = .ok (.aload_n 0, 1) := by decide +kernel
theorem dX5_init_25 : decode cX5_init 25 = .ok (.getfield 15, 3) := by decide +kernel
theorem dX5_init_28 : decode cX5_init 28 = .ok (.newarray .int, 2) := by decide +kernel
theorem dX5_init_30 : decode cX5_init 30 = .ok (.putfield 25, 3) := by decide +kernel
theorem dX5_init_33 : decode cX5_init 33 = .ok (.aload_n 0, 1) := by decide +kernel
theorem dX5_init_34 : decode cX5_init 34 = .ok (.aload_n 0, 1) := by decide +kernel
theorem dX5_init_35 : decode cX5_init 35 = .ok (.getfield 15, 3) := by decide +kernel
theorem dX5_init_38 : decode cX5_init 38 = .ok (.newarray .int, 2) := by decide +kernel
theorem dX5_init_40 : decode cX5_init 40 = .ok (.putfield 28, 3) := by decide +kernel
theorem dX5_init_43 : decode cX5_init 43 = .ok (.aload_n 0, 1) := by decide +kernel
theorem dX5_init_44 : decode cX5_init 44 = .ok (.iconst 0, 1) := by decide +kernel
theorem dX5_init_45 : decode cX5_init 45 = .ok (.putfield 31, 3) := by decide +kernel
theorem dX5_init_48 : decode cX5_init 48 = .ok (.return_, 1) := by decide +kernel
theorem dX5_size_0 : decode cX5_size 0 = .ok (.aload_n 0, 1) := by decide +kernel
theorem dX5_size_1 : decode cX5_size 1 = .ok (.getfield 31, 3) := by decide +kernel
theorem dX5_size_4 : decode cX5_size 4 = .ok (.ireturn, 1) := by decide +kernel
theorem dX5_first_0 : decode cX5_first 0 = .ok (.iload_n 1, 1) := by decide +kernel
theorem dX5_first_1 : decode cX5_first 1 = .ok (.ifCond .lt 20, 3) := by decide +kernel
theorem dX5_first_4 : decode cX5_first 4 = .ok (.iload_n 1, 1) := by decide +kernel
theorem dX5_first_5 : decode cX5_first 5 = .ok (.aload_n 0, 1) := by decide +kernel
theorem dX5_first_6 : decode cX5_first 6 = .ok (.getfield 31, 3) := by decide +kernel
theorem dX5_first_9 : decode cX5_first 9 = .ok (.if_icmp .ge 12, 3) := by decide +kernel
theorem dX5_first_12 : decode cX5_first 12 = .ok (.aload_n 0, 1) := by decide +kernel
theorem dX5_first_13 : decode cX5_first 13 = .ok (.getfield 21, 3) := by decide +kernel
theorem dX5_first_16 : decode cX5_first 16 = .ok (.iload_n 1, 1) := by decide +kernel
theorem dX5_first_17 : decode cX5_first 17 = .ok (.iaload, 1) := by decide +kernel
theorem dX5_first_18 : decode cX5_first 18 = .ok (.goto 4, 3) := by decide +kernel
theorem dX5_first_21 : decode cX5_first 21 = .ok (.iconst 0, 1) := by decide +kernel
theorem dX5_first_22 : decode cX5_first 22 = .ok (.ireturn, 1) := by decide +kernel
theorem dX5_second_0 : decode cX5_second 0 = .ok (.iload_n 1, 1) := by decide +kernel
theorem dX5_second_1 : decode cX5_second 1 = .ok (.ifCond .lt 20, 3) := by decide +kernel
theorem dX5_second_4 : decode cX5_second 4 = .ok (.iload_n 1, 1) := by decide +kernel
theorem dX5_second_5 : decode cX5_second 5 = .ok (.aload_n 0, 1) := by decide +kernel
theorem dX5_second_6 : decode cX5_second 6 = .ok (.getfield 31, 3) := by decide +kernel
theorem dX5_second_9 : decode cX5_second 9 = .ok (.if_icmp .ge 12, 3) := by decide +kernel
theorem dX5_second_12 : decode cX5_second 12 = .ok (.aload_n 0, 1) := by decide +kernel
theorem dX5_second_13 : decode cX5_second 13 = .ok (.getfield 25, 3) := by decide +kernel
theorem dX5_second_16 : decode cX5_second 16 = .ok (.iload_n 1, 1) := by decide +kernel
theorem dX5_second_17 : decode cX5_second 17 = .ok (.iaload, 1) := by decide +kernel
theorem dX5_second_18 : decode cX5_second 18 = .ok (.goto 4, 3) := by decide +kernel
theorem dX5_second_21 : decode cX5_second 21 = .ok (.iconst 0, 1) := by decide +kernel
theorem dX5_second_22 : decode cX5_second 22 = .ok (.ireturn, 1) := by decide +kernel
theorem dX5_third_0 : decode cX5_third 0 = .ok (.iload_n 1, 1) := by decide +kernel
theorem dX5_third_1 : decode cX5_third 1 = .ok (.ifCond .lt 20, 3) := by decide +kernel
theorem dX5_third_4 : decode cX5_third 4 = .ok (.iload_n 1, 1) := by decide +kernel
theorem dX5_third_5 : decode cX5_third 5 = .ok (.aload_n 0, 1) := by decide +kernel
theorem dX5_third_6 : decode cX5_third 6 = .ok (.getfield 31, 3) := by decide +kernel
theorem dX5_third_9 : decode cX5_third 9 = .ok (.if_icmp .ge 12, 3) := by decide +kernel
theorem dX5_third_12 : decode cX5_third 12 = .ok (.aload_n 0, 1) := by decide +kernel
theorem dX5_third_13 : decode cX5_third 13 = .ok (.getfield 28, 3) := by decide +kernel
theorem dX5_third_16 : decode cX5_third 16 = .ok (.iload_n 1, 1) := by decide +kernel
theorem dX5_third_17 : decode cX5_third 17 = .ok (.iaload, 1) := by decide +kernel
theorem dX5_third_18 : decode cX5_third 18 = .ok (.goto 4, 3) := by decide +kernel
theorem dX5_third_21 : decode cX5_third 21 = .ok (.iconst 0, 1) := by decide +kernel
theorem dX5_third_22 : decode cX5_third 22 = .ok (.ireturn, 1) := by decide +kernel
theorem dX5_add_0 : decode cX5_add 0 = .ok (.aload_n 0, 1) := by decide +kernel
theorem dX5_add_1 : decode cX5_add 1 = .ok (.getfield 31, 3) := by decide +kernel
theorem dX5_add_4 : decode cX5_add 4 = .ok (.aload_n 0, 1) := by decide +kernel
theorem dX5_add_5 : decode cX5_add 5 = .ok (.getfield 15, 3) := by decide +kernel
theorem dX5_add_8 : decode cX5_add 8 = .ok (.if_icmp .lt 6, 3) := by decide +kernel
theorem dX5_add_11 : decode cX5_add 11 = .ok (.bipush (-4), 2) := by decide +kernel
theorem dX5_add_13 : decode cX5_add 13 = .ok (.ireturn, 1) := by decide +kernel
theorem dX5_add_14 : decode cX5_add 14 = .ok (.aload_n 0, 1) := by decide +kernel
theorem dX5_add_15 : decode cX5_add 15 = .ok (.getfield 21, 3) := by decide +kernel
theorem dX5_add_18 : decode cX5_add 18 = .ok (.aload_n 0, 1) := by decide +kernel
theorem dX5_add_19 : decode cX5_add 19 = .ok (.getfield 31, 3) := by decide +kernel
theorem dX5_add_22 : decode cX5_add 22 = .ok (.iload_n 1, 1) := by decide +kernel
theorem dX5_add_23 : decode cX5_add 23 = .ok (.iastore, 1) := by decide +kernel
theorem dX5_add_24 : decode cX5_add 24 = .ok (.aload_n 0, 1) := by decide +kernel
theorem dX5_add_25 : decode cX5_add 25 = .ok (.getfield 25, 3) := by decide +kernel
theorem dX5_add_28 : decode cX5_add 28 = .ok (.aload_n 0, 1) := by decide +kernel
theorem dX5_add_29 : decode cX5_add 29 = .ok (.getfield 31, 3) := by decide +kernel
theorem dX5_add_32 : decode cX5_add 32 = .ok (.iload_n 2, 1) := by decide +kernel
theorem dX5_add_33 : decode cX5_add 33 = .ok (.iastore, 1) := by decide +kernel
theorem dX5_add_34 : decode cX5_add 34 = .ok (.aload_n 0, 1) := by decide +kernel
theorem dX5_add_35 : decode cX5_add 35 = .ok (.getfield 28, 3) := by decide +kernel
theorem dX5_add_38 : decode cX5_add 38 = .ok (.aload_n 0, 1) := by decide +kernel
theorem dX5_add_39 : decode cX5_add 39 = .ok (.getfield 31, 3) := by decide +kernel
theorem dX5_add_42 : decode cX5_add 42 = .ok (.iload_n 3, 1) := by decide +kernel
theorem dX5_add_43 : decode cX5_add 43 = .ok (.iastore, 1) := by decide +kernel
theorem dX5_add_44 : decode cX5_add 44 = .ok (.aload_n 0, 1) := by decide +kernel
theorem dX5_add_45 : decode cX5_add 45 = .ok (.dup, 1) := by decide +kernel
theorem dX5_add_46 : decode cX5_add 46 = .ok (.getfield 31, 3) := by decide +kernel
theorem dX5_add_49 : decode cX5_add 49 = .ok (.iconst 1, 1) := by decide +kernel
theorem dX5_add_50 : decode cX5_add 50 = .ok (.iadd, 1) := by decide +kernel
theorem dX5_add_51 : decode cX5_add 51 = .ok (.putfield 31, 3) := by decide +kernel
theorem dX5_add_54 : decode cX5_add 54 = .ok (.aload_n 0, 1) := by decide +kernel
theorem dX5_add_55 : decode cX5_add 55 = .ok (.getfield 31, 3) := by decide +kernel
theorem dX5_add_58 : decode cX5_add 58 = .ok (.ireturn, 1) := by decide +kernel
theorem dX5_empty_0 : decode cX5_empty 0 = .ok (.aload_n 0, 1) := by decide +kernel
theorem dX5_empty_1 : decode cX5_empty 1 = .ok (.iconst 0, 1) := by decide +kernel
theorem dX5_empty_2 : decode cX5_empty 2 = .ok (.putfield 31, 3) := by decide +kernel
theorem dX5_empty_5 : decode cX5_empty 5 = .ok (.return_, 1) := by decide +kernel
theorem dX5_copy_0 : decode cX5_copy 0 = .ok (.aload_n 0, 1) := by decide +kernel
theorem dX5_copy_1 : decode cX5_copy 1 = .ok (.aload_n 1, 1) := by decide +kernel
theorem dX5_copy_2 : decode cX5_copy 2 = .ok (.getfield 31, 3) := by decide +kernel
theorem dX5_copy_5 : decode cX5_copy 5 = .ok (.aload_n 0, 1) := by decide +kernel
theorem dX5_copy_6 : decode cX5_copy 6 = .ok (.getfield 15, 3) := by decide +kernel
theorem dX5_copy_9 : decode cX5_copy 9 = .ok (.invokestatic 34, 3) := by decide +kernel
theorem dX5_copy_12 : decode cX5_copy 12 = .ok (.putfield 31, 3) := by decide +kernel
theorem dX5_copy_15 : decode cX5_copy 15 = .ok (.iconst 0, 1) := by decide +kernel
theorem dX5_copy_16 : decode cX5_copy 16 = .ok (.istore_n 2, 1) := by decide +kernel
theorem dX5_copy_17 : decode cX5_copy 17 = .ok (.iload_n 2, 1) := by decide +kernel
theorem dX5_copy_18 : decode cX5_copy 18 = .ok (.aload_n 0, 1) := by decide +kernel
theorem dX5_copy_19 : decode cX5_copy 19 = .ok (.getfield 31, 3) := by decide +kernel
theorem dX5_copy_22 : decode cX5_copy 22 = .ok (.if_icmp .ge 45, 3) := by decide +kernel
theorem dX5_copy_25 : decode cX5_copy 25 = .ok (.aload_n 0, 1) := by decide +kernel
theorem dX5_copy_26 : decode cX5_copy 26 = .ok (.getfield 21, 3) := by decide +kernel
theorem dX5_copy_29 : decode cX5_copy 29 = .ok (.iload_n 2, 1) := by decide +kernel
theorem dX5_copy_30 : decode cX5_copy 30 = .ok (.aload_n 1, 1) := by decide +kernel
theorem dX5_copy_31 : decode cX5_copy 31 = .ok (.getfield 21, 3) := by decide +kernel
theorem dX5_copy_34 : decode cX5_copy 34 = .ok (.iload_n 2, 1) := by decide +kernel
theorem dX5_copy_35 : decode cX5_copy 35 = .ok (.iaload, 1) := by decide +kernel
theorem dX5_copy_36 : decode cX5_copy 36 = .ok (.iastore, 1) := by decide +kernel
theorem dX5_copy_37 : decode cX5_copy 37 = .ok (.aload_n 0, 1) := by decide +kernel
theorem dX5_copy_38 : decode cX5_copy 38 = .ok (.getfield 25, 3) := by decide +kernel
theorem dX5_copy_41 : decode cX5_copy 41 = .ok (.iload_n 2, 1) := by decide +kernel
theorem dX5_copy_42 : decode cX5_copy 42 = .ok (.aload_n 1, 1) := by decide +kernel
theorem dX5_copy_43 : decode cX5_copy 43 = .ok (.getfield 25, 3) := by decide +kernel
theorem dX5_copy_46 : decode cX5_copy 46 = .ok (.iload_n 2, 1) := by decide +kernel
theorem dX5_copy_47 : decode cX5_copy 47 = .ok (.iaload, 1) := by decide +kernel
theorem dX5_copy_48 : decode cX5_copy 48 = .ok (.iastore, 1) := by decide +kernel
theorem dX5_copy_49 : decode cX5_copy 49 = .ok (.aload_n 0, 1) := by decide +kernel
theorem dX5_copy_50 : decode cX5_copy 50 = .ok (.getfield 28, 3) := by decide +kernel
theorem dX5_copy_53 : decode cX5_copy 53 = .ok (.iload_n 2, 1) := by decide +kernel
theorem dX5_copy_54 : decode cX5_copy 54 = .ok (.aload_n 1, 1) := by decide +kernel
theorem dX5_copy_55 : decode cX5_copy 55 = .ok (.getfield 28, 3) := by decide +kernel
theorem dX5_copy_58 : decode cX5_copy 58 = .ok (.iload_n 2, 1) := by decide +kernel
theorem dX5_copy_59 : decode cX5_copy 59 = .ok (.iaload, 1) := by decide +kernel
theorem dX5_copy_60 : decode cX5_copy 60 = .ok (.iastore, 1) := by decide +kernel
theorem dX5_copy_61 : decode cX5_copy 61 = .ok (.iinc 2 1, 3) := by decide +kernel
theorem dX5_copy_64 : decode cX5_copy 64 = .ok (.goto (-47), 3) := by decide +kernel
theorem dX5_copy_67 : decode cX5_copy 67 = .ok (.return_, 1) := by decide +kernel
theorem dX6_init_0 : decode cX6_init 0 = .ok (.aload_n 0, 1) := by decide +kernel
theorem dX6_init_1 : decode cX6_init 1 = .ok (.invokespecial 3, 3) := by decide +kernel
theorem dX6_init_4 : decode cX6_init 4 = .ok (.aload_n 0, 1) := by decide +kernel
theorem dX6_init_5 : decode cX6_init 5 = .ok (.bipush 60, 2) := by decide +kernel
theorem dX6_init_7 : decode cX6_init 7 = .ok (.newarray .long, 2) := by decide +kernel
theorem dX6_init_9 : decode cX6_init 9 = .ok (.putfield 9, 3) := by decide +kernel
theorem dX6_init_12 : decode cX6_init 12 = .ok (.aload_n 0, 1) := by decide +kernel
theorem dX6_init_13 : decode cX6_init 13 = .ok (.iconst (-1), 1) := by decide +kernel
theorem dX6_init_14 : decode cX6_init 14 = .ok (.putfield 15, 3) := by decide +kernel
theorem dX6_init_17 : decode cX6_init 17 = .ok (.aload_n 0, 1) := by decide +kernel
theorem dX6_init_18 : decode cX6_init 18 = .ok (.iconst 0, 1) := by decide +kernel
theorem dX6_init_19 : decode cX6_init 19 = .ok (.putfield 19, 3) := by decide +kernel
theorem dX6_init_22 : decode cX6_init 22 = .ok (.return_, 1) := by decide +kernel
theorem dX6_become_0 : decode cX6_become 0 = .ok (.aload_n 0, 1) := by decide +kernel
theorem dX6_become_1 : decode cX6_become 1 = .ok (.iload_n 1, 1) := by decide +kernel
theorem dX6_become_2 : decode cX6_become 2 = .ok (.putfield 15, 3) := by decide +kernel
theorem dX6_become_5 : decode cX6_become 5 = .ok (.aload_n 0, 1) := by decide +kernel
theorem dX6_become_6 : decode cX6_become 6 = .ok (.iconst 0, 1) := by decide +kernel
theorem dX6_become_7 : decode cX6_become 7 = .ok (.iload_n 2, 1) := by decide +kernel
theorem dX6_become_8 : decode cX6_become 8 = .ok (.bipush 60, 2) := by decide +kernel
theorem dX6_become_10 : decode cX6_become 10 = .ok (.invokestatic 22, 3) := by decide +kernel
theorem dX6_become_13 : decode cX6_become 13 = .ok (.invokestatic 28, 3) := by decide +kernel
theorem dX6_become_16 : decode cX6_become 16 = .ok (.putfield 19, 3) := by decide +kernel
theorem dX6_become_19 : decode cX6_become 19 = .ok (.iconst 0, 1) := by decide +kernel
theorem dX6_become_20 : decode cX6_become 20 = .ok (.istore_n 3, 1) := by decide +kernel
theorem dX6_become_21 : decode cX6_become 21 = .ok (.iload_n 3, 1) := by decide +kernel
theorem dX6_become_22 : decode cX6_become 22 = .ok (.aload_n 0, 1) := by decide +kernel
theorem dX6_become_23 : decode cX6_become 23 = .ok (.getfield 19, 3) := by decide +kernel
theorem dX6_become_26 : decode cX6_become 26 = .ok (.if_icmp .ge 16, 3) := by decide +kernel
theorem dX6_become_29 : decode cX6_become 29 = .ok (.aload_n 0, 1) := by decide +kernel
theorem dX6_become_30 : decode cX6_become 30 = .ok (.getfield 9, 3) := by decide +kernel
theorem dX6_become_33 : decode cX6_become 33 = .ok (.iload_n 3, 1) := by decide +kernel
theorem dX6_become_34 : decode cX6_become 34 = .ok (.lconst 0, 1) := by decide +kernel
theorem dX6_become_35 : decode cX6_become 35 = .ok (.lastore, 1) := by decide +kernel
theorem dX6_become_36 : decode cX6_become 36 = .ok (.iinc 3 1, 3) := by decide +kernel
theorem dX6_become_39 : decode cX6_become 39 = .ok (.goto (-18), 3) := by decide +kernel
theorem dX6_become_42 : decode cX6_become 42 = .ok (.return_, 1) := by decide +kernel
theorem dX6_isNothing_0 : decode cX6_isNothing 0 = .ok (.aload_n 0, 1) := by decide +kernel
theorem dX6_isNothing_1 : decode cX6_isNothing 1 = .ok (.getfield 15, 3) := by decide +kernel
theorem dX6_isNothing_4 : decode cX6_isNothing 4 = .ok (.iconst (-1), 1) := by decide +kernel
theorem dX6_isNothing_5 : decode cX6_isNothing 5 = .ok (.if_icmp .ne 7, 3) := by decide +kernel
theorem dX6_isNothing_8 : decode cX6_isNothing 8 = .ok (.iconst 1, 1) := by decide +kernel
theorem dX6_isNothing_9 : decode cX6_isNothing 9 = .ok (.goto 4, 3) := by decide +kernel
theorem dX6_isNothing_12 : decode cX6_isNothing 12 = .ok (.iconst 0, 1) := by decide +kernel
theorem dX6_isNothing_13 : decode cX6_isNothing 13 = .ok (.ireturn, 1) := by decide +kernel
theorem dX6_sort_0 : decode cX6_sort 0 = .ok (.aload_n 0, 1) := by decide +kernel
theorem dX6_sort_1 : decode cX6_sort 1 = .ok (.getfield 15, 3) := by decide +kernel
theorem dX6_sort_4 : decode cX6_sort 4 = .ok (.ireturn, 1) := by decide +kernel
theorem dX6_hasRange_0 : decode cX6_hasRange 0 = .ok (.lload_n 1, 1) := by decide +kernel
theorem dX6_hasRange_1 : decode cX6_hasRange 1 = .ok (.lconst 0, 1) := by decide +kernel
theorem dX6_hasRange_2 : decode cX6_hasRange 2 = .ok (.lcmp, 1) := by decide +kernel
theorem dX6_hasRange_3 : decode cX6_hasRange 3 = .ok (.ifCond .lt 25, 3) := by decide +kernel
theorem dX6_hasRange_6 : decode cX6_hasRange 6 = .ok (.lload_n 3, 1) := by decide +kernel
theorem dX6_hasRange_7 : decode cX6_hasRange 7 = .ok (.lconst 0, 1) := by decide +kernel
theorem dX6_hasRange_8 : decode cX6_hasRange 8 = .ok (.lcmp, 1) := by decide +kernel
theorem dX6_hasRange_9 : decode cX6_hasRange 9 = .ok (.ifCond .lt 19, 3) := by decide +kernel
theorem dX6_hasRange_12 : decode cX6_hasRange 12 = .ok (.lload_n 1, 1) := by decide +kernel
theorem dX6_hasRange_13 : decode cX6_hasRange 13 = .ok (.lload_n 3, 1) := by decide +kernel
theorem dX6_hasRange_14 : decode cX6_hasRange 14 = .ok (.ladd, 1) := by decide +kernel
theorem dX6_hasRange_15 : decode cX6_hasRange 15 = .ok (.aload_n 0, 1) := by decide +kernel
theorem dX6_hasRange_16 : decode cX6_hasRange 16 = .ok (.getfield 19, 3) := by decide +kernel
theorem dX6_hasRange_19 : decode cX6_hasRange 19 = .ok (.i2l, 1) := by decide +kernel
theorem dX6_hasRange_20 : decode cX6_hasRange 20 = .ok (.lcmp, 1) := by decide +kernel
theorem dX6_hasRange_21 : decode cX6_hasRange 21 = .ok (.ifCond .gt 7, 3) := by decide +kernel
theorem dX6_hasRange_24 : decode cX6_hasRange 24 = .ok (.iconst 1, 1) := by decide +kernel
theorem dX6_hasRange_25 : decode cX6_hasRange 25 = .ok (.goto 4, 3) := by decide +kernel
theorem dX6_hasRange_28 : decode cX6_hasRange 28 = .ok (.iconst 0, 1) := by decide +kernel
theorem dX6_hasRange_29 : decode cX6_hasRange 29 = .ok (.ireturn, 1) := by decide +kernel
theorem dX6_get_0 : decode cX6_get 0 = .ok (.iload_n 1, 1) := by decide +kernel
theorem dX6_get_1 : decode cX6_get 1 = .ok (.ifCond .lt 20, 3) := by decide +kernel
theorem dX6_get_4 : decode cX6_get 4 = .ok (.iload_n 1, 1) := by decide +kernel
theorem dX6_get_5 : decode cX6_get 5 = .ok (.aload_n 0, 1) := by decide +kernel
theorem dX6_get_6 : decode cX6_get 6 = .ok (.getfield 19, 3) := by decide +kernel
theorem dX6_get_9 : decode cX6_get 9 = .ok (.if_icmp .ge 12, 3) := by decide +kernel
theorem dX6_get_12 : decode cX6_get 12 = .ok (.aload_n 0, 1) := by decide +kernel
theorem dX6_get_13 : decode cX6_get 13 = .ok (.getfield 9, 3) := by decide +kernel
theorem dX6_get_16 : decode cX6_get 16 = .ok (.iload_n 1, 1) := by decide +kernel
theorem dX6_get_17 : decode cX6_get 17 = .ok (.laload, 1) := by decide +kernel
theorem dX6_get_18 : decode cX6_get 18 = .ok (.goto 4, 3) := by decide +kernel
theorem dX6_get_21 : decode cX6_get 21 = .ok (.lconst 0, 1) := by decide +kernel
theorem dX6_get_22 : decode cX6_get 22 = .ok (.lreturn, 1) := by decide +kernel
theorem dX6_set_0 : decode cX6_set 0 = .ok (.iload_n 1, 1) := by decide +kernel
theorem dX6_set_1 : decode cX6_set 1 = .ok (.ifCond .lt 22, 3) := by decide +kernel
theorem dX6_set_4 : decode cX6_set 4 = .ok (.iload_n 1, 1) := by decide +kernel
theorem dX6_set_5 : decode cX6_set 5 = .ok (.aload_n 0, 1) := by decide +kernel
theorem dX6_set_6 : decode cX6_set 6 = .ok (.getfield 19, 3) := by decide +kernel
theorem dX6_set_9 : decode cX6_set 9 = .ok (.if_icmp .ge 14, 3) := by decide +kernel
theorem dX6_set_12 : decode cX6_set 12 = .ok (.aload_n 0, 1) := by decide +kernel
theorem dX6_set_13 : decode cX6_set 13 = .ok (.getfield 9, 3) := by decide +kernel
theorem dX6_set_16 : decode cX6_set 16 = .ok (.iload_n 1, 1) := by decide +kernel
theorem dX6_set_17 : decode cX6_set 17 = .ok (.aload_n 0, 1) := by decide +kernel
theorem dX6_set_18 : decode cX6_set 18 = .ok (.lload_n 2, 1) := by decide +kernel
theorem dX6_set_19 : decode cX6_set 19 = .ok (.invokevirtual 31, 3) := by decide +kernel
theorem dX6_set_22 : decode cX6_set 22 = .ok (.lastore, 1) := by decide +kernel
theorem dX6_set_23 : decode cX6_set 23 = .ok (.return_, 1) := by decide +kernel
theorem dX6_narrow_0 : decode cX6_narrow 0 = .ok (.aload_n 0, 1) := by decide +kernel
theorem dX6_narrow_1 : decode cX6_narrow 1 = .ok (.getfield 15, 3) := by decide +kernel
theorem dX6_narrow_4 : decode cX6_narrow 4 = .ok (.tableswitch 48 0 3 #[32, 37, 42, 46], 32) := by decide +kernel
theorem dX6_narrow_36 : decode cX6_narrow 36 = .ok (.lload_n 1, 1) := by decide +kernel
theorem dX6_narrow_37 : decode cX6_narrow 37 = .ok (.l2i, 1) := by decide +kernel
theorem dX6_narrow_38 : decode cX6_narrow 38 = .ok (.i2b, 1) := by decide +kernel
theorem dX6_narrow_39 : decode cX6_narrow 39 = .ok (.i2l, 1) := by decide +kernel
theorem dX6_narrow_40 : decode cX6_narrow 40 = .ok (.lreturn, 1) := by decide +kernel
theorem dX6_narrow_41 : decode cX6_narrow 41 = .ok (.lload_n 1, 1) := by decide +kernel
theorem dX6_narrow_42 : decode cX6_narrow 42 = .ok (.l2i, 1) := by decide +kernel
theorem dX6_narrow_43 : decode cX6_narrow 43 = .ok (.i2s, 1) := by decide +kernel
theorem dX6_narrow_44 : decode cX6_narrow 44 = .ok (.i2l, 1) := by decide +kernel
theorem dX6_narrow_45 : decode cX6_narrow 45 = .ok (.lreturn, 1) := by decide +kernel
theorem dX6_narrow_46 : decode cX6_narrow 46 = .ok (.lload_n 1, 1) := by decide +kernel
theorem dX6_narrow_47 : decode cX6_narrow 47 = .ok (.l2i, 1) := by decide +kernel
theorem dX6_narrow_48 : decode cX6_narrow 48 = .ok (.i2l, 1) := by decide +kernel
theorem dX6_narrow_49 : decode cX6_narrow 49 = .ok (.lreturn, 1) := by decide +kernel
theorem dX6_narrow_50 : decode cX6_narrow 50 = .ok (.lload_n 1, 1) := by decide +kernel
theorem dX6_narrow_51 : decode cX6_narrow 51 = .ok (.lreturn, 1) := by decide +kernel
theorem dX6_narrow_52 : decode cX6_narrow 52 = .ok (.lload_n 1, 1) := by decide +kernel
theorem dX6_narrow_53 : decode cX6_narrow 53 = .ok (.lconst 0, 1) := by decide +kernel
