theorem dX9_judge_8 : decode cX9_judge 8 = .ok (.invokestatic 308, 3) := by decide +kernel
theorem dX9_judge_11 : decode cX9_judge 11 = .ok (.ifCond .eq 5, 3) := by decide +kernel
theorem dX9_judge_14 : decode cX9_judge 14 = .ok (.iconst (-1), 1) := by decide +kernel
theorem dX9_judge_15 : decode cX9_judge 15 = .ok (.ireturn, 1) := by decide +kernel
theorem dX9_judge_16 : decode cX9_judge 16 = .ok (.aload_n 0, 1) := by decide +kernel
theorem dX9_judge_17 : decode cX9_judge 17 = .ok (.getfield 41, 3) := by decide +kernel
theorem dX9_judge_20 : decode cX9_judge 20 = .ok (.iload_n 2, 1) := by decide +kernel
theorem dX9_judge_21 : decode cX9_judge 21 = .ok (.aaload, 1) := by decide +kernel
theorem dX9_judge_22 : decode cX9_judge 22 = .ok (.astore 4, 2) := by decide +kernel
theorem dX9_judge_24 : decode cX9_judge 24 = .ok (.aload 4, 2) := by decide +kernel
theorem dX9_judge_26 : decode cX9_judge 26 = .ok (.invokevirtual 311, 3) := by decide +kernel
theorem dX9_judge_29 : decode cX9_judge 29 = .ok (.ifCond .ne 14, 3) := by decide +kernel
theorem dX9_judge_32 : decode cX9_judge 32 = .ok (.aload 4, 2) := by decide +kernel
theorem dX9_judge_34 : decode cX9_judge 34 = .ok (.invokevirtual 314, 3) := by decide +kernel
theorem dX9_judge_37 : decode cX9_judge 37 = .ok (.ifCond .eq 6, 3) := by decide +kernel
theorem dX9_judge_40 : decode cX9_judge 40 = .ok (.bipush (-12), 2) := by decide +kernel
theorem dX9_judge_42 : decode cX9_judge 42 = .ok (.ireturn, 1) := by decide +kernel
theorem dX9_judge_43 : decode cX9_judge 43 = .ok (.iconst 0, 1) := by decide +kernel
theorem dX9_judge_44 : decode cX9_judge 44 = .ok (.istore 5, 2) := by decide +kernel
theorem dX9_judge_46 : decode cX9_judge 46 = .ok (.iload 5, 2) := by decide +kernel
theorem dX9_judge_48 : decode cX9_judge 48 = .ok (.bipush 9, 2) := by decide +kernel
theorem dX9_judge_50 : decode cX9_judge 50 = .ok (.if_icmp .gt 63, 3) := by decide +kernel
theorem dX9_judge_53 : decode cX9_judge 53 = .ok (.iload_n 3, 1) := by decide +kernel
theorem dX9_judge_54 : decode cX9_judge 54 = .ok (.i2l, 1) := by decide +kernel
theorem dX9_judge_55 : decode cX9_judge 55 = .ok (.iload 5, 2) := by decide +kernel
theorem dX9_judge_57 : decode cX9_judge 57 = .ok (.i2l, 1) := by decide +kernel
theorem dX9_judge_58 : decode cX9_judge 58 = .ok (.ladd, 1) := by decide +kernel
theorem dX9_judge_59 : decode cX9_judge 59 = .ok (.lstore 6, 2) := by decide +kernel
theorem dX9_judge_61 : decode cX9_judge 61 = .ok (.aload 4, 2) := by decide +kernel
theorem dX9_judge_63 : decode cX9_judge 63 = .ok (.lload 6, 2) := by decide +kernel
theorem dX9_judge_65 : decode cX9_judge 65 = .ok (.lconst 1, 1) := by decide +kernel
theorem dX9_judge_66 : decode cX9_judge 66 = .ok (.invokevirtual 317, 3) := by decide +kernel
theorem dX9_judge_69 : decode cX9_judge 69 = .ok (.ifCond .ne 9, 3) := by decide +kernel
theorem dX9_judge_72 : decode cX9_judge 72 = .ok (.bipush 100, 2) := by decide +kernel
theorem dX9_judge_74 : decode cX9_judge 74 = .ok (.iload 5, 2) := by decide +kernel
theorem dX9_judge_76 : decode cX9_judge 76 = .ok (.iadd, 1) := by decide +kernel
theorem dX9_judge_77 : decode cX9_judge 77 = .ok (.ireturn, 1) := by decide +kernel
theorem dX9_judge_78 : decode cX9_judge 78 = .ok (.aload 4, 2) := by decide +kernel
theorem dX9_judge_80 : decode cX9_judge 80 = .ok (.lload 6, 2) := by decide +kernel
theorem dX9_judge_82 : decode cX9_judge 82 = .ok (.l2i, 1) := by decide +kernel
theorem dX9_judge_83 : decode cX9_judge 83 = .ok (.invokevirtual 321, 3) := by decide +kernel
theorem dX9_judge_86 : decode cX9_judge 86 = .ok (.aload_n 0, 1) := by decide +kernel
theorem dX9_judge_87 : decode cX9_judge 87 = .ok (.getfield 12, 3) := by decide +kernel
theorem dX9_judge_90 : decode cX9_judge 90 = .ok (.iload_n 1, 1) := by decide +kernel
theorem dX9_judge_91 : decode cX9_judge 91 = .ok (.invokevirtual 85, 3) := by decide +kernel
theorem dX9_judge_94 : decode cX9_judge 94 = .ok (.iload 5, 2) := by decide +kernel
theorem dX9_judge_96 : decode cX9_judge 96 = .ok (.invokevirtual 252, 3) := by decide +kernel
theorem dX9_judge_99 : decode cX9_judge 99 = .ok (.i2l, 1) := by decide +kernel
theorem dX9_judge_100 : decode cX9_judge 100 = .ok (.lcmp, 1) := by decide +kernel
theorem dX9_judge_101 : decode cX9_judge 101 = .ok (.ifCond .eq 6, 3) := by decide +kernel
theorem dX9_judge_104 : decode cX9_judge 104 = .ok (.iload 5, 2) := by decide +kernel
theorem dX9_judge_106 : decode cX9_judge 106 = .ok (.ireturn, 1) := by decide +kernel
theorem dX9_judge_107 : decode cX9_judge 107 = .ok (.iinc 5 1, 3) := by decide +kernel
theorem dX9_judge_110 : decode cX9_judge 110 = .ok (.goto (-64), 3) := by decide +kernel
theorem dX9_judge_113 : decode cX9_judge 113 = .ok (.bipush (-5), 2) := by decide +kernel
theorem dX9_judge_115 : decode cX9_judge 115 = .ok (.ireturn, 1) := by decide +kernel
theorem dX9_image_0 : decode cX9_image 0 = .ok (.aload_n 0, 1) := by decide +kernel
theorem dX9_image_1 : decode cX9_image 1 = .ok (.getfield 18, 3) := by decide +kernel
theorem dX9_image_4 : decode cX9_image 4 = .ok (.aload_n 0, 1) := by decide +kernel
theorem dX9_image_5 : decode cX9_image 5 = .ok (.getfield 12, 3) := by decide +kernel
theorem dX9_image_8 : decode cX9_image 8 = .ok (.invokevirtual 325, 3) := by decide +kernel
theorem dX9_image_11 : decode cX9_image 11 = .ok (.aload_n 0, 1) := by decide +kernel
theorem dX9_image_12 : decode cX9_image 12 = .ok (.iconst 1, 1) := by decide +kernel
theorem dX9_image_13 : decode cX9_image 13 = .ok (.putfield 21, 3) := by decide +kernel
theorem dX9_image_16 : decode cX9_image 16 = .ok (.aload_n 0, 1) := by decide +kernel
theorem dX9_image_17 : decode cX9_image 17 = .ok (.getfield 12, 3) := by decide +kernel
theorem dX9_image_20 : decode cX9_image 20 = .ok (.invokevirtual 327, 3) := by decide +kernel
theorem dX9_image_23 : decode cX9_image 23 = .ok (.ireturn, 1) := by decide +kernel
theorem dX9_undo_0 : decode cX9_undo 0 = .ok (.aload_n 0, 1) := by decide +kernel
theorem dX9_undo_1 : decode cX9_undo 1 = .ok (.getfield 21, 3) := by decide +kernel
theorem dX9_undo_4 : decode cX9_undo 4 = .ok (.ifCond .ne 6, 3) := by decide +kernel
theorem dX9_undo_7 : decode cX9_undo 7 = .ok (.bipush (-3), 2) := by decide +kernel
theorem dX9_undo_9 : decode cX9_undo 9 = .ok (.ireturn, 1) := by decide +kernel
theorem dX9_undo_10 : decode cX9_undo 10 = .ok (.aload_n 0, 1) := by decide +kernel
theorem dX9_undo_11 : decode cX9_undo 11 = .ok (.getfield 12, 3) := by decide +kernel
theorem dX9_undo_14 : decode cX9_undo 14 = .ok (.aload_n 0, 1) := by decide +kernel
theorem dX9_undo_15 : decode cX9_undo 15 = .ok (.getfield 18, 3) := by decide +kernel
theorem dX9_undo_18 : decode cX9_undo 18 = .ok (.invokevirtual 325, 3) := by decide +kernel
theorem dX9_undo_21 : decode cX9_undo 21 = .ok (.aload_n 0, 1) := by decide +kernel
theorem dX9_undo_22 : decode cX9_undo 22 = .ok (.getfield 28, 3) := by decide +kernel
theorem dX9_undo_25 : decode cX9_undo 25 = .ok (.invokevirtual 330, 3) := by decide +kernel
theorem dX9_undo_28 : decode cX9_undo 28 = .ok (.aload_n 0, 1) := by decide +kernel
theorem dX9_undo_29 : decode cX9_undo 29 = .ok (.getfield 12, 3) := by decide +kernel
theorem dX9_undo_32 : decode cX9_undo 32 = .ok (.invokevirtual 327, 3) := by decide +kernel
theorem dX9_undo_35 : decode cX9_undo 35 = .ok (.ireturn, 1) := by decide +kernel
theorem dX9_count_0 : decode cX9_count 0 = .ok (.iload_n 1, 1) := by decide +kernel
theorem dX9_count_1 : decode cX9_count 1 = .ok (.tableswitch 84 0 4 #[35, 46, 57, 68, 76], 35) := by decide +kernel
theorem dX9_count_36 : decode cX9_count 36 = .ok (.aload_n 0, 1) := by decide +kernel
theorem dX9_count_37 : decode cX9_count 37 = .ok (.getfield 12, 3) := by decide +kernel
theorem dX9_count_40 : decode cX9_count 40 = .ok (.getfield 273, 3) := by decide +kernel
theorem dX9_count_43 : decode cX9_count 43 = .ok (.invokevirtual 295, 3) := by decide +kernel
theorem dX9_count_46 : decode cX9_count 46 = .ok (.ireturn, 1) := by decide +kernel
theorem dX9_count_47 : decode cX9_count 47 = .ok (.aload_n 0, 1) := by decide +kernel
theorem dX9_count_48 : decode cX9_count 48 = .ok (.getfield 12, 3) := by decide +kernel
theorem dX9_count_51 : decode cX9_count 51 = .ok (.getfield 289, 3) := by decide +kernel
theorem dX9_count_54 : decode cX9_count 54 = .ok (.invokevirtual 295, 3) := by decide +kernel
theorem dX9_count_57 : decode cX9_count 57 = .ok (.ireturn, 1) := by decide +kernel
theorem dX9_count_58 : decode cX9_count 58 = .ok (.aload_n 0, 1) := by decide +kernel
theorem dX9_count_59 : decode cX9_count 59 = .ok (.getfield 12, 3) := by decide +kernel
theorem dX9_count_62 : decode cX9_count 62 = .ok (.getfield 305, 3) := by decide +kernel
theorem dX9_count_65 : decode cX9_count 65 = .ok (.invokevirtual 295, 3) := by decide +kernel
theorem dX9_count_68 : decode cX9_count 68 = .ok (.ireturn, 1) := by decide +kernel
theorem dX9_count_69 : decode cX9_count 69 = .ok (.aload_n 0, 1) := by decide +kernel
theorem dX9_count_70 : decode cX9_count 70 = .ok (.getfield 35, 3) := by decide +kernel
theorem dX9_count_73 : decode cX9_count 73 = .ok (.invokevirtual 150, 3) := by decide +kernel
theorem dX9_count_76 : decode cX9_count 76 = .ok (.ireturn, 1) := by decide +kernel
theorem dX9_count_77 : decode cX9_count 77 = .ok (.aload_n 0, 1) := by decide +kernel
theorem dX9_count_78 : decode cX9_count 78 = .ok (.getfield 28, 3) := by decide +kernel
theorem dX9_count_81 : decode cX9_count 81 = .ok (.invokevirtual 139, 3) := by decide +kernel
theorem dX9_count_84 : decode cX9_count 84 = .ok (.ireturn, 1) := by decide +kernel
theorem dX9_count_85 : decode cX9_count 85 = .ok (.bipush (-2), 2) := by decide +kernel
theorem dX9_count_87 : decode cX9_count 87 = .ok (.ireturn, 1) := by decide +kernel
theorem dX9_tape_0 : decode cX9_tape 0 = .ok (.iload_n 1, 1) := by decide +kernel
theorem dX9_tape_1 : decode cX9_tape 1 = .ok (.invokestatic 308, 3) := by decide +kernel
theorem dX9_tape_4 : decode cX9_tape 4 = .ok (.ifCond .eq 5, 3) := by decide +kernel
theorem dX9_tape_7 : decode cX9_tape 7 = .ok (.iconst (-1), 1) := by decide +kernel
theorem dX9_tape_8 : decode cX9_tape 8 = .ok (.ireturn, 1) := by decide +kernel
theorem dX9_tape_9 : decode cX9_tape 9 = .ok (.iload_n 2, 1) := by decide +kernel
theorem dX9_tape_10 : decode cX9_tape 10 = .ok (.iconst (-1), 1) := by decide +kernel
theorem dX9_tape_11 : decode cX9_tape 11 = .ok (.if_icmp .ne 16, 3) := by decide +kernel
theorem dX9_tape_14 : decode cX9_tape 14 = .ok (.aload_n 0, 1) := by decide +kernel
theorem dX9_tape_15 : decode cX9_tape 15 = .ok (.getfield 41, 3) := by decide +kernel
theorem dX9_tape_18 : decode cX9_tape 18 = .ok (.iload_n 1, 1) := by decide +kernel
theorem dX9_tape_19 : decode cX9_tape 19 = .ok (.aaload, 1) := by decide +kernel
theorem dX9_tape_20 : decode cX9_tape 20 = .ok (.iconst (-1), 1) := by decide +kernel
theorem dX9_tape_21 : decode cX9_tape 21 = .ok (.iconst 0, 1) := by decide +kernel
theorem dX9_tape_22 : decode cX9_tape 22 = .ok (.invokevirtual 333, 3) := by decide +kernel
theorem dX9_tape_25 : decode cX9_tape 25 = .ok (.iconst 1, 1) := by decide +kernel
theorem dX9_tape_26 : decode cX9_tape 26 = .ok (.ireturn, 1) := by decide +kernel
theorem dX9_tape_27 : decode cX9_tape 27 = .ok (.iload_n 2, 1) := by decide +kernel
theorem dX9_tape_28 : decode cX9_tape 28 = .ok (.ifCond .lt 14, 3) := by decide +kernel
theorem dX9_tape_31 : decode cX9_tape 31 = .ok (.iload_n 2, 1) := by decide +kernel
theorem dX9_tape_32 : decode cX9_tape 32 = .ok (.iconst 4, 1) := by decide +kernel
theorem dX9_tape_33 : decode cX9_tape 33 = .ok (.if_icmp .gt 9, 3) := by decide +kernel
theorem dX9_tape_36 : decode cX9_tape 36 = .ok (.iload_n 3, 1) := by decide +kernel
theorem dX9_tape_37 : decode cX9_tape 37 = .ok (.bipush 60, 2) := by decide +kernel
theorem dX9_tape_39 : decode cX9_tape 39 = .ok (.if_icmp .le 6, 3) := by decide +kernel
theorem dX9_tape_42 : decode cX9_tape 42 = .ok (.bipush (-2), 2) := by decide +kernel
theorem dX9_tape_44 : decode cX9_tape 44 = .ok (.ireturn, 1) := by decide +kernel
theorem dX9_tape_45 : decode cX9_tape 45 = .ok (.iload_n 3, 1) := by decide +kernel
theorem dX9_tape_46 : decode cX9_tape 46 = .ok (.ifCond .ge 6, 3) := by decide +kernel
theorem dX9_tape_49 : decode cX9_tape 49 = .ok (.bipush (-14), 2) := by decide +kernel
theorem dX9_tape_51 : decode cX9_tape 51 = .ok (.ireturn, 1) := by decide +kernel
theorem dX9_tape_52 : decode cX9_tape 52 = .ok (.aload_n 0, 1) := by decide +kernel
theorem dX9_tape_53 : decode cX9_tape 53 = .ok (.getfield 41, 3) := by decide +kernel
theorem dX9_tape_56 : decode cX9_tape 56 = .ok (.iload_n 1, 1) := by decide +kernel
theorem dX9_tape_57 : decode cX9_tape 57 = .ok (.aaload, 1) := by decide +kernel
theorem dX9_tape_58 : decode cX9_tape 58 = .ok (.iload_n 2, 1) := by decide +kernel
theorem dX9_tape_59 : decode cX9_tape 59 = .ok (.iload_n 3, 1) := by decide +kernel
theorem dX9_tape_60 : decode cX9_tape 60 = .ok (.invokevirtual 333, 3) := by decide +kernel
theorem dX9_tape_63 : decode cX9_tape 63 = .ok (.iconst 1, 1) := by decide +kernel
theorem dX9_tape_64 : decode cX9_tape 64 = .ok (.ireturn, 1) := by decide +kernel
theorem dX9_item_0 : decode cX9_item 0 = .ok (.iload_n 1, 1) := by decide +kernel
theorem dX9_item_1 : decode cX9_item 1 = .ok (.invokestatic 308, 3) := by decide +kernel
theorem dX9_item_4 : decode cX9_item 4 = .ok (.ifCond .eq 5, 3) := by decide +kernel
theorem dX9_item_7 : decode cX9_item 7 = .ok (.iconst (-1), 1) := by decide +kernel
theorem dX9_item_8 : decode cX9_item 8 = .ok (.ireturn, 1) := by decide +kernel
theorem dX9_item_9 : decode cX9_item 9 = .ok (.aload_n 0, 1) := by decide +kernel
theorem dX9_item_10 : decode cX9_item 10 = .ok (.getfield 41, 3) := by decide +kernel
theorem dX9_item_13 : decode cX9_item 13 = .ok (.iload_n 1, 1) := by decide +kernel
theorem dX9_item_14 : decode cX9_item 14 = .ok (.aaload, 1) := by decide +kernel
theorem dX9_item_15 : decode cX9_item 15 = .ok (.astore 5, 2) := by decide +kernel
theorem dX9_item_17 : decode cX9_item 17 = .ok (.aload 5, 2) := by decide +kernel
theorem dX9_item_19 : decode cX9_item 19 = .ok (.invokevirtual 311, 3) := by decide +kernel
theorem dX9_item_22 : decode cX9_item 22 = .ok (.ifCond .eq 6, 3) := by decide +kernel
theorem dX9_item_25 : decode cX9_item 25 = .ok (.bipush (-11), 2) := by decide +kernel
theorem dX9_item_27 : decode cX9_item 27 = .ok (.ireturn, 1) := by decide +kernel
theorem dX9_item_28 : decode cX9_item 28 = .ok (.aload 5, 2) := by decide +kernel
theorem dX9_item_30 : decode cX9_item 30 = .ok (.iload_n 2, 1) := by decide +kernel
theorem dX9_item_31 : decode cX9_item 31 = .ok (.i2l, 1) := by decide +kernel
theorem dX9_item_32 : decode cX9_item 32 = .ok (.lconst 1, 1) := by decide +kernel
theorem dX9_item_33 : decode cX9_item 33 = .ok (.invokevirtual 317, 3) := by decide +kernel
theorem dX9_item_36 : decode cX9_item 36 = .ok (.ifCond .ne 6, 3) := by decide +kernel
theorem dX9_item_39 : decode cX9_item 39 = .ok (.bipush (-13), 2) := by decide +kernel
theorem dX9_item_41 : decode cX9_item 41 = .ok (.ireturn, 1) := by decide +kernel
theorem dX9_item_42 : decode cX9_item 42 = .ok (.aload 5, 2) := by decide +kernel
theorem dX9_item_44 : decode cX9_item 44 = .ok (.iload_n 2, 1) := by decide +kernel
theorem dX9_item_45 : decode cX9_item 45 = .ok (.lload_n 3, 1) := by decide +kernel
theorem dX9_item_46 : decode cX9_item 46 = .ok (.invokevirtual 336, 3) := by decide +kernel
theorem dX9_item_49 : decode cX9_item 49 = .ok (.iconst 1, 1) := by decide +kernel
theorem dX9_item_50 : decode cX9_item 50 = .ok (.ireturn, 1) := by decide +kernel
theorem dX9_peek_0 : decode cX9_peek 0 = .ok (.iload_n 1, 1) := by decide +kernel
theorem dX9_peek_1 : decode cX9_peek 1 = .ok (.invokestatic 308, 3) := by decide +kernel
theorem dX9_peek_4 : decode cX9_peek 4 = .ok (.ifCond .ne 18, 3) := by decide +kernel
theorem dX9_peek_7 : decode cX9_peek 7 = .ok (.aload_n 0, 1) := by decide +kernel
theorem dX9_peek_8 : decode cX9_peek 8 = .ok (.getfield 41, 3) := by decide +kernel
theorem dX9_peek_11 : decode cX9_peek 11 = .ok (.iload_n 1, 1) := by decide +kernel
theorem dX9_peek_12 : decode cX9_peek 12 = .ok (.aaload, 1) := by decide +kernel
theorem dX9_peek_13 : decode cX9_peek 13 = .ok (.iload_n 2, 1) := by decide +kernel
theorem dX9_peek_14 : decode cX9_peek 14 = .ok (.i2l, 1) := by decide +kernel
theorem dX9_peek_15 : decode cX9_peek 15 = .ok (.lconst 1, 1) := by decide +kernel
theorem dX9_peek_16 : decode cX9_peek 16 = .ok (.invokevirtual 317, 3) := by decide +kernel
theorem dX9_peek_19 : decode cX9_peek 19 = .ok (.ifCond .ne 7, 3) := by decide +kernel
theorem dX9_peek_22 : decode cX9_peek 22 = .ok (.ldc2_w 230, 3) := by decide +kernel
theorem dX9_peek_25 : decode cX9_peek 25 = .ok (.lreturn, 1) := by decide +kernel
theorem dX9_peek_26 : decode cX9_peek 26 = .ok (.aload_n 0, 1) := by decide +kernel
theorem dX9_peek_27 : decode cX9_peek 27 = .ok (.getfield 41, 3) := by decide +kernel
theorem dX9_peek_30 : decode cX9_peek 30 = .ok (.iload_n 1, 1) := by decide +kernel
theorem dX9_peek_31 : decode cX9_peek 31 = .ok (.aaload, 1) := by decide +kernel
theorem dX9_peek_32 : decode cX9_peek 32 = .ok (.iload_n 2, 1) := by decide +kernel
theorem dX9_peek_33 : decode cX9_peek 33 = .ok (.invokevirtual 321, 3) := by decide +kernel
theorem dX9_peek_36 : decode cX9_peek 36 = .ok (.lreturn, 1) := by decide +kernel
theorem dX9_shift_0 : decode cX9_shift 0 = .ok (.iload_n 1, 1) := by decide +kernel
theorem dX9_shift_1 : decode cX9_shift 1 = .ok (.invokestatic 308, 3) := by decide +kernel
theorem dX9_shift_4 : decode cX9_shift 4 = .ok (.ifCond .ne 10, 3) := by decide +kernel
theorem dX9_shift_7 : decode cX9_shift 7 = .ok (.iload_n 3, 1) := by decide +kernel
theorem dX9_shift_8 : decode cX9_shift 8 = .ok (.invokestatic 308, 3) := by decide +kernel
theorem dX9_shift_11 : decode cX9_shift 11 = .ok (.ifCond .eq 5, 3) := by decide +kernel
theorem dX9_shift_14 : decode cX9_shift 14 = .ok (.iconst (-1), 1) := by decide +kernel
theorem dX9_shift_15 : decode cX9_shift 15 = .ok (.ireturn, 1) := by decide +kernel
theorem dX9_shift_16 : decode cX9_shift 16 = .ok (.aload_n 0, 1) := by decide +kernel
theorem dX9_shift_17 : decode cX9_shift 17 = .ok (.getfield 41, 3) := by decide +kernel
theorem dX9_shift_20 : decode cX9_shift 20 = .ok (.iload_n 1, 1) := by decide +kernel
theorem dX9_shift_21 : decode cX9_shift 21 = .ok (.aaload, 1) := by decide +kernel
theorem dX9_shift_22 : decode cX9_shift 22 = .ok (.astore 6, 2) := by decide +kernel
theorem dX9_shift_24 : decode cX9_shift 24 = .ok (.aload_n 0, 1) := by decide +kernel
theorem dX9_shift_25 : decode cX9_shift 25 = .ok (.getfield 41, 3) := by decide +kernel
theorem dX9_shift_28 : decode cX9_shift 28 = .ok (.iload_n 3, 1) := by decide +kernel
theorem dX9_shift_29 : decode cX9_shift 29 = .ok (.aaload, 1) := by decide +kernel
theorem dX9_shift_30 : decode cX9_shift 30 = .ok (.astore 7, 2) := by decide +kernel
theorem dX9_shift_32 : decode cX9_shift 32 = .ok (.aload 6, 2) := by decide +kernel
theorem dX9_shift_34 : decode cX9_shift 34 = .ok (.invokevirtual 311, 3) := by decide +kernel
theorem dX9_shift_37 : decode cX9_shift 37 = .ok (.ifCond .ne 11, 3) := by decide +kernel
theorem dX9_shift_40 : decode cX9_shift 40 = .ok (.aload 7, 2) := by decide +kernel
theorem dX9_shift_42 : decode cX9_shift 42 = .ok (.invokevirtual 311, 3) := by decide +kernel
theorem dX9_shift_45 : decode cX9_shift 45 = .ok (.ifCond .eq 6, 3) := by decide +kernel
theorem dX9_shift_48 : decode cX9_shift 48 = .ok (.bipush (-11), 2) := by decide +kernel
theorem dX9_shift_50 : decode cX9_shift 50 = .ok (.ireturn, 1) := by decide +kernel
theorem dX9_shift_51 : decode cX9_shift 51 = .ok (.aload 6, 2) := by decide +kernel
theorem dX9_shift_53 : decode cX9_shift 53 = .ok (.invokevirtual 314, 3) := by decide +kernel
theorem dX9_shift_56 : decode cX9_shift 56 = .ok (.aload 7, 2) := by decide +kernel
theorem dX9_shift_58 : decode cX9_shift 58 = .ok (.invokevirtual 314, 3) := by decide +kernel
theorem dX9_shift_61 : decode cX9_shift 61 = .ok (.if_icmp .eq 6, 3) := by decide +kernel
theorem dX9_shift_64 : decode cX9_shift 64 = .ok (.bipush (-12), 2) := by decide +kernel
theorem dX9_shift_66 : decode cX9_shift 66 = .ok (.ireturn, 1) := by decide +kernel
theorem dX9_shift_67 : decode cX9_shift 67 = .ok (.aload 6, 2) := by decide +kernel
theorem dX9_shift_69 : decode cX9_shift 69 = .ok (.iload_n 2, 1) := by decide +kernel
theorem dX9_shift_70 : decode cX9_shift 70 = .ok (.i2l, 1) := by decide +kernel
theorem dX9_shift_71 : decode cX9_shift 71 = .ok (.iload 5, 2) := by decide +kernel
theorem dX9_shift_73 : decode cX9_shift 73 = .ok (.i2l, 1) := by decide +kernel
theorem dX9_shift_74 : decode cX9_shift 74 = .ok (.invokevirtual 317, 3) := by decide +kernel
theorem dX9_shift_77 : decode cX9_shift 77 = .ok (.ifCond .eq 17, 3) := by decide +kernel
theorem dX9_shift_80 : decode cX9_shift 80 = .ok (.aload 7, 2) := by decide +kernel
theorem dX9_shift_82 : decode cX9_shift 82 = .ok (.iload 4, 2) := by decide +kernel
theorem dX9_shift_84 : decode cX9_shift 84 = .ok (.i2l, 1) := by decide +kernel
theorem dX9_shift_85 : decode cX9_shift 85 = .ok (.iload 5, 2) := by decide +kernel
theorem dX9_shift_87 : decode cX9_shift 87 = .ok (.i2l, 1) := by decide +kernel
theorem dX9_shift_88 : decode cX9_shift 88 = .ok (.invokevirtual 317, 3) := by decide +kernel
theorem dX9_shift_91 : decode cX9_shift 91 = .ok (.ifCond .ne 6, 3) := by decide +kernel
theorem dX9_shift_94 : decode cX9_shift 94 = .ok (.bipush (-13), 2) := by decide +kernel
theorem dX9_shift_96 : decode cX9_shift 96 = .ok (.ireturn, 1) := by decide +kernel
theorem dX9_shift_97 : decode cX9_shift 97 = .ok (.aload 7, 2) := by decide +kernel
theorem dX9_shift_99 : decode cX9_shift 99 = .ok (.iload 4, 2) := by decide +kernel
theorem dX9_shift_101 : decode cX9_shift 101 = .ok (.aload 6, 2) := by decide +kernel
theorem dX9_shift_103 : decode cX9_shift 103 = .ok (.iload_n 2, 1) := by decide +kernel
theorem dX9_shift_104 : decode cX9_shift 104 = .ok (.iload 5, 2) := by decide +kernel
theorem dX9_shift_106 : decode cX9_shift 106 = .ok (.invokevirtual 340, 3) := by decide +kernel
theorem dX9_shift_109 : decode cX9_shift 109 = .ok (.iload 5, 2) := by decide +kernel
theorem dX9_shift_111 : decode cX9_shift 111 = .ok (.ireturn, 1) := by decide +kernel
theorem dX9_noIdeal_0 : decode cX9_noIdeal 0 = .ok (.iload_n 0, 1) := by decide +kernel
theorem dX9_noIdeal_1 : decode cX9_noIdeal 1 = .ok (.ifCond .lt 8, 3) := by decide +kernel
theorem dX9_noIdeal_4 : decode cX9_noIdeal 4 = .ok (.iload_n 0, 1) := by decide +kernel
theorem dX9_noIdeal_5 : decode cX9_noIdeal 5 = .ok (.iconst 1, 1) := by decide +kernel
theorem dX9_noIdeal_6 : decode cX9_noIdeal 6 = .ok (.if_icmp .le 7, 3) := by decide +kernel
theorem dX9_noIdeal_9 : decode cX9_noIdeal 9 = .ok (.iconst 1, 1) := by decide +kernel
theorem dX9_noIdeal_10 : decode cX9_noIdeal 10 = .ok (.goto 4, 3) := by decide +kernel
theorem dX9_noIdeal_13 : decode cX9_noIdeal 13 = .ok (.iconst 0, 1) := by decide +kernel
theorem dX9_noIdeal_14 : decode cX9_noIdeal 14 = .ok (.ireturn, 1) := by decide +kernel
theorem dX9_noGenerator_0 : decode cX9_noGenerator 0 = .ok (.iload_n 1, 1) := by decide +kernel
theorem dX9_noGenerator_1 : decode cX9_noGenerator 1 = .ok (.invokestatic 77, 3) := by decide +kernel
theorem dX9_noGenerator_4 : decode cX9_noGenerator 4 = .ok (.ifCond .ne 22, 3) := by decide +kernel
theorem dX9_noGenerator_7 : decode cX9_noGenerator 7 = .ok (.iload_n 2, 1) := by decide +kernel
theorem dX9_noGenerator_8 : decode cX9_noGenerator 8 = .ok (.ifCond .lt 18, 3) := by decide +kernel
theorem dX9_noGenerator_11 : decode cX9_noGenerator 11 = .ok (.iload_n 2, 1) := by decide +kernel
theorem dX9_noGenerator_12 : decode cX9_noGenerator 12 = .ok (.aload_n 0, 1) := by decide +kernel
theorem dX9_noGenerator_13 : decode cX9_noGenerator 13 = .ok (.getfield 12, 3) := by decide +kernel
theorem dX9_noGenerator_16 : decode cX9_noGenerator 16 = .ok (.iload_n 1, 1) := by decide +kernel
theorem dX9_noGenerator_17 : decode cX9_noGenerator 17 = .ok (.invokevirtual 85, 3) := by decide +kernel
theorem dX9_noGenerator_20 : decode cX9_noGenerator 20 = .ok (.invokevirtual 93, 3) := by decide +kernel
theorem dX9_noGenerator_23 : decode cX9_noGenerator 23 = .ok (.if_icmp .lt 7, 3) := by decide +kernel
theorem dX9_noGenerator_26 : decode cX9_noGenerator 26 = .ok (.iconst 1, 1) := by decide +kernel
theorem dX9_noGenerator_27 : decode cX9_noGenerator 27 = .ok (.goto 4, 3) := by decide +kernel
theorem dX9_noGenerator_30 : decode cX9_noGenerator 30 = .ok (.iconst 0, 1) := by decide +kernel
theorem dX9_noGenerator_31 : decode cX9_noGenerator 31 = .ok (.ireturn, 1) := by decide +kernel
theorem dX9_badTerm_0 : decode cX9_badTerm 0 = .ok (.iload_n 0, 1) := by decide +kernel
theorem dX9_badTerm_1 : decode cX9_badTerm 1 = .ok (.ifCond .lt 19, 3) := by decide +kernel
theorem dX9_badTerm_4 : decode cX9_badTerm 4 = .ok (.iload_n 0, 1) := by decide +kernel
theorem dX9_badTerm_5 : decode cX9_badTerm 5 = .ok (.bipush 9, 2) := by decide +kernel
theorem dX9_badTerm_7 : decode cX9_badTerm 7 = .ok (.if_icmp .gt 13, 3) := by decide +kernel
theorem dX9_badTerm_10 : decode cX9_badTerm 10 = .ok (.iload_n 1, 1) := by decide +kernel
theorem dX9_badTerm_11 : decode cX9_badTerm 11 = .ok (.ifCond .lt 9, 3) := by decide +kernel
theorem dX9_badTerm_14 : decode cX9_badTerm 14 = .ok (.iload_n 1, 1) := by decide +kernel
theorem dX9_badTerm_15 : decode cX9_badTerm 15 = .ok (.bipush 9, 2) := by decide +kernel
theorem dX9_badTerm_17 : decode cX9_badTerm 17 = .ok (.if_icmp .le 7, 3) := by decide +kernel
theorem dX9_badTerm_20 : decode cX9_badTerm 20 = .ok (.iconst 1, 1) := by decide +kernel
theorem dX9_badTerm_21 : decode cX9_badTerm 21 = .ok (.goto 4, 3) := by decide +kernel
theorem dX9_badTerm_24 : decode cX9_badTerm 24 = .ok (.iconst 0, 1) := by decide +kernel
theorem dX9_badTerm_25 : decode cX9_badTerm 25 = .ok (.ireturn, 1) := by decide +kernel
theorem dX9_badFraction_0 : decode cX9_badFraction 0 = .ok (.iload_n 0, 1) := by decide +kernel
theorem dX9_badFraction_1 : decode cX9_badFraction 1 = .ok (.iconst 1, 1) := by decide +kernel
theorem dX9_badFraction_2 : decode cX9_badFraction 2 = .ok (.if_icmp .lt 20, 3) := by decide +kernel
theorem dX9_badFraction_5 : decode cX9_badFraction 5 = .ok (.iload_n 0, 1) := by decide +kernel
theorem dX9_badFraction_6 : decode cX9_badFraction 6 = .ok (.bipush 99, 2) := by decide +kernel
theorem dX9_badFraction_8 : decode cX9_badFraction 8 = .ok (.if_icmp .gt 14, 3) := by decide +kernel
theorem dX9_badFraction_11 : decode cX9_badFraction 11 = .ok (.iload_n 1, 1) := by decide +kernel
theorem dX9_badFraction_12 : decode cX9_badFraction 12 = .ok (.iconst 1, 1) := by decide +kernel
theorem dX9_badFraction_13 : decode cX9_badFraction 13 = .ok (.if_icmp .lt 9, 3) := by decide +kernel
theorem dX9_badFraction_16 : decode cX9_badFraction 16 = .ok (.iload_n 1, 1) := by decide +kernel
theorem dX9_badFraction_17 : decode cX9_badFraction 17 = .ok (.bipush 99, 2) := by decide +kernel
theorem dX9_badFraction_19 : decode cX9_badFraction 19 = .ok (.if_icmp .le 7, 3) := by decide +kernel
theorem dX9_badFraction_22 : decode cX9_badFraction 22 = .ok (.iconst 1, 1) := by decide +kernel
theorem dX9_badFraction_23 : decode cX9_badFraction 23 = .ok (.goto 4, 3) := by decide +kernel
theorem dX9_badFraction_26 : decode cX9_badFraction 26 = .ok (.iconst 0, 1) := by decide +kernel
theorem dX9_badFraction_27 : decode cX9_badFraction 27 = .ok (.ireturn, 1) := by decide +kernel
theorem dX9_badPart_0 : decode cX9_badPart 0 = .ok (.iload_n 0, 1) := by decide +kernel
theorem dX9_badPart_1 : decode cX9_badPart 1 = .ok (.ifCond .lt 8, 3) := by decide +kernel
theorem dX9_badPart_4 : decode cX9_badPart 4 = .ok (.iload_n 0, 1) := by decide +kernel
theorem dX9_badPart_5 : decode cX9_badPart 5 = .ok (.iconst 1, 1) := by decide +kernel
theorem dX9_badPart_6 : decode cX9_badPart 6 = .ok (.if_icmp .le 7, 3) := by decide +kernel
theorem dX9_badPart_9 : decode cX9_badPart 9 = .ok (.iconst 1, 1) := by decide +kernel
theorem dX9_badPart_10 : decode cX9_badPart 10 = .ok (.goto 4, 3) := by decide +kernel
theorem dX9_badPart_13 : decode cX9_badPart 13 = .ok (.iconst 0, 1) := by decide +kernel
theorem dX9_badPart_14 : decode cX9_badPart 14 = .ok (.ireturn, 1) := by decide +kernel
theorem dX9_noHeightCode_0 : decode cX9_noHeightCode 0 = .ok (.iload_n 0, 1) := by decide +kernel
theorem dX9_noHeightCode_1 : decode cX9_noHeightCode 1 = .ok (.ifCond .lt 12, 3) := by decide +kernel
theorem dX9_noHeightCode_4 : decode cX9_noHeightCode 4 = .ok (.iload_n 0, 1) := by decide +kernel
theorem dX9_noHeightCode_5 : decode cX9_noHeightCode 5 = .ok (.iconst 2, 1) := by decide +kernel
theorem dX9_noHeightCode_6 : decode cX9_noHeightCode 6 = .ok (.if_icmp .gt 7, 3) := by decide +kernel
theorem dX9_noHeightCode_9 : decode cX9_noHeightCode 9 = .ok (.iconst 1, 1) := by decide +kernel
theorem dX9_noHeightCode_10 : decode cX9_noHeightCode 10 = .ok (.goto 4, 3) := by decide +kernel
theorem dX9_noHeightCode_13 : decode cX9_noHeightCode 13 = .ok (.iconst 0, 1) := by decide +kernel
theorem dX9_noHeightCode_14 : decode cX9_noHeightCode 14 = .ok (.istore_n 1, 1) := by decide +kernel
theorem dX9_noHeightCode_15 : decode cX9_noHeightCode 15 = .ok (.iload_n 1, 1) := by decide +kernel
theorem dX9_noHeightCode_16 : decode cX9_noHeightCode 16 = .ok (.ifCond .ne 19, 3) := by decide +kernel
theorem dX9_noHeightCode_19 : decode cX9_noHeightCode 19 = .ok (.iload_n 0, 1) := by decide +kernel
theorem dX9_noHeightCode_20 : decode cX9_noHeightCode 20 = .ok (.bipush 10, 2) := by decide +kernel
theorem dX9_noHeightCode_22 : decode cX9_noHeightCode 22 = .ok (.if_icmp .lt 9, 3) := by decide +kernel
theorem dX9_noHeightCode_25 : decode cX9_noHeightCode 25 = .ok (.iload_n 0, 1) := by decide +kernel
theorem dX9_noHeightCode_26 : decode cX9_noHeightCode 26 = .ok (.bipush 16, 2) := by decide +kernel
theorem dX9_noHeightCode_28 : decode cX9_noHeightCode 28 = .ok (.if_icmp .le 7, 3) := by decide +kernel
theorem dX9_noHeightCode_31 : decode cX9_noHeightCode 31 = .ok (.iconst 1, 1) := by decide +kernel
theorem dX9_noHeightCode_32 : decode cX9_noHeightCode 32 = .ok (.goto 4, 3) := by decide +kernel
theorem dX9_noHeightCode_35 : decode cX9_noHeightCode 35 = .ok (.iconst 0, 1) := by decide +kernel
theorem dX9_noHeightCode_36 : decode cX9_noHeightCode 36 = .ok (.ireturn, 1) := by decide +kernel
theorem dX9_badEventNumber_0 : decode cX9_badEventNumber 0 = .ok (.iload_n 0, 1) := by decide +kernel
theorem dX9_badEventNumber_1 : decode cX9_badEventNumber 1 = .ok (.lookupswitch 59 #[(0, 27), (1, 43)], 27) := by decide +kernel
theorem dX9_badEventNumber_28 : decode cX9_badEventNumber 28 = .ok (.iload_n 1, 1) := by decide +kernel
theorem dX9_badEventNumber_29 : decode cX9_badEventNumber 29 = .ok (.ifCond .lt 9, 3) := by decide +kernel
theorem dX9_badEventNumber_32 : decode cX9_badEventNumber 32 = .ok (.iload_n 1, 1) := by decide +kernel
theorem dX9_badEventNumber_33 : decode cX9_badEventNumber 33 = .ok (.bipush 99, 2) := by decide +kernel
theorem dX9_badEventNumber_35 : decode cX9_badEventNumber 35 = .ok (.if_icmp .le 7, 3) := by decide +kernel
theorem dX9_badEventNumber_38 : decode cX9_badEventNumber 38 = .ok (.iconst 1, 1) := by decide +kernel
theorem dX9_badEventNumber_39 : decode cX9_badEventNumber 39 = .ok (.goto 4, 3) := by decide +kernel
theorem dX9_badEventNumber_42 : decode cX9_badEventNumber 42 = .ok (.iconst 0, 1) := by decide +kernel
theorem dX9_badEventNumber_43 : decode cX9_badEventNumber 43 = .ok (.ireturn, 1) := by decide +kernel
theorem dX9_badEventNumber_44 : decode cX9_badEventNumber 44 = .ok (.iload_n 1, 1) := by decide +kernel
theorem dX9_badEventNumber_45 : decode cX9_badEventNumber 45 = .ok (.ifCond .lt 9, 3) := by decide +kernel
theorem dX9_badEventNumber_48 : decode cX9_badEventNumber 48 = .ok (.iload_n 1, 1) := by decide +kernel
theorem dX9_badEventNumber_49 : decode cX9_badEventNumber 49 = .ok (.bipush 6, 2) := by decide +kernel
theorem dX9_badEventNumber_51 : decode cX9_badEventNumber 51 = .ok (.if_icmp .lt 7, 3) := by decide +kernel
theorem dX9_badEventNumber_54 : decode cX9_badEventNumber 54 = .ok (.iconst 1, 1) := by decide +kernel
theorem dX9_badEventNumber_55 : decode cX9_badEventNumber 55 = .ok (.goto 4, 3) := by decide +kernel
theorem dX9_badEventNumber_58 : decode cX9_badEventNumber 58 = .ok (.iconst 0, 1) := by decide +kernel
theorem dX9_badEventNumber_59 : decode cX9_badEventNumber 59 = .ok (.ireturn, 1) := by decide +kernel
theorem dX9_badEventNumber_60 : decode cX9_badEventNumber 60 = .ok (.iload_n 1, 1) := by decide +kernel
theorem dX9_badEventNumber_61 : decode cX9_badEventNumber 61 = .ok (.iconst 1, 1) := by decide +kernel
theorem dX9_badEventNumber_62 : decode cX9_badEventNumber 62 = .ok (.if_icmp .lt 9, 3) := by decide +kernel
theorem dX9_badEventNumber_65 : decode cX9_badEventNumber 65 = .ok (.iload_n 1, 1) := by decide +kernel
theorem dX9_badEventNumber_66 : decode cX9_badEventNumber 66 = .ok (.bipush 9, 2) := by decide +kernel
theorem dX9_badEventNumber_68 : decode cX9_badEventNumber 68 = .ok (.if_icmp .le 7, 3) := by decide +kernel
theorem dX9_badEventNumber_71 : decode cX9_badEventNumber 71 = .ok (.iconst 1, 1) := by decide +kernel
theorem dX9_badEventNumber_72 : decode cX9_badEventNumber 72 = .ok (.goto 4, 3) := by decide +kernel
theorem dX9_badEventNumber_75 : decode cX9_badEventNumber 75 = .ok (.iconst 0, 1) := by decide +kernel
theorem dX9_badEventNumber_76 : decode cX9_badEventNumber 76 = .ok (.ireturn, 1) := by decide +kernel
theorem dX9_noTape_0 : decode cX9_noTape 0 = .ok (.iload_n 0, 1) := by decide +kernel
theorem dX9_noTape_1 : decode cX9_noTape 1 = .ok (.ifCond .lt 9, 3) := by decide +kernel
theorem dX9_noTape_4 : decode cX9_noTape 4 = .ok (.iload_n 0, 1) := by decide +kernel
theorem dX9_noTape_5 : decode cX9_noTape 5 = .ok (.bipush 6, 2) := by decide +kernel
theorem dX9_noTape_7 : decode cX9_noTape 7 = .ok (.if_icmp .lt 7, 3) := by decide +kernel
theorem dX9_noTape_10 : decode cX9_noTape 10 = .ok (.iconst 1, 1) := by decide +kernel
theorem dX9_noTape_11 : decode cX9_noTape 11 = .ok (.goto 4, 3) := by decide +kernel
theorem dX9_noTape_14 : decode cX9_noTape 14 = .ok (.iconst 0, 1) := by decide +kernel
theorem dX9_noTape_15 : decode cX9_noTape 15 = .ok (.ireturn, 1) := by decide +kernel
theorem dX9_countJumps_0 : decode cX9_countJumps 0 = .ok (.aload_n 0, 1) := by decide +kernel
theorem dX9_countJumps_1 : decode cX9_countJumps 1 = .ok (.getfield 56, 3) := by decide +kernel
theorem dX9_countJumps_4 : decode cX9_countJumps 4 = .ok (.aload_n 1, 1) := by decide +kernel
theorem dX9_countJumps_5 : decode cX9_countJumps 5 = .ok (.invokevirtual 129, 3) := by decide +kernel
theorem dX9_countJumps_8 : decode cX9_countJumps 8 = .ok (.aload_n 0, 1) := by decide +kernel
theorem dX9_countJumps_9 : decode cX9_countJumps 9 = .ok (.getfield 63, 3) := by decide +kernel
theorem dX9_countJumps_12 : decode cX9_countJumps 12 = .ok (.aload_n 0, 1) := by decide +kernel
theorem dX9_countJumps_13 : decode cX9_countJumps 13 = .ok (.getfield 56, 3) := by decide +kernel
theorem dX9_countJumps_16 : decode cX9_countJumps 16 = .ok (.invokevirtual 344, 3) := by decide +kernel
theorem dX9_countJumps_19 : decode cX9_countJumps 19 = .ok (.aload_n 0, 1) := by decide +kernel
theorem dX9_countJumps_20 : decode cX9_countJumps 20 = .ok (.getfield 63, 3) := by decide +kernel
theorem dX9_countJumps_23 : decode cX9_countJumps 23 = .ok (.invokevirtual 348, 3) := by decide +kernel
theorem dX9_countJumps_26 : decode cX9_countJumps 26 = .ok (.ireturn, 1) := by decide +kernel
theorem dX9_countBarred_0 : decode cX9_countBarred 0 = .ok (.aload_n 0, 1) := by decide +kernel
theorem dX9_countBarred_1 : decode cX9_countBarred 1 = .ok (.getfield 56, 3) := by decide +kernel
theorem dX9_countBarred_4 : decode cX9_countBarred 4 = .ok (.aload_n 1, 1) := by decide +kernel
theorem dX9_countBarred_5 : decode cX9_countBarred 5 = .ok (.invokevirtual 129, 3) := by decide +kernel
theorem dX9_countBarred_8 : decode cX9_countBarred 8 = .ok (.iconst 0, 1) := by decide +kernel
theorem dX9_countBarred_9 : decode cX9_countBarred 9 = .ok (.istore 4, 2) := by decide +kernel
theorem dX9_countBarred_11 : decode cX9_countBarred 11 = .ok (.iconst 0, 1) := by decide +kernel
theorem dX9_countBarred_12 : decode cX9_countBarred 12 = .ok (.istore 5, 2) := by decide +kernel
theorem dX9_countBarred_14 : decode cX9_countBarred 14 = .ok (.iload 5, 2) := by decide +kernel
theorem dX9_countBarred_16 : decode cX9_countBarred 16 = .ok (.bipush 9, 2) := by decide +kernel
theorem dX9_countBarred_18 : decode cX9_countBarred 18 = .ok (.if_icmp .gt 44, 3) := by decide +kernel
theorem dX9_countBarred_21 : decode cX9_countBarred 21 = .ok (.iconst 0, 1) := by decide +kernel
theorem dX9_countBarred_22 : decode cX9_countBarred 22 = .ok (.istore 6, 2) := by decide +kernel
theorem dX9_countBarred_24 : decode cX9_countBarred 24 = .ok (.iload 6, 2) := by decide +kernel
theorem dX9_countBarred_26 : decode cX9_countBarred 26 = .ok (.bipush 9, 2) := by decide +kernel
theorem dX9_countBarred_28 : decode cX9_countBarred 28 = .ok (.if_icmp .gt 28, 3) := by decide +kernel
theorem dX9_countBarred_31 : decode cX9_countBarred 31 = .ok (.aload_n 0, 1) := by decide +kernel
theorem dX9_countBarred_32 : decode cX9_countBarred 32 = .ok (.getfield 56, 3) := by decide +kernel
theorem dX9_countBarred_35 : decode cX9_countBarred 35 = .ok (.iload 5, 2) := by decide +kernel
theorem dX9_countBarred_37 : decode cX9_countBarred 37 = .ok (.iload 6, 2) := by decide +kernel
theorem dX9_countBarred_39 : decode cX9_countBarred 39 = .ok (.iload_n 2, 1) := by decide +kernel
theorem dX9_countBarred_40 : decode cX9_countBarred 40 = .ok (.iload_n 3, 1) := by decide +kernel
theorem dX9_countBarred_41 : decode cX9_countBarred 41 = .ok (.invokevirtual 220, 3) := by decide +kernel
theorem dX9_countBarred_44 : decode cX9_countBarred 44 = .ok (.ifCond .lt 6, 3) := by decide +kernel
theorem dX9_countBarred_47 : decode cX9_countBarred 47 = .ok (.iinc 4 1, 3) := by decide +kernel
theorem dX9_countBarred_50 : decode cX9_countBarred 50 = .ok (.iinc 6 1, 3) := by decide +kernel
theorem dX9_countBarred_53 : decode cX9_countBarred 53 = .ok (.goto (-29), 3) := by decide +kernel
theorem dX9_countBarred_56 : decode cX9_countBarred 56 = .ok (.iinc 5 1, 3) := by decide +kernel
theorem dX9_countBarred_59 : decode cX9_countBarred 59 = .ok (.goto (-45), 3) := by decide +kernel
theorem dX9_countBarred_62 : decode cX9_countBarred 62 = .ok (.iload 4, 2) := by decide +kernel
theorem dX9_countBarred_64 : decode cX9_countBarred 64 = .ok (.ireturn, 1) := by decide +kernel
theorem dX9_closedness_0 : decode cX9_closedness 0 = .ok (.aload_n 0, 1) := by decide +kernel
theorem dX9_closedness_1 : decode cX9_closedness 1 = .ok (.getfield 56, 3) := by decide +kernel
theorem dX9_closedness_4 : decode cX9_closedness 4 = .ok (.aload_n 1, 1) := by decide +kernel
theorem dX9_closedness_5 : decode cX9_closedness 5 = .ok (.invokevirtual 129, 3) := by decide +kernel
theorem dX9_closedness_8 : decode cX9_closedness 8 = .ok (.iconst 0, 1) := by decide +kernel
theorem dX9_closedness_9 : decode cX9_closedness 9 = .ok (.istore_n 2, 1) := by decide +kernel
theorem dX9_closedness_10 : decode cX9_closedness 10 = .ok (.iload_n 2, 1) := by decide +kernel
theorem dX9_closedness_11 : decode cX9_closedness 11 = .ok (.bipush 9, 2) := by decide +kernel
theorem dX9_closedness_13 : decode cX9_closedness 13 = .ok (.if_icmp .gt 46, 3) := by decide +kernel
theorem dX9_closedness_16 : decode cX9_closedness 16 = .ok (.iconst 0, 1) := by decide +kernel
theorem dX9_closedness_17 : decode cX9_closedness 17 = .ok (.istore_n 3, 1) := by decide +kernel
theorem dX9_closedness_18 : decode cX9_closedness 18 = .ok (.iload_n 3, 1) := by decide +kernel
theorem dX9_closedness_19 : decode cX9_closedness 19 = .ok (.bipush 9, 2) := by decide +kernel
theorem dX9_closedness_21 : decode cX9_closedness 21 = .ok (.if_icmp .gt 32, 3) := by decide +kernel
theorem dX9_closedness_24 : decode cX9_closedness 24 = .ok (.aload_n 0, 1) := by decide +kernel
theorem dX9_closedness_25 : decode cX9_closedness 25 = .ok (.getfield 56, 3) := by decide +kernel
theorem dX9_closedness_28 : decode cX9_closedness 28 = .ok (.iload_n 2, 1) := by decide +kernel
theorem dX9_closedness_29 : decode cX9_closedness 29 = .ok (.iload_n 3, 1) := by decide +kernel
theorem dX9_closedness_30 : decode cX9_closedness 30 = .ok (.invokevirtual 205, 3) := by decide +kernel
theorem dX9_closedness_33 : decode cX9_closedness 33 = .ok (.ifCond .eq 14, 3) := by decide +kernel
theorem dX9_closedness_36 : decode cX9_closedness 36 = .ok (.aload_n 1, 1) := by decide +kernel
theorem dX9_closedness_37 : decode cX9_closedness 37 = .ok (.iload_n 2, 1) := by decide +kernel
theorem dX9_closedness_38 : decode cX9_closedness 38 = .ok (.iload_n 3, 1) := by decide +kernel
theorem dX9_closedness_39 : decode cX9_closedness 39 = .ok (.invokevirtual 202, 3) := by decide +kernel
theorem dX9_closedness_42 : decode cX9_closedness 42 = .ok (.ifCond .ne 5, 3) := by decide +kernel
theorem dX9_closedness_45 : decode cX9_closedness 45 = .ok (.iconst 0, 1) := by decide +kernel
theorem dX9_closedness_46 : decode cX9_closedness 46 = .ok (.ireturn, 1) := by decide +kernel
theorem dX9_closedness_47 : decode cX9_closedness 47 = .ok (.iinc 3 1, 3) := by decide +kernel
theorem dX9_closedness_50 : decode cX9_closedness 50 = .ok (.goto (-32), 3) := by decide +kernel
theorem dX9_closedness_53 : decode cX9_closedness 53 = .ok (.iinc 2 1, 3) := by decide +kernel
theorem dX9_closedness_56 : decode cX9_closedness 56 = .ok (.goto (-46), 3) := by decide +kernel
theorem dX9_closedness_59 : decode cX9_closedness 59 = .ok (.iconst 1, 1) := by decide +kernel
theorem dX9_closedness_60 : decode cX9_closedness 60 = .ok (.ireturn, 1) := by decide +kernel
theorem dX9_reduction_0 : decode cX9_reduction 0 = .ok (.aload_n 0, 1) := by decide +kernel
theorem dX9_reduction_1 : decode cX9_reduction 1 = .ok (.getfield 12, 3) := by decide +kernel
theorem dX9_reduction_4 : decode cX9_reduction 4 = .ok (.iconst 0, 1) := by decide +kernel
theorem dX9_reduction_5 : decode cX9_reduction 5 = .ok (.invokevirtual 85, 3) := by decide +kernel
theorem dX9_reduction_8 : decode cX9_reduction 8 = .ok (.astore_n 1, 1) := by decide +kernel
theorem dX9_reduction_9 : decode cX9_reduction 9 = .ok (.aload_n 0, 1) := by decide +kernel
theorem dX9_reduction_10 : decode cX9_reduction 10 = .ok (.getfield 12, 3) := by decide +kernel
theorem dX9_reduction_13 : decode cX9_reduction 13 = .ok (.iconst 1, 1) := by decide +kernel
theorem dX9_reduction_14 : decode cX9_reduction 14 = .ok (.invokevirtual 85, 3) := by decide +kernel
theorem dX9_reduction_17 : decode cX9_reduction 17 = .ok (.astore_n 2, 1) := by decide +kernel
theorem dX9_reduction_18 : decode cX9_reduction 18 = .ok (.aload_n 1, 1) := by decide +kernel
theorem dX9_reduction_19 : decode cX9_reduction 19 = .ok (.invokevirtual 93, 3) := by decide +kernel
theorem dX9_reduction_22 : decode cX9_reduction 22 = .ok (.ifCond .eq 10, 3) := by decide +kernel
theorem dX9_reduction_25 : decode cX9_reduction 25 = .ok (.aload_n 2, 1) := by decide +kernel
theorem dX9_reduction_26 : decode cX9_reduction 26 = .ok (.invokevirtual 93, 3) := by decide +kernel
theorem dX9_reduction_29 : decode cX9_reduction 29 = .ok (.ifCond .ne 5, 3) := by decide +kernel
theorem dX9_reduction_32 : decode cX9_reduction 32 = .ok (.iconst 0, 1) := by decide +kernel
theorem dX9_reduction_33 : decode cX9_reduction 33 = .ok (.ireturn, 1) := by decide +kernel
theorem dX9_reduction_34 : decode cX9_reduction 34 = .ok (.iconst 0, 1) := by decide +kernel
theorem dX9_reduction_35 : decode cX9_reduction 35 = .ok (.istore_n 3, 1) := by decide +kernel
theorem dX9_reduction_36 : decode cX9_reduction 36 = .ok (.iload_n 3, 1) := by decide +kernel
theorem dX9_reduction_37 : decode cX9_reduction 37 = .ok (.aload_n 1, 1) := by decide +kernel
theorem dX9_reduction_38 : decode cX9_reduction 38 = .ok (.invokevirtual 93, 3) := by decide +kernel
theorem dX9_reduction_41 : decode cX9_reduction 41 = .ok (.if_icmp .ge 28, 3) := by decide +kernel
theorem dX9_reduction_44 : decode cX9_reduction 44 = .ok (.aload_n 2, 1) := by decide +kernel
theorem dX9_reduction_45 : decode cX9_reduction 45 = .ok (.aload_n 1, 1) := by decide +kernel
theorem dX9_reduction_46 : decode cX9_reduction 46 = .ok (.iload_n 3, 1) := by decide +kernel
theorem dX9_reduction_47 : decode cX9_reduction 47 = .ok (.invokevirtual 119, 3) := by decide +kernel
theorem dX9_reduction_50 : decode cX9_reduction 50 = .ok (.aload_n 1, 1) := by decide +kernel
theorem dX9_reduction_51 : decode cX9_reduction 51 = .ok (.iload_n 3, 1) := by decide +kernel
theorem dX9_reduction_52 : decode cX9_reduction 52 = .ok (.invokevirtual 123, 3) := by decide +kernel
theorem dX9_reduction_55 : decode cX9_reduction 55 = .ok (.invokevirtual 202, 3) := by decide +kernel
theorem dX9_reduction_58 : decode cX9_reduction 58 = .ok (.ifCond .ne 5, 3) := by decide +kernel
theorem dX9_reduction_61 : decode cX9_reduction 61 = .ok (.iconst 0, 1) := by decide +kernel
theorem dX9_reduction_62 : decode cX9_reduction 62 = .ok (.ireturn, 1) := by decide +kernel
theorem dX9_reduction_63 : decode cX9_reduction 63 = .ok (.iinc 3 1, 3) := by decide +kernel
theorem dX9_reduction_66 : decode cX9_reduction 66 = .ok (.goto (-30), 3) := by decide +kernel
theorem dX9_reduction_69 : decode cX9_reduction 69 = .ok (.aload_n 0, 1) := by decide +kernel
theorem dX9_reduction_70 : decode cX9_reduction 70 = .ok (.getfield 56, 3) := by decide +kernel
theorem dX9_reduction_73 : decode cX9_reduction 73 = .ok (.aload_n 1, 1) := by decide +kernel
theorem dX9_reduction_74 : decode cX9_reduction 74 = .ok (.invokevirtual 129, 3) := by decide +kernel
theorem dX9_reduction_77 : decode cX9_reduction 77 = .ok (.iconst 0, 1) := by decide +kernel
theorem dX9_reduction_78 : decode cX9_reduction 78 = .ok (.istore_n 3, 1) := by decide +kernel
theorem dX9_reduction_79 : decode cX9_reduction 79 = .ok (.iload_n 3, 1) := by decide +kernel
theorem dX9_reduction_80 : decode cX9_reduction 80 = .ok (.aload_n 2, 1) := by decide +kernel
theorem dX9_reduction_81 : decode cX9_reduction 81 = .ok (.invokevirtual 93, 3) := by decide +kernel
theorem dX9_reduction_84 : decode cX9_reduction 84 = .ok (.if_icmp .ge 31, 3) := by decide +kernel
theorem dX9_reduction_87 : decode cX9_reduction 87 = .ok (.aload_n 0, 1) := by decide +kernel
theorem dX9_reduction_88 : decode cX9_reduction 88 = .ok (.getfield 56, 3) := by decide +kernel
theorem dX9_reduction_91 : decode cX9_reduction 91 = .ok (.aload_n 2, 1) := by decide +kernel
theorem dX9_reduction_92 : decode cX9_reduction 92 = .ok (.iload_n 3, 1) := by decide +kernel
theorem dX9_reduction_93 : decode cX9_reduction 93 = .ok (.invokevirtual 119, 3) := by decide +kernel
theorem dX9_reduction_96 : decode cX9_reduction 96 = .ok (.aload_n 2, 1) := by decide +kernel
theorem dX9_reduction_97 : decode cX9_reduction 97 = .ok (.iload_n 3, 1) := by decide +kernel
theorem dX9_reduction_98 : decode cX9_reduction 98 = .ok (.invokevirtual 123, 3) := by decide +kernel
theorem dX9_reduction_101 : decode cX9_reduction 101 = .ok (.invokevirtual 205, 3) := by decide +kernel
theorem dX9_reduction_104 : decode cX9_reduction 104 = .ok (.ifCond .ne 5, 3) := by decide +kernel
theorem dX9_reduction_107 : decode cX9_reduction 107 = .ok (.iconst 0, 1) := by decide +kernel
theorem dX9_reduction_108 : decode cX9_reduction 108 = .ok (.ireturn, 1) := by decide +kernel
theorem dX9_reduction_109 : decode cX9_reduction 109 = .ok (.iinc 3 1, 3) := by decide +kernel
theorem dX9_reduction_112 : decode cX9_reduction 112 = .ok (.goto (-33), 3) := by decide +kernel
theorem dX9_reduction_115 : decode cX9_reduction 115 = .ok (.iconst 1, 1) := by decide +kernel
theorem dX9_reduction_116 : decode cX9_reduction 116 = .ok (.ireturn, 1) := by decide +kernel
theorem dX9_met_0 : decode cX9_met 0 = .ok (.aload_n 0, 1) := by decide +kernel
theorem dX9_met_1 : decode cX9_met 1 = .ok (.getfield 12, 3) := by decide +kernel
theorem dX9_met_4 : decode cX9_met 4 = .ok (.iconst 1, 1) := by decide +kernel
theorem dX9_met_5 : decode cX9_met 5 = .ok (.invokevirtual 85, 3) := by decide +kernel
theorem dX9_met_8 : decode cX9_met 8 = .ok (.astore_n 1, 1) := by decide +kernel
theorem dX9_met_9 : decode cX9_met 9 = .ok (.aload_n 0, 1) := by decide +kernel
theorem dX9_met_10 : decode cX9_met 10 = .ok (.getfield 70, 3) := by decide +kernel
theorem dX9_met_13 : decode cX9_met 13 = .ok (.invokevirtual 258, 3) := by decide +kernel
theorem dX9_met_16 : decode cX9_met 16 = .ok (.aload_n 0, 1) := by decide +kernel
theorem dX9_met_17 : decode cX9_met 17 = .ok (.getfield 70, 3) := by decide +kernel
theorem dX9_met_20 : decode cX9_met 20 = .ok (.aload_n 0, 1) := by decide +kernel
theorem dX9_met_21 : decode cX9_met 21 = .ok (.getfield 12, 3) := by decide +kernel
theorem dX9_met_24 : decode cX9_met 24 = .ok (.iconst 0, 1) := by decide +kernel
theorem dX9_met_25 : decode cX9_met 25 = .ok (.invokevirtual 85, 3) := by decide +kernel
theorem dX9_met_28 : decode cX9_met 28 = .ok (.invokevirtual 261, 3) := by decide +kernel
theorem dX9_met_31 : decode cX9_met 31 = .ok (.aload_n 0, 1) := by decide +kernel
theorem dX9_met_32 : decode cX9_met 32 = .ok (.getfield 74, 3) := by decide +kernel
theorem dX9_met_35 : decode cX9_met 35 = .ok (.invokevirtual 258, 3) := by decide +kernel
theorem dX9_met_38 : decode cX9_met 38 = .ok (.aload_n 0, 1) := by decide +kernel
theorem dX9_met_39 : decode cX9_met 39 = .ok (.getfield 74, 3) := by decide +kernel
theorem dX9_met_42 : decode cX9_met 42 = .ok (.aload_n 1, 1) := by decide +kernel
theorem dX9_met_43 : decode cX9_met 43 = .ok (.invokevirtual 261, 3) := by decide +kernel
theorem dX9_met_46 : decode cX9_met 46 = .ok (.iconst 0, 1) := by decide +kernel
theorem dX9_met_47 : decode cX9_met 47 = .ok (.istore_n 2, 1) := by decide +kernel
theorem dX9_met_48 : decode cX9_met 48 = .ok (.iload_n 2, 1) := by decide +kernel
theorem dX9_met_49 : decode cX9_met 49 = .ok (.iconst 5, 1) := by decide +kernel
theorem dX9_met_50 : decode cX9_met 50 = .ok (.if_icmp .gt 41, 3) := by decide +kernel
theorem dX9_met_53 : decode cX9_met 53 = .ok (.aload_n 0, 1) := by decide +kernel
theorem dX9_met_54 : decode cX9_met 54 = .ok (.getfield 70, 3) := by decide +kernel
theorem dX9_met_57 : decode cX9_met 57 = .ok (.aload_n 0, 1) := by decide +kernel
theorem dX9_met_58 : decode cX9_met 58 = .ok (.getfield 74, 3) := by decide +kernel
theorem dX9_met_61 : decode cX9_met 61 = .ok (.invokevirtual 349, 3) := by decide +kernel
theorem dX9_met_64 : decode cX9_met 64 = .ok (.ifCond .eq 5, 3) := by decide +kernel
theorem dX9_met_67 : decode cX9_met 67 = .ok (.iload_n 2, 1) := by decide +kernel
theorem dX9_met_68 : decode cX9_met 68 = .ok (.ireturn, 1) := by decide +kernel
theorem dX9_met_69 : decode cX9_met 69 = .ok (.aload_n 0, 1) := by decide +kernel
theorem dX9_met_70 : decode cX9_met 70 = .ok (.getfield 70, 3) := by decide +kernel
theorem dX9_met_73 : decode cX9_met 73 = .ok (.aload_n 1, 1) := by decide +kernel
theorem dX9_met_74 : decode cX9_met 74 = .ok (.invokevirtual 261, 3) := by decide +kernel
theorem dX9_met_77 : decode cX9_met 77 = .ok (.aload_n 0, 1) := by decide +kernel
theorem dX9_met_78 : decode cX9_met 78 = .ok (.getfield 74, 3) := by decide +kernel
theorem dX9_met_81 : decode cX9_met 81 = .ok (.aload_n 1, 1) := by decide +kernel
theorem dX9_met_82 : decode cX9_met 82 = .ok (.invokevirtual 261, 3) := by decide +kernel
theorem dX9_met_85 : decode cX9_met 85 = .ok (.iinc 2 1, 3) := by decide +kernel
theorem dX9_met_88 : decode cX9_met 88 = .ok (.goto (-40), 3) := by decide +kernel
theorem dX9_met_91 : decode cX9_met 91 = .ok (.bipush (-5), 2) := by decide +kernel
theorem dX9_met_93 : decode cX9_met 93 = .ok (.ireturn, 1) := by decide +kernel
theorem dX9_fitsWith_0 : decode cX9_fitsWith 0 = .ok (.aload_n 0, 1) := by decide +kernel
theorem dX9_fitsWith_1 : decode cX9_fitsWith 1 = .ok (.getfield 12, 3) := by decide +kernel
theorem dX9_fitsWith_4 : decode cX9_fitsWith 4 = .ok (.iload_n 1, 1) := by decide +kernel
theorem dX9_fitsWith_5 : decode cX9_fitsWith 5 = .ok (.invokevirtual 85, 3) := by decide +kernel
theorem dX9_fitsWith_8 : decode cX9_fitsWith 8 = .ok (.astore 5, 2) := by decide +kernel
theorem dX9_fitsWith_10 : decode cX9_fitsWith 10 = .ok (.iload_n 3, 1) := by decide +kernel
theorem dX9_fitsWith_11 : decode cX9_fitsWith 11 = .ok (.ifCond .ne 8, 3) := by decide +kernel
theorem dX9_fitsWith_14 : decode cX9_fitsWith 14 = .ok (.iload 4, 2) := by decide +kernel
theorem dX9_fitsWith_16 : decode cX9_fitsWith 16 = .ok (.goto 9, 3) := by decide +kernel
theorem dX9_fitsWith_19 : decode cX9_fitsWith 19 = .ok (.aload 5, 2) := by decide +kernel
theorem dX9_fitsWith_21 : decode cX9_fitsWith 21 = .ok (.iload_n 2, 1) := by decide +kernel
theorem dX9_fitsWith_22 : decode cX9_fitsWith 22 = .ok (.invokevirtual 119, 3) := by decide +kernel
theorem dX9_fitsWith_25 : decode cX9_fitsWith 25 = .ok (.istore 6, 2) := by decide +kernel
theorem dX9_fitsWith_27 : decode cX9_fitsWith 27 = .ok (.iload_n 3, 1) := by decide +kernel
theorem dX9_fitsWith_28 : decode cX9_fitsWith 28 = .ok (.iconst 1, 1) := by decide +kernel
theorem dX9_fitsWith_29 : decode cX9_fitsWith 29 = .ok (.if_icmp .ne 8, 3) := by decide +kernel
theorem dX9_fitsWith_32 : decode cX9_fitsWith 32 = .ok (.iload 4, 2) := by decide +kernel
theorem dX9_fitsWith_34 : decode cX9_fitsWith 34 = .ok (.goto 9, 3) := by decide +kernel
theorem dX9_fitsWith_37 : decode cX9_fitsWith 37 = .ok (.aload 5, 2) := by decide +kernel
theorem dX9_fitsWith_39 : decode cX9_fitsWith 39 = .ok (.iload_n 2, 1) := by decide +kernel
theorem dX9_fitsWith_40 : decode cX9_fitsWith 40 = .ok (.invokevirtual 123, 3) := by decide +kernel
theorem dX9_fitsWith_43 : decode cX9_fitsWith 43 = .ok (.istore 7, 2) := by decide +kernel
theorem dX9_fitsWith_45 : decode cX9_fitsWith 45 = .ok (.aload 5, 2) := by decide +kernel
theorem dX9_fitsWith_47 : decode cX9_fitsWith 47 = .ok (.iload 6, 2) := by decide +kernel
theorem dX9_fitsWith_49 : decode cX9_fitsWith 49 = .ok (.iload 7, 2) := by decide +kernel
theorem dX9_fitsWith_51 : decode cX9_fitsWith 51 = .ok (.invokevirtual 89, 3) := by decide +kernel
theorem dX9_fitsWith_54 : decode cX9_fitsWith 54 = .ok (.istore 8, 2) := by decide +kernel
theorem dX9_fitsWith_56 : decode cX9_fitsWith 56 = .ok (.iload 8, 2) := by decide +kernel
theorem dX9_fitsWith_58 : decode cX9_fitsWith 58 = .ok (.ifCond .lt 11, 3) := by decide +kernel
theorem dX9_fitsWith_61 : decode cX9_fitsWith 61 = .ok (.iload 8, 2) := by decide +kernel
theorem dX9_fitsWith_63 : decode cX9_fitsWith 63 = .ok (.iload_n 2, 1) := by decide +kernel
theorem dX9_fitsWith_64 : decode cX9_fitsWith 64 = .ok (.if_icmp .eq 5, 3) := by decide +kernel
theorem dX9_fitsWith_67 : decode cX9_fitsWith 67 = .ok (.iconst 0, 1) := by decide +kernel
theorem dX9_fitsWith_68 : decode cX9_fitsWith 68 = .ok (.ireturn, 1) := by decide +kernel
theorem dX9_fitsWith_69 : decode cX9_fitsWith 69 = .ok (.iload_n 1, 1) := by decide +kernel
theorem dX9_fitsWith_70 : decode cX9_fitsWith 70 = .ok (.iconst 1, 1) := by decide +kernel
theorem dX9_fitsWith_71 : decode cX9_fitsWith 71 = .ok (.if_icmp .ne 16, 3) := by decide +kernel
theorem dX9_fitsWith_74 : decode cX9_fitsWith 74 = .ok (.aload_n 0, 1) := by decide +kernel
theorem dX9_fitsWith_75 : decode cX9_fitsWith 75 = .ok (.aload_n 0, 1) := by decide +kernel
theorem dX9_fitsWith_76 : decode cX9_fitsWith 76 = .ok (.getfield 12, 3) := by decide +kernel
theorem dX9_fitsWith_79 : decode cX9_fitsWith 79 = .ok (.iconst 0, 1) := by decide +kernel
theorem dX9_fitsWith_80 : decode cX9_fitsWith 80 = .ok (.invokevirtual 85, 3) := by decide +kernel
theorem dX9_fitsWith_83 : decode cX9_fitsWith 83 = .ok (.invokevirtual 353, 3) := by decide +kernel
theorem dX9_fitsWith_86 : decode cX9_fitsWith 86 = .ok (.ireturn, 1) := by decide +kernel
theorem dX9_fitsWith_87 : decode cX9_fitsWith 87 = .ok (.aload_n 0, 1) := by decide +kernel
theorem dX9_fitsWith_88 : decode cX9_fitsWith 88 = .ok (.getfield 49, 3) := by decide +kernel
theorem dX9_fitsWith_91 : decode cX9_fitsWith 91 = .ok (.aload 5, 2) := by decide +kernel
theorem dX9_fitsWith_93 : decode cX9_fitsWith 93 = .ok (.invokevirtual 136, 3) := by decide +kernel
theorem dX9_fitsWith_96 : decode cX9_fitsWith 96 = .ok (.aload_n 0, 1) := by decide +kernel
theorem dX9_fitsWith_97 : decode cX9_fitsWith 97 = .ok (.getfield 49, 3) := by decide +kernel
theorem dX9_fitsWith_100 : decode cX9_fitsWith 100 = .ok (.iload_n 2, 1) := by decide +kernel
theorem dX9_fitsWith_101 : decode cX9_fitsWith 101 = .ok (.iload 6, 2) := by decide +kernel
theorem dX9_fitsWith_103 : decode cX9_fitsWith 103 = .ok (.iload 7, 2) := by decide +kernel
theorem dX9_fitsWith_105 : decode cX9_fitsWith 105 = .ok (.invokevirtual 357, 3) := by decide +kernel
theorem dX9_fitsWith_108 : decode cX9_fitsWith 108 = .ok (.aload_n 0, 1) := by decide +kernel
theorem dX9_fitsWith_109 : decode cX9_fitsWith 109 = .ok (.aload_n 0, 1) := by decide +kernel
theorem dX9_fitsWith_110 : decode cX9_fitsWith 110 = .ok (.getfield 49, 3) := by decide +kernel
theorem dX9_fitsWith_113 : decode cX9_fitsWith 113 = .ok (.invokevirtual 353, 3) := by decide +kernel
theorem dX9_fitsWith_116 : decode cX9_fitsWith 116 = .ok (.ireturn, 1) := by decide +kernel
theorem dX9_isAsSeen_0 : decode cX9_isAsSeen 0 = .ok (.aload_n 0, 1) := by decide +kernel
theorem dX9_isAsSeen_1 : decode cX9_isAsSeen 1 = .ok (.getfield 12, 3) := by decide +kernel
theorem dX9_isAsSeen_4 : decode cX9_isAsSeen 4 = .ok (.getfield 273, 3) := by decide +kernel
theorem dX9_isAsSeen_7 : decode cX9_isAsSeen 7 = .ok (.invokevirtual 295, 3) := by decide +kernel
theorem dX9_isAsSeen_10 : decode cX9_isAsSeen 10 = .ok (.ifCond .ne 5, 3) := by decide +kernel
theorem dX9_isAsSeen_13 : decode cX9_isAsSeen 13 = .ok (.iconst 1, 1) := by decide +kernel
theorem dX9_isAsSeen_14 : decode cX9_isAsSeen 14 = .ok (.ireturn, 1) := by decide +kernel
theorem dX9_isAsSeen_15 : decode cX9_isAsSeen 15 = .ok (.aload_n 1, 1) := by decide +kernel
theorem dX9_isAsSeen_16 : decode cX9_isAsSeen 16 = .ok (.invokevirtual 93, 3) := by decide +kernel
theorem dX9_isAsSeen_19 : decode cX9_isAsSeen 19 = .ok (.ifCond .ne 5, 3) := by decide +kernel
theorem dX9_isAsSeen_22 : decode cX9_isAsSeen 22 = .ok (.iconst 0, 1) := by decide +kernel
theorem dX9_isAsSeen_23 : decode cX9_isAsSeen 23 = .ok (.ireturn, 1) := by decide +kernel
theorem dX9_isAsSeen_24 : decode cX9_isAsSeen 24 = .ok (.aload_n 0, 1) := by decide +kernel
theorem dX9_isAsSeen_25 : decode cX9_isAsSeen 25 = .ok (.aload_n 1, 1) := by decide +kernel
theorem dX9_isAsSeen_26 : decode cX9_isAsSeen 26 = .ok (.invokevirtual 199, 3) := by decide +kernel
theorem dX9_isAsSeen_29 : decode cX9_isAsSeen 29 = .ok (.istore_n 2, 1) := by decide +kernel
theorem dX9_isAsSeen_30 : decode cX9_isAsSeen 30 = .ok (.iconst 0, 1) := by decide +kernel
theorem dX9_isAsSeen_31 : decode cX9_isAsSeen 31 = .ok (.istore_n 3, 1) := by decide +kernel
theorem dX9_isAsSeen_32 : decode cX9_isAsSeen 32 = .ok (.iload_n 3, 1) := by decide +kernel
theorem dX9_isAsSeen_33 : decode cX9_isAsSeen 33 = .ok (.aload_n 0, 1) := by decide +kernel
theorem dX9_isAsSeen_34 : decode cX9_isAsSeen 34 = .ok (.getfield 12, 3) := by decide +kernel
theorem dX9_isAsSeen_37 : decode cX9_isAsSeen 37 = .ok (.getfield 273, 3) := by decide +kernel
theorem dX9_isAsSeen_40 : decode cX9_isAsSeen 40 = .ok (.invokevirtual 295, 3) := by decide +kernel
theorem dX9_isAsSeen_43 : decode cX9_isAsSeen 43 = .ok (.if_icmp .ge 64, 3) := by decide +kernel
theorem dX9_isAsSeen_46 : decode cX9_isAsSeen 46 = .ok (.aload_n 0, 1) := by decide +kernel
theorem dX9_isAsSeen_47 : decode cX9_isAsSeen 47 = .ok (.getfield 12, 3) := by decide +kernel
theorem dX9_isAsSeen_50 : decode cX9_isAsSeen 50 = .ok (.getfield 273, 3) := by decide +kernel
theorem dX9_isAsSeen_53 : decode cX9_isAsSeen 53 = .ok (.iload_n 3, 1) := by decide +kernel
theorem dX9_isAsSeen_54 : decode cX9_isAsSeen 54 = .ok (.invokevirtual 296, 3) := by decide +kernel
theorem dX9_isAsSeen_57 : decode cX9_isAsSeen 57 = .ok (.istore 4, 2) := by decide +kernel
theorem dX9_isAsSeen_59 : decode cX9_isAsSeen 59 = .ok (.iload 4, 2) := by decide +kernel
theorem dX9_isAsSeen_61 : decode cX9_isAsSeen 61 = .ok (.iload_n 2, 1) := by decide +kernel
theorem dX9_isAsSeen_62 : decode cX9_isAsSeen 62 = .ok (.if_icmp .ge 37, 3) := by decide +kernel
theorem dX9_isAsSeen_65 : decode cX9_isAsSeen 65 = .ok (.aload_n 0, 1) := by decide +kernel
theorem dX9_isAsSeen_66 : decode cX9_isAsSeen 66 = .ok (.getfield 63, 3) := by decide +kernel
theorem dX9_isAsSeen_69 : decode cX9_isAsSeen 69 = .ok (.iload 4, 2) := by decide +kernel
theorem dX9_isAsSeen_71 : decode cX9_isAsSeen 71 = .ok (.aload_n 0, 1) := by decide +kernel
theorem dX9_isAsSeen_72 : decode cX9_isAsSeen 72 = .ok (.getfield 12, 3) := by decide +kernel
theorem dX9_isAsSeen_75 : decode cX9_isAsSeen 75 = .ok (.getfield 273, 3) := by decide +kernel
theorem dX9_isAsSeen_78 : decode cX9_isAsSeen 78 = .ok (.iload_n 3, 1) := by decide +kernel
theorem dX9_isAsSeen_79 : decode cX9_isAsSeen 79 = .ok (.invokevirtual 299, 3) := by decide +kernel
theorem dX9_isAsSeen_82 : decode cX9_isAsSeen 82 = .ok (.aload_n 0, 1) := by decide +kernel
theorem dX9_isAsSeen_83 : decode cX9_isAsSeen 83 = .ok (.getfield 12, 3) := by decide +kernel
theorem dX9_isAsSeen_86 : decode cX9_isAsSeen 86 = .ok (.getfield 273, 3) := by decide +kernel
theorem dX9_isAsSeen_89 : decode cX9_isAsSeen 89 = .ok (.iload_n 3, 1) := by decide +kernel
theorem dX9_isAsSeen_90 : decode cX9_isAsSeen 90 = .ok (.invokevirtual 361, 3) := by decide +kernel
theorem dX9_isAsSeen_93 : decode cX9_isAsSeen 93 = .ok (.invokevirtual 364, 3) := by decide +kernel
theorem dX9_isAsSeen_96 : decode cX9_isAsSeen 96 = .ok (.ifCond .eq 5, 3) := by decide +kernel
theorem dX9_isAsSeen_99 : decode cX9_isAsSeen 99 = .ok (.iconst 0, 1) := by decide +kernel
theorem dX9_isAsSeen_100 : decode cX9_isAsSeen 100 = .ok (.ireturn, 1) := by decide +kernel
theorem dX9_isAsSeen_101 : decode cX9_isAsSeen 101 = .ok (.iinc 3 1, 3) := by decide +kernel
theorem dX9_isAsSeen_104 : decode cX9_isAsSeen 104 = .ok (.goto (-72), 3) := by decide +kernel
theorem dX9_isAsSeen_107 : decode cX9_isAsSeen 107 = .ok (.iconst 1, 1) := by decide +kernel
theorem dX9_isAsSeen_108 : decode cX9_isAsSeen 108 = .ok (.ireturn, 1) := by decide +kernel
theorem dX9_happen_0 : decode cX9_happen 0 = .ok (.iload_n 1, 1) := by decide +kernel
theorem dX9_happen_1 : decode cX9_happen 1 = .ok (.lookupswitch 56 #[(0, 27), (1, 45)], 27) := by decide +kernel
theorem dX9_happen_28 : decode cX9_happen 28 = .ok (.aload_n 0, 1) := by decide +kernel
theorem dX9_happen_29 : decode cX9_happen 29 = .ok (.getfield 49, 3) := by decide +kernel
theorem dX9_happen_32 : decode cX9_happen 32 = .ok (.iload_n 2, 1) := by decide +kernel
theorem dX9_happen_33 : decode cX9_happen 33 = .ok (.bipush 10, 2) := by decide +kernel
theorem dX9_happen_35 : decode cX9_happen 35 = .ok (.idiv, 1) := by decide +kernel
theorem dX9_happen_36 : decode cX9_happen 36 = .ok (.iload_n 2, 1) := by decide +kernel
theorem dX9_happen_37 : decode cX9_happen 37 = .ok (.bipush 10, 2) := by decide +kernel
theorem dX9_happen_39 : decode cX9_happen 39 = .ok (.irem, 1) := by decide +kernel
theorem dX9_happen_40 : decode cX9_happen 40 = .ok (.invokevirtual 126, 3) := by decide +kernel
theorem dX9_happen_43 : decode cX9_happen 43 = .ok (.goto 22, 3) := by decide +kernel
theorem dX9_happen_46 : decode cX9_happen 46 = .ok (.aload_n 0, 1) := by decide +kernel
theorem dX9_happen_47 : decode cX9_happen 47 = .ok (.getfield 49, 3) := by decide +kernel
theorem dX9_happen_50 : decode cX9_happen 50 = .ok (.iload_n 2, 1) := by decide +kernel
theorem dX9_happen_51 : decode cX9_happen 51 = .ok (.invokevirtual 108, 3) := by decide +kernel
theorem dX9_happen_54 : decode cX9_happen 54 = .ok (.goto 11, 3) := by decide +kernel
theorem dX9_happen_57 : decode cX9_happen 57 = .ok (.aload_n 0, 1) := by decide +kernel
theorem dX9_happen_58 : decode cX9_happen 58 = .ok (.getfield 49, 3) := by decide +kernel
theorem dX9_happen_61 : decode cX9_happen 61 = .ok (.iload_n 2, 1) := by decide +kernel
theorem dX9_happen_62 : decode cX9_happen 62 = .ok (.invokevirtual 367, 3) := by decide +kernel
theorem dX9_happen_65 : decode cX9_happen 65 = .ok (.return_, 1) := by decide +kernel
theorem dX9_lowerOf_0 : decode cX9_lowerOf 0 = .ok (.iload_n 0, 1) := by decide +kernel
theorem dX9_lowerOf_1 : decode cX9_lowerOf 1 = .ok (.bipush (-5), 2) := by decide +kernel
theorem dX9_lowerOf_3 : decode cX9_lowerOf 3 = .ok (.if_icmp .ne 5, 3) := by decide +kernel
theorem dX9_lowerOf_6 : decode cX9_lowerOf 6 = .ok (.iload_n 1, 1) := by decide +kernel
theorem dX9_lowerOf_7 : decode cX9_lowerOf 7 = .ok (.ireturn, 1) := by decide +kernel
theorem dX9_lowerOf_8 : decode cX9_lowerOf 8 = .ok (.iload_n 1, 1) := by decide +kernel
theorem dX9_lowerOf_9 : decode cX9_lowerOf 9 = .ok (.bipush (-5), 2) := by decide +kernel
theorem dX9_lowerOf_11 : decode cX9_lowerOf 11 = .ok (.if_icmp .ne 7, 3) := by decide +kernel
theorem dX9_lowerOf_14 : decode cX9_lowerOf 14 = .ok (.iload_n 0, 1) := by decide +kernel
theorem dX9_lowerOf_15 : decode cX9_lowerOf 15 = .ok (.goto 8, 3) := by decide +kernel
theorem dX9_lowerOf_18 : decode cX9_lowerOf 18 = .ok (.iload_n 0, 1) := by decide +kernel
theorem dX9_lowerOf_19 : decode cX9_lowerOf 19 = .ok (.iload_n 1, 1) := by decide +kernel
theorem dX9_lowerOf_20 : decode cX9_lowerOf 20 = .ok (.invokestatic 370, 3) := by decide +kernel
theorem dX9_lowerOf_23 : decode cX9_lowerOf 23 = .ok (.ireturn, 1) := by decide +kernel
theorem dX9_lowest_0 : decode cX9_lowest 0 = .ok (.iload_n 0, 1) := by decide +kernel
theorem dX9_lowest_1 : decode cX9_lowest 1 = .ok (.iload_n 1, 1) := by decide +kernel
theorem dX9_lowest_2 : decode cX9_lowest 2 = .ok (.invokestatic 375, 3) := by decide +kernel
theorem dX9_lowest_5 : decode cX9_lowest 5 = .ok (.istore_n 3, 1) := by decide +kernel
theorem dX9_lowest_6 : decode cX9_lowest 6 = .ok (.iload_n 3, 1) := by decide +kernel
theorem dX9_lowest_7 : decode cX9_lowest 7 = .ok (.ifCond .ne 7, 3) := by decide +kernel
theorem dX9_lowest_10 : decode cX9_lowest 10 = .ok (.ldc2_w 230, 3) := by decide +kernel
theorem dX9_lowest_13 : decode cX9_lowest 13 = .ok (.lreturn, 1) := by decide +kernel
theorem dX9_lowest_14 : decode cX9_lowest 14 = .ok (.iload_n 2, 1) := by decide +kernel
theorem dX9_lowest_15 : decode cX9_lowest 15 = .ok (.ifCond .ne 10, 3) := by decide +kernel
theorem dX9_lowest_18 : decode cX9_lowest 18 = .ok (.iload_n 0, 1) := by decide +kernel
theorem dX9_lowest_19 : decode cX9_lowest 19 = .ok (.iload_n 3, 1) := by decide +kernel
theorem dX9_lowest_20 : decode cX9_lowest 20 = .ok (.idiv, 1) := by decide +kernel
theorem dX9_lowest_21 : decode cX9_lowest 21 = .ok (.i2l, 1) := by decide +kernel
theorem dX9_lowest_22 : decode cX9_lowest 22 = .ok (.goto 7, 3) := by decide +kernel
theorem dX9_lowest_25 : decode cX9_lowest 25 = .ok (.iload_n 1, 1) := by decide +kernel
theorem dX9_lowest_26 : decode cX9_lowest 26 = .ok (.iload_n 3, 1) := by decide +kernel
theorem dX9_lowest_27 : decode cX9_lowest 27 = .ok (.idiv, 1) := by decide +kernel
theorem dX9_lowest_28 : decode cX9_lowest 28 = .ok (.i2l, 1) := by decide +kernel
theorem dX9_lowest_29 : decode cX9_lowest 29 = .ok (.lreturn, 1) := by decide +kernel
theorem dX9_commonDivisor_0 : decode cX9_commonDivisor 0 = .ok (.iload_n 0, 1) := by decide +kernel
theorem dX9_commonDivisor_1 : decode cX9_commonDivisor 1 = .ok (.istore_n 2, 1) := by decide +kernel
theorem dX9_commonDivisor_2 : decode cX9_commonDivisor 2 = .ok (.iload_n 1, 1) := by decide +kernel
theorem dX9_commonDivisor_3 : decode cX9_commonDivisor 3 = .ok (.istore_n 3, 1) := by decide +kernel
theorem dX9_commonDivisor_4 : decode cX9_commonDivisor 4 = .ok (.iconst 0, 1) := by decide +kernel
theorem dX9_commonDivisor_5 : decode cX9_commonDivisor 5 = .ok (.istore 4, 2) := by decide +kernel
theorem dX9_commonDivisor_7 : decode cX9_commonDivisor 7 = .ok (.iload 4, 2) := by decide +kernel
theorem dX9_commonDivisor_9 : decode cX9_commonDivisor 9 = .ok (.bipush 64, 2) := by decide +kernel
theorem dX9_commonDivisor_11 : decode cX9_commonDivisor 11 = .ok (.if_icmp .ge 23, 3) := by decide +kernel
theorem dX9_commonDivisor_14 : decode cX9_commonDivisor 14 = .ok (.iload_n 3, 1) := by decide +kernel
theorem dX9_commonDivisor_15 : decode cX9_commonDivisor 15 = .ok (.ifCond .eq 19, 3) := by decide +kernel
theorem dX9_commonDivisor_18 : decode cX9_commonDivisor 18 = .ok (.iload_n 2, 1) := by decide +kernel
theorem dX9_commonDivisor_19 : decode cX9_commonDivisor 19 = .ok (.iload_n 3, 1) := by decide +kernel
theorem dX9_commonDivisor_20 : decode cX9_commonDivisor 20 = .ok (.irem, 1) := by decide +kernel
theorem dX9_commonDivisor_21 : decode cX9_commonDivisor 21 = .ok (.istore 5, 2) := by decide +kernel
theorem dX9_commonDivisor_23 : decode cX9_commonDivisor 23 = .ok (.iload_n 3, 1) := by decide +kernel
theorem dX9_commonDivisor_24 : decode cX9_commonDivisor 24 = .ok (.istore_n 2, 1) := by decide +kernel
theorem dX9_commonDivisor_25 : decode cX9_commonDivisor 25 = .ok (.iload 5, 2) := by decide +kernel
theorem dX9_commonDivisor_27 : decode cX9_commonDivisor 27 = .ok (.istore_n 3, 1) := by decide +kernel
theorem dX9_commonDivisor_28 : decode cX9_commonDivisor 28 = .ok (.iinc 4 1, 3) := by decide +kernel
theorem dX9_commonDivisor_31 : decode cX9_commonDivisor 31 = .ok (.goto (-24), 3) := by decide +kernel
theorem dX9_commonDivisor_34 : decode cX9_commonDivisor 34 = .ok (.iload_n 2, 1) := by decide +kernel
theorem dX9_commonDivisor_35 : decode cX9_commonDivisor 35 = .ok (.ireturn, 1) := by decide +kernel
theorem dX10_init_0 : decode cX10_init 0 = .ok (.aload_n 0, 1) := by decide +kernel
theorem dX10_init_1 : decode cX10_init 1 = .ok (.invokespecial 3, 3) := by decide +kernel
theorem dX10_init_4 : decode cX10_init 4 = .ok (.aload_n 0, 1) := by decide +kernel
theorem dX10_init_5 : decode cX10_init 5 = .ok (.iconst 3, 1) := by decide +kernel
theorem dX10_init_6 : decode cX10_init 6 = .ok (.newarray .int, 2) := by decide +kernel
theorem dX10_init_8 : decode cX10_init 8 = .ok (.putfield 11, 3) := by decide +kernel
theorem dX10_init_11 : decode cX10_init 11 = .ok (.aload_n 0, 1) := by decide +kernel
theorem dX10_init_12 : decode cX10_init 12 = .ok (.bipush 18, 2) := by decide +kernel
theorem dX10_init_14 : decode cX10_init 14 = .ok (.newarray .int, 2) := by decide +kernel
theorem dX10_init_16 : decode cX10_init 16 = .ok (.putfield 15, 3) := by decide +kernel
theorem dX10_init_19 : decode cX10_init 19 = .ok (.aload_n 0, 1) := by decide +kernel
theorem dX10_init_20 : decode cX10_init 20 = .ok (.bipush 18, 2) := by decide +kernel
theorem dX10_init_22 : decode cX10_init 22 = .ok (.newarray .int, 2) := by decide +kernel
theorem dX10_init_24 : decode cX10_init 24 = .ok (.putfield 18, 3) := by decide +kernel
theorem dX10_init_27 : decode cX10_init 27 = .ok (.aload_n 0, 1) := by decide +kernel
theorem dX10_init_28 : decode cX10_init 28 = .ok (.bipush 10, 2) := by decide +kernel
theorem dX10_init_30 : decode cX10_init 30 = .ok (.newarray .int, 2) := by decide +kernel
theorem dX10_init_32 : decode cX10_init 32 = .ok (.putfield 21, 3) := by decide +kernel
theorem dX10_init_35 : decode cX10_init 35 = .ok (.aload_n 0, 1) := by decide +kernel
theorem dX10_init_36 : decode cX10_init 36 = .ok (.bipush 10, 2) := by decide +kernel
theorem dX10_init_38 : decode cX10_init 38 = .ok (.newarray .int, 2) := by decide +kernel
theorem dX10_init_40 : decode cX10_init 40 = .ok (.putfield 24, 3) := by decide +kernel
theorem dX10_init_43 : decode cX10_init 43 = .ok (.aload_n 0, 1) := by decide +kernel
theorem dX10_init_44 : decode cX10_init 44 = .ok (.bipush 60, 2) := by decide +kernel
theorem dX10_init_46 : decode cX10_init 46 = .ok (.newarray .int, 2) := by decide +kernel
theorem dX10_init_48 : decode cX10_init 48 = .ok (.putfield 27, 3) := by decide +kernel
theorem dX10_init_51 : decode cX10_init 51 = .ok (.aload_n 0, 1) := by decide +kernel
theorem dX10_init_52 : decode cX10_init 52 = .ok (.bipush 60, 2) := by decide +kernel
theorem dX10_init_54 : decode cX10_init 54 = .ok (.newarray .int, 2) := by decide +kernel
theorem dX10_init_56 : decode cX10_init 56 = .ok (.putfield 30, 3) := by decide +kernel
theorem dX10_init_59 : decode cX10_init 59 = .ok (.aload_n 0, 1) := by decide +kernel
theorem dX10_init_60 : decode cX10_init 60 = .ok (.bipush 100, 2) := by decide +kernel
theorem dX10_init_62 : decode cX10_init 62 = .ok (.newarray .int, 2) := by decide +kernel
theorem dX10_init_64 : decode cX10_init 64 = .ok (.putfield 33, 3) := by decide +kernel
theorem dX10_init_67 : decode cX10_init 67 = .ok (.aload_n 0, 1) := by decide +kernel
theorem dX10_init_68 : decode cX10_init 68 = .ok (.iconst 3, 1) := by decide +kernel
theorem dX10_init_69 : decode cX10_init 69 = .ok (.newarray .int, 2) := by decide +kernel
theorem dX10_init_71 : decode cX10_init 71 = .ok (.putfield 36, 3) := by decide +kernel
theorem dX10_init_74 : decode cX10_init 74 = .ok (.aload_n 0, 1) := by decide +kernel
theorem dX10_init_75 : decode cX10_init 75 = .ok (.bipush 64, 2) := by decide +kernel
theorem dX10_init_77 : decode cX10_init 77 = .ok (.newarray .int, 2) := by decide +kernel
theorem dX10_init_79 : decode cX10_init 79 = .ok (.putfield 39, 3) := by decide +kernel
theorem dX10_init_82 : decode cX10_init 82 = .ok (.aload_n 0, 1) := by decide +kernel
theorem dX10_init_83 : decode cX10_init 83 = .ok (.bipush 64, 2) := by decide +kernel
theorem dX10_init_85 : decode cX10_init 85 = .ok (.newarray .int, 2) := by decide +kernel
theorem dX10_init_87 : decode cX10_init 87 = .ok (.putfield 42, 3) := by decide +kernel
theorem dX10_init_90 : decode cX10_init 90 = .ok (.aload_n 0, 1) := by decide +kernel
theorem dX10_init_91 : decode cX10_init 91 = .ok (.bipush 64, 2) := by decide +kernel
theorem dX10_init_93 : decode cX10_init 93 = .ok (.newarray .int, 2) := by decide +kernel
theorem dX10_init_95 : decode cX10_init 95 = .ok (.putfield 45, 3) := by decide +kernel
theorem dX10_init_98 : decode cX10_init 98 = .ok (.aload_n 0, 1) := by decide +kernel
theorem dX10_init_99 : decode cX10_init 99 = .ok (.bipush 100, 2) := by decide +kernel
theorem dX10_init_101 : decode cX10_init 101 = .ok (.newarray .int, 2) := by decide +kernel
theorem dX10_init_103 : decode cX10_init 103 = .ok (.putfield 48, 3) := by decide +kernel
theorem dX10_init_106 : decode cX10_init 106 = .ok (.aload_n 0, 1) := by decide +kernel
theorem dX10_init_107 : decode cX10_init 107 = .ok (.bipush 100, 2) := by decide +kernel
theorem dX10_init_109 : decode cX10_init 109 = .ok (.newarray .int, 2) := by decide +kernel
theorem dX10_init_111 : decode cX10_init 111 = .ok (.putfield 51, 3) := by decide +kernel
theorem dX10_init_114 : decode cX10_init 114 = .ok (.aload_n 0, 1) := by decide +kernel
theorem dX10_init_115 : decode cX10_init 115 = .ok (.bipush 72, 2) := by decide +kernel
theorem dX10_init_117 : decode cX10_init 117 = .ok (.newarray .int, 2) := by decide +kernel
theorem dX10_init_119 : decode cX10_init 119 = .ok (.putfield 54, 3) := by decide +kernel
theorem dX10_init_122 : decode cX10_init 122 = .ok (.aload_n 0, 1) := by decide +kernel
theorem dX10_init_123 : decode cX10_init 123 = .ok (.bipush 72, 2) := by decide +kernel
theorem dX10_init_125 : decode cX10_init 125 = .ok (.newarray .int, 2) := by decide +kernel
theorem dX10_init_127 : decode cX10_init 127 = .ok (.putfield 57, 3) := by decide +kernel
theorem dX10_init_130 : decode cX10_init 130 = .ok (.aload_n 0, 1) := by decide +kernel
theorem dX10_init_131 : decode cX10_init 131 = .ok (.bipush 72, 2) := by decide +kernel
theorem dX10_init_133 : decode cX10_init 133 = .ok (.newarray .int, 2) := by decide +kernel
theorem dX10_init_135 : decode cX10_init 135 = .ok (.putfield 60, 3) := by decide +kernel
theorem dX10_init_138 : decode cX10_init 138 = .ok (.aload_n 0, 1) := by decide +kernel
theorem dX10_init_139 : decode cX10_init 139 = .ok (.iconst 4, 1) := by decide +kernel
theorem dX10_init_140 : decode cX10_init 140 = .ok (.newarray .int, 2) := by decide +kernel
theorem dX10_init_142 : decode cX10_init 142 = .ok (.putfield 63, 3) := by decide +kernel
theorem dX10_init_145 : decode cX10_init 145 = .ok (.aload_n 0, 1) := by decide +kernel
theorem dX10_init_146 : decode cX10_init 146 = .ok (.iconst 4, 1) := by decide +kernel
theorem dX10_init_147 : decode cX10_init 147 = .ok (.newarray .int, 2) := by decide +kernel
theorem dX10_init_149 : decode cX10_init 149 = .ok (.putfield 66, 3) := by decide +kernel
theorem dX10_init_152 : decode cX10_init 152 = .ok (.aload_n 0, 1) := by decide +kernel
theorem dX10_init_153 : decode cX10_init 153 = .ok (.iconst 4, 1) := by decide +kernel
theorem dX10_init_154 : decode cX10_init 154 = .ok (.newarray .int, 2) := by decide +kernel
theorem dX10_init_156 : decode cX10_init 156 = .ok (.putfield 69, 3) := by decide +kernel
theorem dX10_init_159 : decode cX10_init 159 = .ok (.aload_n 0, 1) := by decide +kernel
theorem dX10_init_160 : decode cX10_init 160 = .ok (.bipush 8, 2) := by decide +kernel
theorem dX10_init_162 : decode cX10_init 162 = .ok (.newarray .int, 2) := by decide +kernel
theorem dX10_init_164 : decode cX10_init 164 = .ok (.putfield 72, 3) := by decide +kernel
theorem dX10_init_167 : decode cX10_init 167 = .ok (.aload_n 0, 1) := by decide +kernel
theorem dX10_init_168 : decode cX10_init 168 = .ok (.bipush 8, 2) := by decide +kernel
theorem dX10_init_170 : decode cX10_init 170 = .ok (.newarray .int, 2) := by decide +kernel
theorem dX10_init_172 : decode cX10_init 172 = .ok (.putfield 75, 3) := by decide +kernel
theorem dX10_init_175 : decode cX10_init 175 = .ok (.aload_n 0, 1) := by decide +kernel
theorem dX10_init_176 : decode cX10_init 176 = .ok (.bipush 8, 2) := by decide +kernel
theorem dX10_init_178 : decode cX10_init 178 = .ok (.newarray .int, 2) := by decide +kernel
theorem dX10_init_180 : decode cX10_init 180 = .ok (.putfield 78, 3) := by decide +kernel
theorem dX10_init_183 : decode cX10_init 183 = .ok (.aload_n 0, 1) := by decide +kernel
theorem dX10_init_184 : decode cX10_init 184 = .ok (.bipush 8, 2) := by decide +kernel
theorem dX10_init_186 : decode cX10_init 186 = .ok (.newarray .int, 2) := by decide +kernel
theorem dX10_init_188 : decode cX10_init 188 = .ok (.putfield 81, 3) := by decide +kernel
theorem dX10_init_191 : decode cX10_init 191 = .ok (.aload_n 0, 1) := by decide +kernel
theorem dX10_init_192 : decode cX10_init 192 = .ok (.bipush 6, 2) := by decide +kernel
theorem dX10_init_194 : decode cX10_init 194 = .ok (.newarray .int, 2) := by decide +kernel
theorem dX10_init_196 : decode cX10_init 196 = .ok (.dup, 1) := by decide +kernel
theorem dX10_init_197 : decode cX10_init 197 = .ok (.iconst 0, 1) := by decide +kernel
theorem dX10_init_198 : decode cX10_init 198 = .ok (.iconst (-1), 1) := by decide +kernel
theorem dX10_init_199 : decode cX10_init 199 = .ok (.iastore, 1) := by decide +kernel
theorem dX10_init_200 : decode cX10_init 200 = .ok (.dup, 1) := by decide +kernel
theorem dX10_init_201 : decode cX10_init 201 = .ok (.iconst 1, 1) := by decide +kernel
theorem dX10_init_202 : decode cX10_init 202 = .ok (.iconst (-1), 1) := by decide +kernel
theorem dX10_init_203 : decode cX10_init 203 = .ok (.iastore, 1) := by decide +kernel
theorem dX10_init_204 : decode cX10_init 204 = .ok (.dup, 1) := by decide +kernel
theorem dX10_init_205 : decode cX10_init 205 = .ok (.iconst 2, 1) := by decide +kernel
theorem dX10_init_206 : decode cX10_init 206 = .ok (.iconst (-1), 1) := by decide +kernel
theorem dX10_init_207 : decode cX10_init 207 = .ok (.iastore, 1) := by decide +kernel
theorem dX10_init_208 : decode cX10_init 208 = .ok (.dup, 1) := by decide +kernel
theorem dX10_init_209 : decode cX10_init 209 = .ok (.iconst 3, 1) := by decide +kernel
theorem dX10_init_210 : decode cX10_init 210 = .ok (.iconst (-1), 1) := by decide +kernel
theorem dX10_init_211 : decode cX10_init 211 = .ok (.iastore, 1) := by decide +kernel
theorem dX10_init_212 : decode cX10_init 212 = .ok (.dup, 1) := by decide +kernel
theorem dX10_init_213 : decode cX10_init 213 = .ok (.iconst 4, 1) := by decide +kernel
theorem dX10_init_214 : decode cX10_init 214 = .ok (.iconst (-1), 1) := by decide +kernel
theorem dX10_init_215 : decode cX10_init 215 = .ok (.iastore, 1) := by decide +kernel
theorem dX10_init_216 : decode cX10_init 216 = .ok (.dup, 1) := by decide +kernel
theorem dX10_init_217 : decode cX10_init 217 = .ok (.iconst 5, 1) := by decide +kernel
theorem dX10_init_218 : decode cX10_init 218 = .ok (.iconst (-1), 1) := by decide +kernel
theorem dX10_init_219 : decode cX10_init 219 = .ok (.iastore, 1) := by decide +kernel
theorem dX10_init_220 : decode cX10_init 220 = .ok (.putfield 84, 3) := by decide +kernel
theorem dX10_init_223 : decode cX10_init 223 = .ok (.aload_n 0, 1) := by decide +kernel
theorem dX10_init_224 : decode cX10_init 224 = .ok (.bipush 6, 2) := by decide +kernel
theorem dX10_init_226 : decode cX10_init 226 = .ok (.newarray .int, 2) := by decide +kernel
theorem dX10_init_228 : decode cX10_init 228 = .ok (.putfield 87, 3) := by decide +kernel
theorem dX10_init_231 : decode cX10_init 231 = .ok (.aload_n 0, 1) := by decide +kernel
theorem dX10_init_232 : decode cX10_init 232 = .ok (.sipush 360, 3) := by decide +kernel
theorem dX10_init_235 : decode cX10_init 235 = .ok (.newarray .long, 2) := by decide +kernel
theorem dX10_init_237 : decode cX10_init 237 = .ok (.putfield 90, 3) := by decide +kernel
theorem dX10_init_240 : decode cX10_init 240 = .ok (.aload_n 0, 1) := by decide +kernel
theorem dX10_init_241 : decode cX10_init 241 = .ok (.bipush 60, 2) := by decide +kernel
theorem dX10_init_243 : decode cX10_init 243 = .ok (.newarray .long, 2) := by decide +kernel
theorem dX10_init_245 : decode cX10_init 245 = .ok (.putfield 94, 3) := by decide +kernel
theorem dX10_init_248 : decode cX10_init 248 = .ok (.aload_n 0, 1) := by decide +kernel
theorem dX10_init_249 : decode cX10_init 249 = .ok (.iconst 2, 1) := by decide +kernel
theorem dX10_init_250 : decode cX10_init 250 = .ok (.newarray .int, 2) := by decide +kernel
theorem dX10_init_252 : decode cX10_init 252 = .ok (.putfield 97, 3) := by decide +kernel
theorem dX10_init_255 : decode cX10_init 255 = .ok (.aload_n 0, 1) := by decide +kernel
theorem dX10_init_256 : decode cX10_init 256 = .ok (.bipush 12, 2) := by decide +kernel
theorem dX10_init_258 : decode cX10_init 258 = .ok (.newarray .int, 2) := by decide +kernel
theorem dX10_init_260 : decode cX10_init 260 = .ok (.putfield 100, 3) := by decide +kernel
theorem dX10_init_263 : decode cX10_init 263 = .ok (.aload_n 0, 1) := by decide +kernel
theorem dX10_init_264 : decode cX10_init 264 = .ok (.bipush 12, 2) := by decide +kernel
theorem dX10_init_266 : decode cX10_init 266 = .ok (.newarray .int, 2) := by decide +kernel
theorem dX10_init_268 : decode cX10_init 268 = .ok (.putfield 103, 3) := by decide +kernel
theorem dX10_init_271 : decode cX10_init 271 = .ok (.aload_n 0, 1) := by decide +kernel
theorem dX10_init_272 : decode cX10_init 272 = .ok (.bipush 12, 2) := by decide +kernel
theorem dX10_init_274 : decode cX10_init 274 = .ok (.newarray .int, 2) := by decide +kernel
theorem dX10_init_276 : decode cX10_init 276 = .ok (.putfield 106, 3) := by decide +kernel
theorem dX10_init_279 : decode cX10_init 279 = .ok (.aload_n 0, 1) := by decide +kernel
theorem dX10_init_280 : decode cX10_init 280 = .ok (.bipush 16, 2) := by decide +kernel
theorem dX10_init_282 : decode cX10_init 282 = .ok (.newarray .int, 2) := by decide +kernel
theorem dX10_init_284 : decode cX10_init 284 = .ok (.putfield 109, 3) := by decide +kernel
theorem dX10_init_287 : decode cX10_init 287 = .ok (.aload_n 0, 1) := by decide +kernel
theorem dX10_init_288 : decode cX10_init 288 = .ok (.bipush 16, 2) := by decide +kernel
theorem dX10_init_290 : decode cX10_init 290 = .ok (.newarray .int, 2) := by decide +kernel
theorem dX10_init_292 : decode cX10_init 292 = .ok (.putfield 112, 3) := by decide +kernel
theorem dX10_init_295 : decode cX10_init 295 = .ok (.return_, 1) := by decide +kernel
theorem dX10_isFrom_0 : decode cX10_isFrom 0 = .ok (.lload_n 0, 1) := by decide +kernel
theorem dX10_isFrom_1 : decode cX10_isFrom 1 = .ok (.lload_n 2, 1) := by decide +kernel
theorem dX10_isFrom_2 : decode cX10_isFrom 2 = .ok (.lcmp, 1) := by decide +kernel
theorem dX10_isFrom_3 : decode cX10_isFrom 3 = .ok (.ifCond .lt 14, 3) := by decide +kernel
theorem dX10_isFrom_6 : decode cX10_isFrom 6 = .ok (.lload_n 0, 1) := by decide +kernel
theorem dX10_isFrom_7 : decode cX10_isFrom 7 = .ok (.lload 4, 2) := by decide +kernel
theorem dX10_isFrom_9 : decode cX10_isFrom 9 = .ok (.lcmp, 1) := by decide +kernel
theorem dX10_isFrom_10 : decode cX10_isFrom 10 = .ok (.ifCond .gt 7, 3) := by decide +kernel
theorem dX10_isFrom_13 : decode cX10_isFrom 13 = .ok (.iconst 1, 1) := by decide +kernel
theorem dX10_isFrom_14 : decode cX10_isFrom 14 = .ok (.goto 4, 3) := by decide +kernel
theorem dX10_isFrom_17 : decode cX10_isFrom 17 = .ok (.iconst 0, 1) := by decide +kernel
theorem dX10_isFrom_18 : decode cX10_isFrom 18 = .ok (.ireturn, 1) := by decide +kernel
theorem dX10_isIdeal_0 : decode cX10_isIdeal 0 = .ok (.iload_n 0, 1) := by decide +kernel
theorem dX10_isIdeal_1 : decode cX10_isIdeal 1 = .ok (.i2l, 1) := by decide +kernel
theorem dX10_isIdeal_2 : decode cX10_isIdeal 2 = .ok (.lconst 0, 1) := by decide +kernel
theorem dX10_isIdeal_3 : decode cX10_isIdeal 3 = .ok (.lconst 1, 1) := by decide +kernel
theorem dX10_isIdeal_4 : decode cX10_isIdeal 4 = .ok (.invokestatic 115, 3) := by decide +kernel
theorem dX10_isIdeal_7 : decode cX10_isIdeal 7 = .ok (.ireturn, 1) := by decide +kernel
theorem dX10_isPower_0 : decode cX10_isPower 0 = .ok (.iload_n 0, 1) := by decide +kernel
theorem dX10_isPower_1 : decode cX10_isPower 1 = .ok (.i2l, 1) := by decide +kernel
theorem dX10_isPower_2 : decode cX10_isPower 2 = .ok (.lconst 0, 1) := by decide +kernel
theorem dX10_isPower_3 : decode cX10_isPower 3 = .ok (.ldc2_w 119, 3) := by decide +kernel
theorem dX10_isPower_6 : decode cX10_isPower 6 = .ok (.invokestatic 115, 3) := by decide +kernel
theorem dX10_isPower_9 : decode cX10_isPower 9 = .ok (.ireturn, 1) := by decide +kernel
theorem dX10_divisor_0 : decode cX10_divisor 0 = .ok (.lload_n 0, 1) := by decide +kernel
theorem dX10_divisor_1 : decode cX10_divisor 1 = .ok (.lstore 4, 2) := by decide +kernel
theorem dX10_divisor_3 : decode cX10_divisor 3 = .ok (.lload_n 2, 1) := by decide +kernel
theorem dX10_divisor_4 : decode cX10_divisor 4 = .ok (.lstore 6, 2) := by decide +kernel
theorem dX10_divisor_6 : decode cX10_divisor 6 = .ok (.lload 6, 2) := by decide +kernel
theorem dX10_divisor_8 : decode cX10_divisor 8 = .ok (.lconst 0, 1) := by decide +kernel
theorem dX10_divisor_9 : decode cX10_divisor 9 = .ok (.lcmp, 1) := by decide +kernel
theorem dX10_divisor_10 : decode cX10_divisor 10 = .ok (.ifCond .eq 21, 3) := by decide +kernel
theorem dX10_divisor_13 : decode cX10_divisor 13 = .ok (.lload 4, 2) := by decide +kernel
theorem dX10_divisor_15 : decode cX10_divisor 15 = .ok (.lload 6, 2) := by decide +kernel
theorem dX10_divisor_17 : decode cX10_divisor 17 = .ok (.lrem, 1) := by decide +kernel
theorem dX10_divisor_18 : decode cX10_divisor 18 = .ok (.lstore 8, 2) := by decide +kernel
theorem dX10_divisor_20 : decode cX10_divisor 20 = .ok (.lload 6, 2) := by decide +kernel
theorem dX10_divisor_22 : decode cX10_divisor 22 = .ok (.lstore 4, 2) := by decide +kernel
theorem dX10_divisor_24 : decode cX10_divisor 24 = .ok (.lload 8, 2) := by decide +kernel
theorem dX10_divisor_26 : decode cX10_divisor 26 = .ok (.lstore 6, 2) := by decide +kernel
theorem dX10_divisor_28 : decode cX10_divisor 28 = .ok (.goto (-22), 3) := by decide +kernel
theorem dX10_divisor_31 : decode cX10_divisor 31 = .ok (.lload 4, 2) := by decide +kernel
theorem dX10_divisor_33 : decode cX10_divisor 33 = .ok (.lreturn, 1) := by decide +kernel
theorem dX10_part_0 : decode cX10_part 0 = .ok (.lload_n 0, 1) := by decide +kernel
theorem dX10_part_1 : decode cX10_part 1 = .ok (.lload_n 2, 1) := by decide +kernel
theorem dX10_part_2 : decode cX10_part 2 = .ok (.invokestatic 121, 3) := by decide +kernel
theorem dX10_part_5 : decode cX10_part 5 = .ok (.lstore 5, 2) := by decide +kernel
theorem dX10_part_7 : decode cX10_part 7 = .ok (.iload 4, 2) := by decide +kernel
theorem dX10_part_9 : decode cX10_part 9 = .ok (.ifCond .ne 10, 3) := by decide +kernel
theorem dX10_part_12 : decode cX10_part 12 = .ok (.lload_n 0, 1) := by decide +kernel
theorem dX10_part_13 : decode cX10_part 13 = .ok (.lload 5, 2) := by decide +kernel
theorem dX10_part_15 : decode cX10_part 15 = .ok (.ldiv, 1) := by decide +kernel
theorem dX10_part_16 : decode cX10_part 16 = .ok (.goto 7, 3) := by decide +kernel
theorem dX10_part_19 : decode cX10_part 19 = .ok (.lload_n 2, 1) := by decide +kernel
theorem dX10_part_20 : decode cX10_part 20 = .ok (.lload 5, 2) := by decide +kernel
theorem dX10_part_22 : decode cX10_part 22 = .ok (.ldiv, 1) := by decide +kernel
theorem dX10_part_23 : decode cX10_part 23 = .ok (.lreturn, 1) := by decide +kernel
theorem dX10_a_0 : decode cX10_a 0 = .ok (.aload_n 0, 1) := by decide +kernel
theorem dX10_a_1 : decode cX10_a 1 = .ok (.getfield 15, 3) := by decide +kernel
theorem dX10_a_4 : decode cX10_a 4 = .ok (.bipush 6, 2) := by decide +kernel
theorem dX10_a_6 : decode cX10_a 6 = .ok (.iload_n 1, 1) := by decide +kernel
theorem dX10_a_7 : decode cX10_a 7 = .ok (.imul, 1) := by decide +kernel
theorem dX10_a_8 : decode cX10_a 8 = .ok (.iload_n 2, 1) := by decide +kernel
theorem dX10_a_9 : decode cX10_a 9 = .ok (.iadd, 1) := by decide +kernel
theorem dX10_a_10 : decode cX10_a 10 = .ok (.iaload, 1) := by decide +kernel
theorem dX10_a_11 : decode cX10_a 11 = .ok (.ireturn, 1) := by decide +kernel
theorem dX10_b_0 : decode cX10_b 0 = .ok (.aload_n 0, 1) := by decide +kernel
theorem dX10_b_1 : decode cX10_b 1 = .ok (.getfield 18, 3) := by decide +kernel
theorem dX10_b_4 : decode cX10_b 4 = .ok (.bipush 6, 2) := by decide +kernel
theorem dX10_b_6 : decode cX10_b 6 = .ok (.iload_n 1, 1) := by decide +kernel
theorem dX10_b_7 : decode cX10_b 7 = .ok (.imul, 1) := by decide +kernel
theorem dX10_b_8 : decode cX10_b 8 = .ok (.iload_n 2, 1) := by decide +kernel
theorem dX10_b_9 : decode cX10_b 9 = .ok (.iadd, 1) := by decide +kernel
theorem dX10_b_10 : decode cX10_b 10 = .ok (.iaload, 1) := by decide +kernel
theorem dX10_b_11 : decode cX10_b 11 = .ok (.ireturn, 1) := by decide +kernel
theorem dX10_which_0 : decode cX10_which 0 = .ok (.iconst 0, 1) := by decide +kernel
theorem dX10_which_1 : decode cX10_which 1 = .ok (.istore 4, 2) := by decide +kernel
theorem dX10_which_3 : decode cX10_which 3 = .ok (.iload 4, 2) := by decide +kernel
theorem dX10_which_5 : decode cX10_which 5 = .ok (.aload_n 0, 1) := by decide +kernel
theorem dX10_which_6 : decode cX10_which 6 = .ok (.getfield 11, 3) := by decide +kernel
theorem dX10_which_9 : decode cX10_which 9 = .ok (.iload_n 1, 1) := by decide +kernel
theorem dX10_which_10 : decode cX10_which 10 = .ok (.iaload, 1) := by decide +kernel
theorem dX10_which_11 : decode cX10_which 11 = .ok (.if_icmp .ge 34, 3) := by decide +kernel
theorem dX10_which_14 : decode cX10_which 14 = .ok (.aload_n 0, 1) := by decide +kernel
theorem dX10_which_15 : decode cX10_which 15 = .ok (.iload_n 1, 1) := by decide +kernel
theorem dX10_which_16 : decode cX10_which 16 = .ok (.iload 4, 2) := by decide +kernel
theorem dX10_which_18 : decode cX10_which 18 = .ok (.invokevirtual 125, 3) := by decide +kernel
theorem dX10_which_21 : decode cX10_which 21 = .ok (.iload_n 2, 1) := by decide +kernel
theorem dX10_which_22 : decode cX10_which 22 = .ok (.if_icmp .ne 17, 3) := by decide +kernel
theorem dX10_which_25 : decode cX10_which 25 = .ok (.aload_n 0, 1) := by decide +kernel
theorem dX10_which_26 : decode cX10_which 26 = .ok (.iload_n 1, 1) := by decide +kernel
theorem dX10_which_27 : decode cX10_which 27 = .ok (.iload 4, 2) := by decide +kernel
theorem dX10_which_29 : decode cX10_which 29 = .ok (.invokevirtual 129, 3) := by decide +kernel
theorem dX10_which_32 : decode cX10_which 32 = .ok (.iload_n 3, 1) := by decide +kernel
theorem dX10_which_33 : decode cX10_which 33 = .ok (.if_icmp .ne 6, 3) := by decide +kernel
theorem dX10_which_36 : decode cX10_which 36 = .ok (.iload 4, 2) := by decide +kernel
theorem dX10_which_38 : decode cX10_which 38 = .ok (.ireturn, 1) := by decide +kernel
theorem dX10_which_39 : decode cX10_which 39 = .ok (.iinc 4 1, 3) := by decide +kernel
theorem dX10_which_42 : decode cX10_which 42 = .ok (.goto (-39), 3) := by decide +kernel
theorem dX10_which_45 : decode cX10_which 45 = .ok (.iconst (-1), 1) := by decide +kernel
theorem dX10_which_46 : decode cX10_which 46 = .ok (.ireturn, 1) := by decide +kernel
theorem dX10_comes_0 : decode cX10_comes 0 = .ok (.aload_n 0, 1) := by decide +kernel
theorem dX10_comes_1 : decode cX10_comes 1 = .ok (.getfield 15, 3) := by decide +kernel
theorem dX10_comes_4 : decode cX10_comes 4 = .ok (.bipush 6, 2) := by decide +kernel
theorem dX10_comes_6 : decode cX10_comes 6 = .ok (.iload_n 1, 1) := by decide +kernel
theorem dX10_comes_7 : decode cX10_comes 7 = .ok (.imul, 1) := by decide +kernel
theorem dX10_comes_8 : decode cX10_comes 8 = .ok (.aload_n 0, 1) := by decide +kernel
theorem dX10_comes_9 : decode cX10_comes 9 = .ok (.getfield 11, 3) := by decide +kernel
theorem dX10_comes_12 : decode cX10_comes 12 = .ok (.iload_n 1, 1) := by decide +kernel
theorem dX10_comes_13 : decode cX10_comes 13 = .ok (.iaload, 1) := by decide +kernel
theorem dX10_comes_14 : decode cX10_comes 14 = .ok (.iadd, 1) := by decide +kernel
theorem dX10_comes_15 : decode cX10_comes 15 = .ok (.iload_n 2, 1) := by decide +kernel
theorem dX10_comes_16 : decode cX10_comes 16 = .ok (.iastore, 1) := by decide +kernel
theorem dX10_comes_17 : decode cX10_comes 17 = .ok (.aload_n 0, 1) := by decide +kernel
theorem dX10_comes_18 : decode cX10_comes 18 = .ok (.getfield 18, 3) := by decide +kernel
theorem dX10_comes_21 : decode cX10_comes 21 = .ok (.bipush 6, 2) := by decide +kernel
theorem dX10_comes_23 : decode cX10_comes 23 = .ok (.iload_n 1, 1) := by decide +kernel
theorem dX10_comes_24 : decode cX10_comes 24 = .ok (.imul, 1) := by decide +kernel
theorem dX10_comes_25 : decode cX10_comes 25 = .ok (.aload_n 0, 1) := by decide +kernel
theorem dX10_comes_26 : decode cX10_comes 26 = .ok (.getfield 11, 3) := by decide +kernel
theorem dX10_comes_29 : decode cX10_comes 29 = .ok (.iload_n 1, 1) := by decide +kernel
theorem dX10_comes_30 : decode cX10_comes 30 = .ok (.iaload, 1) := by decide +kernel
theorem dX10_comes_31 : decode cX10_comes 31 = .ok (.iadd, 1) := by decide +kernel
theorem dX10_comes_32 : decode cX10_comes 32 = .ok (.iload_n 3, 1) := by decide +kernel
theorem dX10_comes_33 : decode cX10_comes 33 = .ok (.iastore, 1) := by decide +kernel
theorem dX10_comes_34 : decode cX10_comes 34 = .ok (.aload_n 0, 1) := by decide +kernel
theorem dX10_comes_35 : decode cX10_comes 35 = .ok (.getfield 11, 3) := by decide +kernel
theorem dX10_comes_38 : decode cX10_comes 38 = .ok (.iload_n 1, 1) := by decide +kernel
theorem dX10_comes_39 : decode cX10_comes 39 = .ok (.dup2, 1) := by decide +kernel
theorem dX10_comes_40 : decode cX10_comes 40 = .ok (.iaload, 1) := by decide +kernel
theorem dX10_comes_41 : decode cX10_comes 41 = .ok (.iconst 1, 1) := by decide +kernel
theorem dX10_comes_42 : decode cX10_comes 42 = .ok (.iadd, 1) := by decide +kernel
theorem dX10_comes_43 : decode cX10_comes 43 = .ok (.iastore, 1) := by decide +kernel
theorem dX10_comes_44 : decode cX10_comes 44 = .ok (.return_, 1) := by decide +kernel
theorem dX10_goes_0 : decode cX10_goes 0 = .ok (.bipush 6, 2) := by decide +kernel
theorem dX10_goes_2 : decode cX10_goes 2 = .ok (.iload_n 1, 1) := by decide +kernel
theorem dX10_goes_3 : decode cX10_goes 3 = .ok (.imul, 1) := by decide +kernel
theorem dX10_goes_4 : decode cX10_goes 4 = .ok (.iload_n 2, 1) := by decide +kernel
theorem dX10_goes_5 : decode cX10_goes 5 = .ok (.iadd, 1) := by decide +kernel
theorem dX10_goes_6 : decode cX10_goes 6 = .ok (.istore_n 3, 1) := by decide +kernel
theorem dX10_goes_7 : decode cX10_goes 7 = .ok (.iload_n 3, 1) := by decide +kernel
theorem dX10_goes_8 : decode cX10_goes 8 = .ok (.bipush 6, 2) := by decide +kernel
theorem dX10_goes_10 : decode cX10_goes 10 = .ok (.iload_n 1, 1) := by decide +kernel
theorem dX10_goes_11 : decode cX10_goes 11 = .ok (.imul, 1) := by decide +kernel
theorem dX10_goes_12 : decode cX10_goes 12 = .ok (.aload_n 0, 1) := by decide +kernel
theorem dX10_goes_13 : decode cX10_goes 13 = .ok (.getfield 11, 3) := by decide +kernel
theorem dX10_goes_16 : decode cX10_goes 16 = .ok (.iload_n 1, 1) := by decide +kernel
theorem dX10_goes_17 : decode cX10_goes 17 = .ok (.iaload, 1) := by decide +kernel
theorem dX10_goes_18 : decode cX10_goes 18 = .ok (.iadd, 1) := by decide +kernel
theorem dX10_goes_19 : decode cX10_goes 19 = .ok (.iconst 1, 1) := by decide +kernel
theorem dX10_goes_20 : decode cX10_goes 20 = .ok (.isub, 1) := by decide +kernel
theorem dX10_goes_21 : decode cX10_goes 21 = .ok (.if_icmp .ge 37, 3) := by decide +kernel
theorem dX10_goes_24 : decode cX10_goes 24 = .ok (.aload_n 0, 1) := by decide +kernel
theorem dX10_goes_25 : decode cX10_goes 25 = .ok (.getfield 15, 3) := by decide +kernel
theorem dX10_goes_28 : decode cX10_goes 28 = .ok (.iload_n 3, 1) := by decide +kernel
theorem dX10_goes_29 : decode cX10_goes 29 = .ok (.aload_n 0, 1) := by decide +kernel
theorem dX10_goes_30 : decode cX10_goes 30 = .ok (.getfield 15, 3) := by decide +kernel
theorem dX10_goes_33 : decode cX10_goes 33 = .ok (.iload_n 3, 1) := by decide +kernel
theorem dX10_goes_34 : decode cX10_goes 34 = .ok (.iconst 1, 1) := by decide +kernel
theorem dX10_goes_35 : decode cX10_goes 35 = .ok (.iadd, 1) := by decide +kernel
theorem dX10_goes_36 : decode cX10_goes 36 = .ok (.iaload, 1) := by decide +kernel
theorem dX10_goes_37 : decode cX10_goes 37 = .ok (.iastore, 1) := by decide +kernel
theorem dX10_goes_38 : decode cX10_goes 38 = .ok (.aload_n 0, 1) := by decide +kernel
theorem dX10_goes_39 : decode cX10_goes 39 = .ok (.getfield 18, 3) := by decide +kernel
theorem dX10_goes_42 : decode cX10_goes 42 = .ok (.iload_n 3, 1) := by decide +kernel
theorem dX10_goes_43 : decode cX10_goes 43 = .ok (.aload_n 0, 1) := by decide +kernel
theorem dX10_goes_44 : decode cX10_goes 44 = .ok (.getfield 18, 3) := by decide +kernel
theorem dX10_goes_47 : decode cX10_goes 47 = .ok (.iload_n 3, 1) := by decide +kernel
theorem dX10_goes_48 : decode cX10_goes 48 = .ok (.iconst 1, 1) := by decide +kernel
theorem dX10_goes_49 : decode cX10_goes 49 = .ok (.iadd, 1) := by decide +kernel
theorem dX10_goes_50 : decode cX10_goes 50 = .ok (.iaload, 1) := by decide +kernel
theorem dX10_goes_51 : decode cX10_goes 51 = .ok (.iastore, 1) := by decide +kernel
theorem dX10_goes_52 : decode cX10_goes 52 = .ok (.iinc 3 1, 3) := by decide +kernel
theorem dX10_goes_55 : decode cX10_goes 55 = .ok (.goto (-48), 3) := by decide +kernel
theorem dX10_goes_58 : decode cX10_goes 58 = .ok (.aload_n 0, 1) := by decide +kernel
theorem dX10_goes_59 : decode cX10_goes 59 = .ok (.getfield 11, 3) := by decide +kernel
theorem dX10_goes_62 : decode cX10_goes 62 = .ok (.iload_n 1, 1) := by decide +kernel
theorem dX10_goes_63 : decode cX10_goes 63 = .ok (.dup2, 1) := by decide +kernel
theorem dX10_goes_64 : decode cX10_goes 64 = .ok (.iaload, 1) := by decide +kernel
theorem dX10_goes_65 : decode cX10_goes 65 = .ok (.iconst 1, 1) := by decide +kernel
theorem dX10_goes_66 : decode cX10_goes 66 = .ok (.isub, 1) := by decide +kernel
theorem dX10_goes_67 : decode cX10_goes 67 = .ok (.iastore, 1) := by decide +kernel
theorem dX10_goes_68 : decode cX10_goes 68 = .ok (.return_, 1) := by decide +kernel
theorem dX10_likens_0 : decode cX10_likens 0 = .ok (.aload_n 0, 1) := by decide +kernel
theorem dX10_likens_1 : decode cX10_likens 1 = .ok (.getfield 11, 3) := by decide +kernel
theorem dX10_likens_4 : decode cX10_likens 4 = .ok (.iload_n 2, 1) := by decide +kernel
theorem dX10_likens_5 : decode cX10_likens 5 = .ok (.aload_n 0, 1) := by decide +kernel
theorem dX10_likens_6 : decode cX10_likens 6 = .ok (.getfield 11, 3) := by decide +kernel
theorem dX10_likens_9 : decode cX10_likens 9 = .ok (.iload_n 1, 1) := by decide +kernel
theorem dX10_likens_10 : decode cX10_likens 10 = .ok (.iaload, 1) := by decide +kernel
theorem dX10_likens_11 : decode cX10_likens 11 = .ok (.iastore, 1) := by decide +kernel
theorem dX10_likens_12 : decode cX10_likens 12 = .ok (.iconst 0, 1) := by decide +kernel
theorem dX10_likens_13 : decode cX10_likens 13 = .ok (.istore_n 3, 1) := by decide +kernel
theorem dX10_likens_14 : decode cX10_likens 14 = .ok (.iload_n 3, 1) := by decide +kernel
theorem dX10_likens_15 : decode cX10_likens 15 = .ok (.bipush 6, 2) := by decide +kernel
theorem dX10_likens_17 : decode cX10_likens 17 = .ok (.if_icmp .ge 43, 3) := by decide +kernel
theorem dX10_likens_20 : decode cX10_likens 20 = .ok (.aload_n 0, 1) := by decide +kernel
theorem dX10_likens_21 : decode cX10_likens 21 = .ok (.getfield 15, 3) := by decide +kernel
theorem dX10_likens_24 : decode cX10_likens 24 = .ok (.bipush 6, 2) := by decide +kernel
theorem dX10_likens_26 : decode cX10_likens 26 = .ok (.iload_n 2, 1) := by decide +kernel
theorem dX10_likens_27 : decode cX10_likens 27 = .ok (.imul, 1) := by decide +kernel
theorem dX10_likens_28 : decode cX10_likens 28 = .ok (.iload_n 3, 1) := by decide +kernel
theorem dX10_likens_29 : decode cX10_likens 29 = .ok (.iadd, 1) := by decide +kernel
theorem dX10_likens_30 : decode cX10_likens 30 = .ok (.aload_n 0, 1) := by decide +kernel
theorem dX10_likens_31 : decode cX10_likens 31 = .ok (.iload_n 1, 1) := by decide +kernel
theorem dX10_likens_32 : decode cX10_likens 32 = .ok (.iload_n 3, 1) := by decide +kernel
theorem dX10_likens_33 : decode cX10_likens 33 = .ok (.invokevirtual 125, 3) := by decide +kernel
theorem dX10_likens_36 : decode cX10_likens 36 = .ok (.iastore, 1) := by decide +kernel
theorem dX10_likens_37 : decode cX10_likens 37 = .ok (.aload_n 0, 1) := by decide +kernel
theorem dX10_likens_38 : decode cX10_likens 38 = .ok (.getfield 18, 3) := by decide +kernel
theorem dX10_likens_41 : decode cX10_likens 41 = .ok (.bipush 6, 2) := by decide +kernel
theorem dX10_likens_43 : decode cX10_likens 43 = .ok (.iload_n 2, 1) := by decide +kernel
theorem dX10_likens_44 : decode cX10_likens 44 = .ok (.imul, 1) := by decide +kernel
theorem dX10_likens_45 : decode cX10_likens 45 = .ok (.iload_n 3, 1) := by decide +kernel
theorem dX10_likens_46 : decode cX10_likens 46 = .ok (.iadd, 1) := by decide +kernel
theorem dX10_likens_47 : decode cX10_likens 47 = .ok (.aload_n 0, 1) := by decide +kernel
theorem dX10_likens_48 : decode cX10_likens 48 = .ok (.iload_n 1, 1) := by decide +kernel
theorem dX10_likens_49 : decode cX10_likens 49 = .ok (.iload_n 3, 1) := by decide +kernel
theorem dX10_likens_50 : decode cX10_likens 50 = .ok (.invokevirtual 129, 3) := by decide +kernel
theorem dX10_likens_53 : decode cX10_likens 53 = .ok (.iastore, 1) := by decide +kernel
theorem dX10_likens_54 : decode cX10_likens 54 = .ok (.iinc 3 1, 3) := by decide +kernel
theorem dX10_likens_57 : decode cX10_likens 57 = .ok (.goto (-43), 3) := by decide +kernel
theorem dX10_likens_60 : decode cX10_likens 60 = .ok (.return_, 1) := by decide +kernel
theorem dX10_deed_0 : decode cX10_deed 0 = .ok (.aload_n 0, 1) := by decide +kernel
theorem dX10_deed_1 : decode cX10_deed 1 = .ok (.getfield 132, 3) := by decide +kernel
theorem dX10_deed_4 : decode cX10_deed 4 = .ok (.bipush 10, 2) := by decide +kernel
theorem dX10_deed_6 : decode cX10_deed 6 = .ok (.if_icmp .ne 100, 3) := by decide +kernel
theorem dX10_deed_9 : decode cX10_deed 9 = .ok (.iconst 1, 1) := by decide +kernel
theorem dX10_deed_10 : decode cX10_deed 10 = .ok (.istore_n 2, 1) := by decide +kernel
theorem dX10_deed_11 : decode cX10_deed 11 = .ok (.iload_n 2, 1) := by decide +kernel
theorem dX10_deed_12 : decode cX10_deed 12 = .ok (.bipush 10, 2) := by decide +kernel
theorem dX10_deed_14 : decode cX10_deed 14 = .ok (.if_icmp .ge 37, 3) := by decide +kernel
theorem dX10_deed_17 : decode cX10_deed 17 = .ok (.aload_n 0, 1) := by decide +kernel
theorem dX10_deed_18 : decode cX10_deed 18 = .ok (.getfield 21, 3) := by decide +kernel
theorem dX10_deed_21 : decode cX10_deed 21 = .ok (.iload_n 2, 1) := by decide +kernel
theorem dX10_deed_22 : decode cX10_deed 22 = .ok (.iconst 1, 1) := by decide +kernel
theorem dX10_deed_23 : decode cX10_deed 23 = .ok (.isub, 1) := by decide +kernel
theorem dX10_deed_24 : decode cX10_deed 24 = .ok (.aload_n 0, 1) := by decide +kernel
theorem dX10_deed_25 : decode cX10_deed 25 = .ok (.getfield 21, 3) := by decide +kernel
theorem dX10_deed_28 : decode cX10_deed 28 = .ok (.iload_n 2, 1) := by decide +kernel
theorem dX10_deed_29 : decode cX10_deed 29 = .ok (.iaload, 1) := by decide +kernel
theorem dX10_deed_30 : decode cX10_deed 30 = .ok (.iastore, 1) := by decide +kernel
theorem dX10_deed_31 : decode cX10_deed 31 = .ok (.aload_n 0, 1) := by decide +kernel
theorem dX10_deed_32 : decode cX10_deed 32 = .ok (.getfield 24, 3) := by decide +kernel
theorem dX10_deed_35 : decode cX10_deed 35 = .ok (.iload_n 2, 1) := by decide +kernel
theorem dX10_deed_36 : decode cX10_deed 36 = .ok (.iconst 1, 1) := by decide +kernel
theorem dX10_deed_37 : decode cX10_deed 37 = .ok (.isub, 1) := by decide +kernel
theorem dX10_deed_38 : decode cX10_deed 38 = .ok (.aload_n 0, 1) := by decide +kernel
theorem dX10_deed_39 : decode cX10_deed 39 = .ok (.getfield 24, 3) := by decide +kernel
theorem dX10_deed_42 : decode cX10_deed 42 = .ok (.iload_n 2, 1) := by decide +kernel
theorem dX10_deed_43 : decode cX10_deed 43 = .ok (.iaload, 1) := by decide +kernel
theorem dX10_deed_44 : decode cX10_deed 44 = .ok (.iastore, 1) := by decide +kernel
theorem dX10_deed_45 : decode cX10_deed 45 = .ok (.iinc 2 1, 3) := by decide +kernel
theorem dX10_deed_48 : decode cX10_deed 48 = .ok (.goto (-37), 3) := by decide +kernel
theorem dX10_deed_51 : decode cX10_deed 51 = .ok (.bipush 6, 2) := by decide +kernel
theorem dX10_deed_53 : decode cX10_deed 53 = .ok (.istore_n 2, 1) := by decide +kernel
theorem dX10_deed_54 : decode cX10_deed 54 = .ok (.iload_n 2, 1) := by decide +kernel
theorem dX10_deed_55 : decode cX10_deed 55 = .ok (.bipush 60, 2) := by decide +kernel
theorem dX10_deed_57 : decode cX10_deed 57 = .ok (.if_icmp .ge 39, 3) := by decide +kernel
theorem dX10_deed_60 : decode cX10_deed 60 = .ok (.aload_n 0, 1) := by decide +kernel
theorem dX10_deed_61 : decode cX10_deed 61 = .ok (.getfield 27, 3) := by decide +kernel
theorem dX10_deed_64 : decode cX10_deed 64 = .ok (.iload_n 2, 1) := by decide +kernel
theorem dX10_deed_65 : decode cX10_deed 65 = .ok (.bipush 6, 2) := by decide +kernel
theorem dX10_deed_67 : decode cX10_deed 67 = .ok (.isub, 1) := by decide +kernel
theorem dX10_deed_68 : decode cX10_deed 68 = .ok (.aload_n 0, 1) := by decide +kernel
theorem dX10_deed_69 : decode cX10_deed 69 = .ok (.getfield 27, 3) := by decide +kernel
theorem dX10_deed_72 : decode cX10_deed 72 = .ok (.iload_n 2, 1) := by decide +kernel
theorem dX10_deed_73 : decode cX10_deed 73 = .ok (.iaload, 1) := by decide +kernel
theorem dX10_deed_74 : decode cX10_deed 74 = .ok (.iastore, 1) := by decide +kernel
theorem dX10_deed_75 : decode cX10_deed 75 = .ok (.aload_n 0, 1) := by decide +kernel
theorem dX10_deed_76 : decode cX10_deed 76 = .ok (.getfield 30, 3) := by decide +kernel
theorem dX10_deed_79 : decode cX10_deed 79 = .ok (.iload_n 2, 1) := by decide +kernel
theorem dX10_deed_80 : decode cX10_deed 80 = .ok (.bipush 6, 2) := by decide +kernel
theorem dX10_deed_82 : decode cX10_deed 82 = .ok (.isub, 1) := by decide +kernel
theorem dX10_deed_83 : decode cX10_deed 83 = .ok (.aload_n 0, 1) := by decide +kernel
theorem dX10_deed_84 : decode cX10_deed 84 = .ok (.getfield 30, 3) := by decide +kernel
theorem dX10_deed_87 : decode cX10_deed 87 = .ok (.iload_n 2, 1) := by decide +kernel
theorem dX10_deed_88 : decode cX10_deed 88 = .ok (.iaload, 1) := by decide +kernel
theorem dX10_deed_89 : decode cX10_deed 89 = .ok (.iastore, 1) := by decide +kernel
theorem dX10_deed_90 : decode cX10_deed 90 = .ok (.iinc 2 1, 3) := by decide +kernel
theorem dX10_deed_93 : decode cX10_deed 93 = .ok (.goto (-39), 3) := by decide +kernel
theorem dX10_deed_96 : decode cX10_deed 96 = .ok (.aload_n 0, 1) := by decide +kernel
theorem dX10_deed_97 : decode cX10_deed 97 = .ok (.dup, 1) := by decide +kernel
theorem dX10_deed_98 : decode cX10_deed 98 = .ok (.getfield 132, 3) := by decide +kernel
theorem dX10_deed_101 : decode cX10_deed 101 = .ok (.iconst 1, 1) := by decide +kernel
theorem dX10_deed_102 : decode cX10_deed 102 = .ok (.isub, 1) := by decide +kernel
theorem dX10_deed_103 : decode cX10_deed 103 = .ok (.putfield 132, 3) := by decide +kernel
theorem dX10_deed_106 : decode cX10_deed 106 = .ok (.aload_n 0, 1) := by decide +kernel
theorem dX10_deed_107 : decode cX10_deed 107 = .ok (.getfield 21, 3) := by decide +kernel
theorem dX10_deed_110 : decode cX10_deed 110 = .ok (.aload_n 0, 1) := by decide +kernel
theorem dX10_deed_111 : decode cX10_deed 111 = .ok (.getfield 132, 3) := by decide +kernel
theorem dX10_deed_114 : decode cX10_deed 114 = .ok (.iload_n 1, 1) := by decide +kernel
theorem dX10_deed_115 : decode cX10_deed 115 = .ok (.iastore, 1) := by decide +kernel
theorem dX10_deed_116 : decode cX10_deed 116 = .ok (.aload_n 0, 1) := by decide +kernel
theorem dX10_deed_117 : decode cX10_deed 117 = .ok (.getfield 24, 3) := by decide +kernel
theorem dX10_deed_120 : decode cX10_deed 120 = .ok (.aload_n 0, 1) := by decide +kernel
theorem dX10_deed_121 : decode cX10_deed 121 = .ok (.getfield 132, 3) := by decide +kernel
theorem dX10_deed_124 : decode cX10_deed 124 = .ok (.aload_n 0, 1) := by decide +kernel
theorem dX10_deed_125 : decode cX10_deed 125 = .ok (.getfield 11, 3) := by decide +kernel
theorem dX10_deed_128 : decode cX10_deed 128 = .ok (.iload_n 1, 1) := by decide +kernel
theorem dX10_deed_129 : decode cX10_deed 129 = .ok (.iaload, 1) := by decide +kernel
theorem dX10_deed_130 : decode cX10_deed 130 = .ok (.iastore, 1) := by decide +kernel
theorem dX10_deed_131 : decode cX10_deed 131 = .ok (.iconst 0, 1) := by decide +kernel
theorem dX10_deed_132 : decode cX10_deed 132 = .ok (.istore_n 2, 1) := by decide +kernel
theorem dX10_deed_133 : decode cX10_deed 133 = .ok (.iload_n 2, 1) := by decide +kernel
theorem dX10_deed_134 : decode cX10_deed 134 = .ok (.bipush 6, 2) := by decide +kernel
theorem dX10_deed_136 : decode cX10_deed 136 = .ok (.if_icmp .ge 49, 3) := by decide +kernel
theorem dX10_deed_139 : decode cX10_deed 139 = .ok (.aload_n 0, 1) := by decide +kernel
theorem dX10_deed_140 : decode cX10_deed 140 = .ok (.getfield 27, 3) := by decide +kernel
theorem dX10_deed_143 : decode cX10_deed 143 = .ok (.bipush 6, 2) := by decide +kernel
theorem dX10_deed_145 : decode cX10_deed 145 = .ok (.aload_n 0, 1) := by decide +kernel
theorem dX10_deed_146 : decode cX10_deed 146 = .ok (.getfield 132, 3) := by decide +kernel
theorem dX10_deed_149 : decode cX10_deed 149 = .ok (.imul, 1) := by decide +kernel
theorem dX10_deed_150 : decode cX10_deed 150 = .ok (.iload_n 2, 1) := by decide +kernel
theorem dX10_deed_151 : decode cX10_deed 151 = .ok (.iadd, 1) := by decide +kernel
theorem dX10_deed_152 : decode cX10_deed 152 = .ok (.aload_n 0, 1) := by decide +kernel
theorem dX10_deed_153 : decode cX10_deed 153 = .ok (.iload_n 1, 1) := by decide +kernel
theorem dX10_deed_154 : decode cX10_deed 154 = .ok (.iload_n 2, 1) := by decide +kernel
theorem dX10_deed_155 : decode cX10_deed 155 = .ok (.invokevirtual 125, 3) := by decide +kernel
theorem dX10_deed_158 : decode cX10_deed 158 = .ok (.iastore, 1) := by decide +kernel
theorem dX10_deed_159 : decode cX10_deed 159 = .ok (.aload_n 0, 1) := by decide +kernel
theorem dX10_deed_160 : decode cX10_deed 160 = .ok (.getfield 30, 3) := by decide +kernel
theorem dX10_deed_163 : decode cX10_deed 163 = .ok (.bipush 6, 2) := by decide +kernel
theorem dX10_deed_165 : decode cX10_deed 165 = .ok (.aload_n 0, 1) := by decide +kernel
theorem dX10_deed_166 : decode cX10_deed 166 = .ok (.getfield 132, 3) := by decide +kernel
theorem dX10_deed_169 : decode cX10_deed 169 = .ok (.imul, 1) := by decide +kernel
theorem dX10_deed_170 : decode cX10_deed 170 = .ok (.iload_n 2, 1) := by decide +kernel
theorem dX10_deed_171 : decode cX10_deed 171 = .ok (.iadd, 1) := by decide +kernel
theorem dX10_deed_172 : decode cX10_deed 172 = .ok (.aload_n 0, 1) := by decide +kernel
theorem dX10_deed_173 : decode cX10_deed 173 = .ok (.iload_n 1, 1) := by decide +kernel
theorem dX10_deed_174 : decode cX10_deed 174 = .ok (.iload_n 2, 1) := by decide +kernel
theorem dX10_deed_175 : decode cX10_deed 175 = .ok (.invokevirtual 129, 3) := by decide +kernel
theorem dX10_deed_178 : decode cX10_deed 178 = .ok (.iastore, 1) := by decide +kernel
theorem dX10_deed_179 : decode cX10_deed 179 = .ok (.iinc 2 1, 3) := by decide +kernel
theorem dX10_deed_182 : decode cX10_deed 182 = .ok (.goto (-49), 3) := by decide +kernel
theorem dX10_deed_185 : decode cX10_deed 185 = .ok (.aload_n 0, 1) := by decide +kernel
theorem dX10_deed_186 : decode cX10_deed 186 = .ok (.dup, 1) := by decide +kernel
theorem dX10_deed_187 : decode cX10_deed 187 = .ok (.getfield 132, 3) := by decide +kernel
theorem dX10_deed_190 : decode cX10_deed 190 = .ok (.iconst 1, 1) := by decide +kernel
theorem dX10_deed_191 : decode cX10_deed 191 = .ok (.iadd, 1) := by decide +kernel
theorem dX10_deed_192 : decode cX10_deed 192 = .ok (.putfield 132, 3) := by decide +kernel
theorem dX10_deed_195 : decode cX10_deed 195 = .ok (.return_, 1) := by decide +kernel
theorem dX10_generate_0 : decode cX10_generate 0 = .ok (.iload_n 1, 1) := by decide +kernel
theorem dX10_generate_1 : decode cX10_generate 1 = .ok (.invokestatic 136, 3) := by decide +kernel
theorem dX10_generate_4 : decode cX10_generate 4 = .ok (.ifCond .ne 5, 3) := by decide +kernel
theorem dX10_generate_7 : decode cX10_generate 7 = .ok (.iconst (-1), 1) := by decide +kernel
theorem dX10_generate_8 : decode cX10_generate 8 = .ok (.ireturn, 1) := by decide +kernel
theorem dX10_generate_9 : decode cX10_generate 9 = .ok (.iload_n 2, 1) := by decide +kernel
theorem dX10_generate_10 : decode cX10_generate 10 = .ok (.invokestatic 140, 3) := by decide +kernel
theorem dX10_generate_13 : decode cX10_generate 13 = .ok (.ifCond .eq 10, 3) := by decide +kernel
theorem dX10_generate_16 : decode cX10_generate 16 = .ok (.iload_n 3, 1) := by decide +kernel
theorem dX10_generate_17 : decode cX10_generate 17 = .ok (.invokestatic 140, 3) := by decide +kernel
theorem dX10_generate_20 : decode cX10_generate 20 = .ok (.ifCond .ne 6, 3) := by decide +kernel
theorem dX10_generate_23 : decode cX10_generate 23 = .ok (.bipush (-2), 2) := by decide +kernel
theorem dX10_generate_25 : decode cX10_generate 25 = .ok (.ireturn, 1) := by decide +kernel
theorem dX10_generate_26 : decode cX10_generate 26 = .ok (.aload_n 0, 1) := by decide +kernel
theorem dX10_generate_27 : decode cX10_generate 27 = .ok (.iload_n 1, 1) := by decide +kernel
theorem dX10_generate_28 : decode cX10_generate 28 = .ok (.iload_n 2, 1) := by decide +kernel
theorem dX10_generate_29 : decode cX10_generate 29 = .ok (.iload_n 3, 1) := by decide +kernel
theorem dX10_generate_30 : decode cX10_generate 30 = .ok (.invokevirtual 143, 3) := by decide +kernel
theorem dX10_generate_33 : decode cX10_generate 33 = .ok (.iconst (-1), 1) := by decide +kernel
theorem dX10_generate_34 : decode cX10_generate 34 = .ok (.if_icmp .eq 6, 3) := by decide +kernel
theorem dX10_generate_37 : decode cX10_generate 37 = .ok (.bipush (-3), 2) := by decide +kernel
theorem dX10_generate_39 : decode cX10_generate 39 = .ok (.ireturn, 1) := by decide +kernel
theorem dX10_generate_40 : decode cX10_generate 40 = .ok (.aload_n 0, 1) := by decide +kernel
theorem dX10_generate_41 : decode cX10_generate 41 = .ok (.getfield 11, 3) := by decide +kernel
theorem dX10_generate_44 : decode cX10_generate 44 = .ok (.iload_n 1, 1) := by decide +kernel
theorem dX10_generate_45 : decode cX10_generate 45 = .ok (.iaload, 1) := by decide +kernel
theorem dX10_generate_46 : decode cX10_generate 46 = .ok (.bipush 6, 2) := by decide +kernel
theorem dX10_generate_48 : decode cX10_generate 48 = .ok (.if_icmp .ne 6, 3) := by decide +kernel
theorem dX10_generate_51 : decode cX10_generate 51 = .ok (.bipush (-4), 2) := by decide +kernel
theorem dX10_generate_53 : decode cX10_generate 53 = .ok (.ireturn, 1) := by decide +kernel
theorem dX10_generate_54 : decode cX10_generate 54 = .ok (.aload_n 0, 1) := by decide +kernel
theorem dX10_generate_55 : decode cX10_generate 55 = .ok (.iload_n 1, 1) := by decide +kernel
theorem dX10_generate_56 : decode cX10_generate 56 = .ok (.invokevirtual 147, 3) := by decide +kernel
theorem dX10_generate_59 : decode cX10_generate 59 = .ok (.aload_n 0, 1) := by decide +kernel
theorem dX10_generate_60 : decode cX10_generate 60 = .ok (.iload_n 1, 1) := by decide +kernel
theorem dX10_generate_61 : decode cX10_generate 61 = .ok (.iload_n 2, 1) := by decide +kernel
theorem dX10_generate_62 : decode cX10_generate 62 = .ok (.iload_n 3, 1) := by decide +kernel
theorem dX10_generate_63 : decode cX10_generate 63 = .ok (.invokevirtual 151, 3) := by decide +kernel
theorem dX10_generate_66 : decode cX10_generate 66 = .ok (.aload_n 0, 1) := by decide +kernel
theorem dX10_generate_67 : decode cX10_generate 67 = .ok (.getfield 11, 3) := by decide +kernel
theorem dX10_generate_70 : decode cX10_generate 70 = .ok (.iload_n 1, 1) := by decide +kernel
theorem dX10_generate_71 : decode cX10_generate 71 = .ok (.iaload, 1) := by decide +kernel
theorem dX10_generate_72 : decode cX10_generate 72 = .ok (.ireturn, 1) := by decide +kernel
theorem dX10_isGenerator_0 : decode cX10_isGenerator 0 = .ok (.iload_n 1, 1) := by decide +kernel
theorem dX10_isGenerator_1 : decode cX10_isGenerator 1 = .ok (.invokestatic 136, 3) := by decide +kernel
theorem dX10_isGenerator_4 : decode cX10_isGenerator 4 = .ok (.ifCond .eq 25, 3) := by decide +kernel
theorem dX10_isGenerator_7 : decode cX10_isGenerator 7 = .ok (.iload_n 2, 1) := by decide +kernel
theorem dX10_isGenerator_8 : decode cX10_isGenerator 8 = .ok (.i2l, 1) := by decide +kernel
theorem dX10_isGenerator_9 : decode cX10_isGenerator 9 = .ok (.lconst 0, 1) := by decide +kernel
theorem dX10_isGenerator_10 : decode cX10_isGenerator 10 = .ok (.aload_n 0, 1) := by decide +kernel
theorem dX10_isGenerator_11 : decode cX10_isGenerator 11 = .ok (.getfield 11, 3) := by decide +kernel
theorem dX10_isGenerator_14 : decode cX10_isGenerator 14 = .ok (.iload_n 1, 1) := by decide +kernel
theorem dX10_isGenerator_15 : decode cX10_isGenerator 15 = .ok (.iaload, 1) := by decide +kernel
theorem dX10_isGenerator_16 : decode cX10_isGenerator 16 = .ok (.iconst 1, 1) := by decide +kernel
theorem dX10_isGenerator_17 : decode cX10_isGenerator 17 = .ok (.isub, 1) := by decide +kernel
theorem dX10_isGenerator_18 : decode cX10_isGenerator 18 = .ok (.i2l, 1) := by decide +kernel
theorem dX10_isGenerator_19 : decode cX10_isGenerator 19 = .ok (.invokestatic 115, 3) := by decide +kernel
theorem dX10_isGenerator_22 : decode cX10_isGenerator 22 = .ok (.ifCond .eq 7, 3) := by decide +kernel
theorem dX10_isGenerator_25 : decode cX10_isGenerator 25 = .ok (.iconst 1, 1) := by decide +kernel
theorem dX10_isGenerator_26 : decode cX10_isGenerator 26 = .ok (.goto 4, 3) := by decide +kernel
theorem dX10_isGenerator_29 : decode cX10_isGenerator 29 = .ok (.iconst 0, 1) := by decide +kernel
theorem dX10_isGenerator_30 : decode cX10_isGenerator 30 = .ok (.ireturn, 1) := by decide +kernel
theorem dX10_drop_0 : decode cX10_drop 0 = .ok (.aload_n 0, 1) := by decide +kernel
theorem dX10_drop_1 : decode cX10_drop 1 = .ok (.iload_n 1, 1) := by decide +kernel
theorem dX10_drop_2 : decode cX10_drop 2 = .ok (.iload_n 2, 1) := by decide +kernel
theorem dX10_drop_3 : decode cX10_drop 3 = .ok (.invokevirtual 155, 3) := by decide +kernel
theorem dX10_drop_6 : decode cX10_drop 6 = .ok (.ifCond .ne 5, 3) := by decide +kernel
theorem dX10_drop_9 : decode cX10_drop 9 = .ok (.iconst (-1), 1) := by decide +kernel
theorem dX10_drop_10 : decode cX10_drop 10 = .ok (.ireturn, 1) := by decide +kernel
theorem dX10_drop_11 : decode cX10_drop 11 = .ok (.aload_n 0, 1) := by decide +kernel
theorem dX10_drop_12 : decode cX10_drop 12 = .ok (.iload_n 1, 1) := by decide +kernel
theorem dX10_drop_13 : decode cX10_drop 13 = .ok (.invokevirtual 147, 3) := by decide +kernel
theorem dX10_drop_16 : decode cX10_drop 16 = .ok (.aload_n 0, 1) := by decide +kernel
theorem dX10_drop_17 : decode cX10_drop 17 = .ok (.iload_n 1, 1) := by decide +kernel
theorem dX10_drop_18 : decode cX10_drop 18 = .ok (.iload_n 2, 1) := by decide +kernel
theorem dX10_drop_19 : decode cX10_drop 19 = .ok (.invokevirtual 159, 3) := by decide +kernel
theorem dX10_drop_22 : decode cX10_drop 22 = .ok (.aload_n 0, 1) := by decide +kernel
theorem dX10_drop_23 : decode cX10_drop 23 = .ok (.getfield 11, 3) := by decide +kernel
theorem dX10_drop_26 : decode cX10_drop 26 = .ok (.iload_n 1, 1) := by decide +kernel
theorem dX10_drop_27 : decode cX10_drop 27 = .ok (.iaload, 1) := by decide +kernel
theorem dX10_drop_28 : decode cX10_drop 28 = .ok (.ireturn, 1) := by decide +kernel
theorem dX10_clear_0 : decode cX10_clear 0 = .ok (.iload_n 1, 1) := by decide +kernel
theorem dX10_clear_1 : decode cX10_clear 1 = .ok (.invokestatic 136, 3) := by decide +kernel
theorem dX10_clear_4 : decode cX10_clear 4 = .ok (.ifCond .ne 5, 3) := by decide +kernel
theorem dX10_clear_7 : decode cX10_clear 7 = .ok (.iconst (-1), 1) := by decide +kernel
theorem dX10_clear_8 : decode cX10_clear 8 = .ok (.ireturn, 1) := by decide +kernel
theorem dX10_clear_9 : decode cX10_clear 9 = .ok (.aload_n 0, 1) := by decide +kernel
theorem dX10_clear_10 : decode cX10_clear 10 = .ok (.getfield 11, 3) := by decide +kernel
theorem dX10_clear_13 : decode cX10_clear 13 = .ok (.iload_n 1, 1) := by decide +kernel
theorem dX10_clear_14 : decode cX10_clear 14 = .ok (.iaload, 1) := by decide +kernel
theorem dX10_clear_15 : decode cX10_clear 15 = .ok (.ifCond .ne 6, 3) := by decide +kernel
theorem dX10_clear_18 : decode cX10_clear 18 = .ok (.bipush (-3), 2) := by decide +kernel
theorem dX10_clear_20 : decode cX10_clear 20 = .ok (.ireturn, 1) := by decide +kernel
theorem dX10_clear_21 : decode cX10_clear 21 = .ok (.aload_n 0, 1) := by decide +kernel
theorem dX10_clear_22 : decode cX10_clear 22 = .ok (.iload_n 1, 1) := by decide +kernel
theorem dX10_clear_23 : decode cX10_clear 23 = .ok (.invokevirtual 147, 3) := by decide +kernel
theorem dX10_clear_26 : decode cX10_clear 26 = .ok (.aload_n 0, 1) := by decide +kernel
theorem dX10_clear_27 : decode cX10_clear 27 = .ok (.getfield 11, 3) := by decide +kernel
theorem dX10_clear_30 : decode cX10_clear 30 = .ok (.iload_n 1, 1) := by decide +kernel
theorem dX10_clear_31 : decode cX10_clear 31 = .ok (.iaload, 1) := by decide +kernel
theorem dX10_clear_32 : decode cX10_clear 32 = .ok (.istore_n 2, 1) := by decide +kernel
theorem dX10_clear_33 : decode cX10_clear 33 = .ok (.aload_n 0, 1) := by decide +kernel
theorem dX10_clear_34 : decode cX10_clear 34 = .ok (.getfield 11, 3) := by decide +kernel
theorem dX10_clear_37 : decode cX10_clear 37 = .ok (.iload_n 1, 1) := by decide +kernel
theorem dX10_clear_38 : decode cX10_clear 38 = .ok (.iconst 0, 1) := by decide +kernel
theorem dX10_clear_39 : decode cX10_clear 39 = .ok (.iastore, 1) := by decide +kernel
theorem dX10_clear_40 : decode cX10_clear 40 = .ok (.iload_n 2, 1) := by decide +kernel
theorem dX10_clear_41 : decode cX10_clear 41 = .ok (.ireturn, 1) := by decide +kernel
theorem dX10_merge_0 : decode cX10_merge 0 = .ok (.iload_n 1, 1) := by decide +kernel
theorem dX10_merge_1 : decode cX10_merge 1 = .ok (.invokestatic 136, 3) := by decide +kernel
theorem dX10_merge_4 : decode cX10_merge 4 = .ok (.ifCond .ne 5, 3) := by decide +kernel
theorem dX10_merge_7 : decode cX10_merge 7 = .ok (.iconst (-1), 1) := by decide +kernel
theorem dX10_merge_8 : decode cX10_merge 8 = .ok (.ireturn, 1) := by decide +kernel
theorem dX10_merge_9 : decode cX10_merge 9 = .ok (.iconst 1, 1) := by decide +kernel
theorem dX10_merge_10 : decode cX10_merge 10 = .ok (.iload_n 1, 1) := by decide +kernel
theorem dX10_merge_11 : decode cX10_merge 11 = .ok (.isub, 1) := by decide +kernel
theorem dX10_merge_12 : decode cX10_merge 12 = .ok (.istore_n 2, 1) := by decide +kernel
theorem dX10_merge_13 : decode cX10_merge 13 = .ok (.iconst 0, 1) := by decide +kernel
theorem dX10_merge_14 : decode cX10_merge 14 = .ok (.istore_n 3, 1) := by decide +kernel
theorem dX10_merge_15 : decode cX10_merge 15 = .ok (.iconst 0, 1) := by decide +kernel
theorem dX10_merge_16 : decode cX10_merge 16 = .ok (.istore 4, 2) := by decide +kernel
theorem dX10_merge_18 : decode cX10_merge 18 = .ok (.iload 4, 2) := by decide +kernel
theorem dX10_merge_20 : decode cX10_merge 20 = .ok (.aload_n 0, 1) := by decide +kernel
theorem dX10_merge_21 : decode cX10_merge 21 = .ok (.getfield 11, 3) := by decide +kernel
theorem dX10_merge_24 : decode cX10_merge 24 = .ok (.iload_n 2, 1) := by decide +kernel
theorem dX10_merge_25 : decode cX10_merge 25 = .ok (.iaload, 1) := by decide +kernel
theorem dX10_merge_26 : decode cX10_merge 26 = .ok (.if_icmp .ge 40, 3) := by decide +kernel
theorem dX10_merge_29 : decode cX10_merge 29 = .ok (.iload_n 3, 1) := by decide +kernel
theorem dX10_merge_30 : decode cX10_merge 30 = .ok (.aload_n 0, 1) := by decide +kernel
theorem dX10_merge_31 : decode cX10_merge 31 = .ok (.iload_n 1, 1) := by decide +kernel
theorem dX10_merge_32 : decode cX10_merge 32 = .ok (.aload_n 0, 1) := by decide +kernel
theorem dX10_merge_33 : decode cX10_merge 33 = .ok (.iload_n 2, 1) := by decide +kernel
theorem dX10_merge_34 : decode cX10_merge 34 = .ok (.iload 4, 2) := by decide +kernel
theorem dX10_merge_36 : decode cX10_merge 36 = .ok (.invokevirtual 125, 3) := by decide +kernel
theorem dX10_merge_39 : decode cX10_merge 39 = .ok (.aload_n 0, 1) := by decide +kernel
theorem dX10_merge_40 : decode cX10_merge 40 = .ok (.iload_n 2, 1) := by decide +kernel
theorem dX10_merge_41 : decode cX10_merge 41 = .ok (.iload 4, 2) := by decide +kernel
theorem dX10_merge_43 : decode cX10_merge 43 = .ok (.invokevirtual 129, 3) := by decide +kernel
theorem dX10_merge_46 : decode cX10_merge 46 = .ok (.invokevirtual 143, 3) := by decide +kernel
theorem dX10_merge_49 : decode cX10_merge 49 = .ok (.iconst (-1), 1) := by decide +kernel
theorem dX10_merge_50 : decode cX10_merge 50 = .ok (.if_icmp .ne 7, 3) := by decide +kernel
theorem dX10_merge_53 : decode cX10_merge 53 = .ok (.iconst 1, 1) := by decide +kernel
theorem dX10_merge_54 : decode cX10_merge 54 = .ok (.goto 4, 3) := by decide +kernel
theorem dX10_merge_57 : decode cX10_merge 57 = .ok (.iconst 0, 1) := by decide +kernel
theorem dX10_merge_58 : decode cX10_merge 58 = .ok (.iadd, 1) := by decide +kernel
theorem dX10_merge_59 : decode cX10_merge 59 = .ok (.istore_n 3, 1) := by decide +kernel
theorem dX10_merge_60 : decode cX10_merge 60 = .ok (.iinc 4 1, 3) := by decide +kernel
theorem dX10_merge_63 : decode cX10_merge 63 = .ok (.goto (-45), 3) := by decide +kernel
theorem dX10_merge_66 : decode cX10_merge 66 = .ok (.aload_n 0, 1) := by decide +kernel
theorem dX10_merge_67 : decode cX10_merge 67 = .ok (.getfield 11, 3) := by decide +kernel
theorem dX10_merge_70 : decode cX10_merge 70 = .ok (.iload_n 1, 1) := by decide +kernel
theorem dX10_merge_71 : decode cX10_merge 71 = .ok (.iaload, 1) := by decide +kernel
theorem dX10_merge_72 : decode cX10_merge 72 = .ok (.iload_n 3, 1) := by decide +kernel
theorem dX10_merge_73 : decode cX10_merge 73 = .ok (.iadd, 1) := by decide +kernel
theorem dX10_merge_74 : decode cX10_merge 74 = .ok (.bipush 6, 2) := by decide +kernel
theorem dX10_merge_76 : decode cX10_merge 76 = .ok (.if_icmp .le 6, 3) := by decide +kernel
theorem dX10_merge_79 : decode cX10_merge 79 = .ok (.bipush (-4), 2) := by decide +kernel
theorem dX10_merge_81 : decode cX10_merge 81 = .ok (.ireturn, 1) := by decide +kernel
theorem dX10_merge_82 : decode cX10_merge 82 = .ok (.aload_n 0, 1) := by decide +kernel
theorem dX10_merge_83 : decode cX10_merge 83 = .ok (.iload_n 1, 1) := by decide +kernel
theorem dX10_merge_84 : decode cX10_merge 84 = .ok (.invokevirtual 147, 3) := by decide +kernel
theorem dX10_merge_87 : decode cX10_merge 87 = .ok (.iconst 0, 1) := by decide +kernel
theorem dX10_merge_88 : decode cX10_merge 88 = .ok (.istore 4, 2) := by decide +kernel
theorem dX10_merge_90 : decode cX10_merge 90 = .ok (.iload 4, 2) := by decide +kernel
theorem dX10_merge_92 : decode cX10_merge 92 = .ok (.aload_n 0, 1) := by decide +kernel
theorem dX10_merge_93 : decode cX10_merge 93 = .ok (.getfield 11, 3) := by decide +kernel
theorem dX10_merge_96 : decode cX10_merge 96 = .ok (.iload_n 2, 1) := by decide +kernel
theorem dX10_merge_97 : decode cX10_merge 97 = .ok (.iaload, 1) := by decide +kernel
theorem dX10_merge_98 : decode cX10_merge 98 = .ok (.if_icmp .ge 51, 3) := by decide +kernel
theorem dX10_merge_101 : decode cX10_merge 101 = .ok (.aload_n 0, 1) := by decide +kernel
theorem dX10_merge_102 : decode cX10_merge 102 = .ok (.iload_n 1, 1) := by decide +kernel
theorem dX10_merge_103 : decode cX10_merge 103 = .ok (.aload_n 0, 1) := by decide +kernel
theorem dX10_merge_104 : decode cX10_merge 104 = .ok (.iload_n 2, 1) := by decide +kernel
theorem dX10_merge_105 : decode cX10_merge 105 = .ok (.iload 4, 2) := by decide +kernel
theorem dX10_merge_107 : decode cX10_merge 107 = .ok (.invokevirtual 125, 3) := by decide +kernel
theorem dX10_merge_110 : decode cX10_merge 110 = .ok (.aload_n 0, 1) := by decide +kernel
theorem dX10_merge_111 : decode cX10_merge 111 = .ok (.iload_n 2, 1) := by decide +kernel
theorem dX10_merge_112 : decode cX10_merge 112 = .ok (.iload 4, 2) := by decide +kernel
theorem dX10_merge_114 : decode cX10_merge 114 = .ok (.invokevirtual 129, 3) := by decide +kernel
theorem dX10_merge_117 : decode cX10_merge 117 = .ok (.invokevirtual 143, 3) := by decide +kernel
theorem dX10_merge_120 : decode cX10_merge 120 = .ok (.iconst (-1), 1) := by decide +kernel
theorem dX10_merge_121 : decode cX10_merge 121 = .ok (.if_icmp .ne 22, 3) := by decide +kernel
theorem dX10_merge_124 : decode cX10_merge 124 = .ok (.aload_n 0, 1) := by decide +kernel
theorem dX10_merge_125 : decode cX10_merge 125 = .ok (.iload_n 1, 1) := by decide +kernel
theorem dX10_merge_126 : decode cX10_merge 126 = .ok (.aload_n 0, 1) := by decide +kernel
theorem dX10_merge_127 : decode cX10_merge 127 = .ok (.iload_n 2, 1) := by decide +kernel
theorem dX10_merge_128 : decode cX10_merge 128 = .ok (.iload 4, 2) := by decide +kernel
theorem dX10_merge_130 : decode cX10_merge 130 = .ok (.invokevirtual 125, 3) := by decide +kernel
theorem dX10_merge_133 : decode cX10_merge 133 = .ok (.aload_n 0, 1) := by decide +kernel
theorem dX10_merge_134 : decode cX10_merge 134 = .ok (.iload_n 2, 1) := by decide +kernel
theorem dX10_merge_135 : decode cX10_merge 135 = .ok (.iload 4, 2) := by decide +kernel
theorem dX10_merge_137 : decode cX10_merge 137 = .ok (.invokevirtual 129, 3) := by decide +kernel
