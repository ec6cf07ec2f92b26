theorem dX4_init_0 : decode cX4_init 0 = .ok (.aload_n 0, 1) := by decide +kernel
theorem dX4_init_1 : decode cX4_init 1 = .ok (.invokespecial 3, 3) := by decide +kernel
theorem dX4_init_4 : decode cX4_init 4 = .ok (.aload_n 0, 1) := by decide +kernel
theorem dX4_init_5 : decode cX4_init 5 = .ok (.lload_n 1, 1) := by decide +kernel
theorem dX4_init_6 : decode cX4_init 6 = .ok (.putfield 9, 3) := by decide +kernel
theorem dX4_init_9 : decode cX4_init 9 = .ok (.aload_n 0, 1) := by decide +kernel
theorem dX4_init_10 : decode cX4_init 10 = .ok (.new 13, 3) := by decide +kernel
theorem dX4_init_13 : decode cX4_init 13 = .ok (.dup, 1) := by decide +kernel
theorem dX4_init_14 : decode cX4_init 14 = .ok (.lload_n 1, 1) := by decide +kernel
theorem dX4_init_15 : decode cX4_init 15 = .ok (.invokespecial 15, 3) := by decide +kernel
theorem dX4_init_18 : decode cX4_init 18 = .ok (.putfield 18, 3) := by decide +kernel
theorem dX4_init_21 : decode cX4_init 21 = .ok (.aload_n 0, 1) := by decide +kernel
theorem dX4_init_22 : decode cX4_init 22 = .ok (.new 22, 3) := by decide +kernel
theorem dX4_init_25 : decode cX4_init 25 = .ok (.dup, 1) := by decide +kernel
theorem dX4_init_26 : decode cX4_init 26 = .ok (.invokespecial 24, 3) := by decide +kernel
theorem dX4_init_29 : decode cX4_init 29 = .ok (.putfield 25, 3) := by decide +kernel
theorem dX4_init_32 : decode cX4_init 32 = .ok (.aload_n 0, 1) := by decide +kernel
theorem dX4_init_33 : decode cX4_init 33 = .ok (.aload_n 0, 1) := by decide +kernel
theorem dX4_init_34 : decode cX4_init 34 = .ok (.getfield 25, 3) := by decide +kernel
theorem dX4_init_37 : decode cX4_init 37 = .ok (.getfield 29, 3) := by decide +kernel
theorem dX4_init_40 : decode cX4_init 40 = .ok (.putfield 33, 3) := by decide +kernel
theorem dX4_init_43 : decode cX4_init 43 = .ok (.aload_n 0, 1) := by decide +kernel
theorem dX4_init_44 : decode cX4_init 44 = .ok (.aload_n 0, 1) := by decide +kernel
theorem dX4_init_45 : decode cX4_init 45 = .ok (.getfield 25, 3) := by decide +kernel
theorem dX4_init_48 : decode cX4_init 48 = .ok (.getfield 34, 3) := by decide +kernel
theorem dX4_init_51 : decode cX4_init 51 = .ok (.putfield 38, 3) := by decide +kernel
theorem dX4_init_54 : decode cX4_init 54 = .ok (.aload_n 0, 1) := by decide +kernel
theorem dX4_init_55 : decode cX4_init 55 = .ok (.new 13, 3) := by decide +kernel
theorem dX4_init_58 : decode cX4_init 58 = .ok (.dup, 1) := by decide +kernel
theorem dX4_init_59 : decode cX4_init 59 = .ok (.lload_n 1, 1) := by decide +kernel
theorem dX4_init_60 : decode cX4_init 60 = .ok (.invokespecial 15, 3) := by decide +kernel
theorem dX4_init_63 : decode cX4_init 63 = .ok (.putfield 39, 3) := by decide +kernel
theorem dX4_init_66 : decode cX4_init 66 = .ok (.aload_n 0, 1) := by decide +kernel
theorem dX4_init_67 : decode cX4_init 67 = .ok (.new 42, 3) := by decide +kernel
theorem dX4_init_70 : decode cX4_init 70 = .ok (.dup, 1) := by decide +kernel
theorem dX4_init_71 : decode cX4_init 71 = .ok (.invokespecial 44, 3) := by decide +kernel
theorem dX4_init_74 : decode cX4_init 74 = .ok (.putfield 45, 3) := by decide +kernel
theorem dX4_init_77 : decode cX4_init 77 = .ok (.aload_n 0, 1) := by decide +kernel
theorem dX4_init_78 : decode cX4_init 78 = .ok (.new 42, 3) := by decide +kernel
theorem dX4_init_81 : decode cX4_init 81 = .ok (.dup, 1) := by decide +kernel
theorem dX4_init_82 : decode cX4_init 82 = .ok (.invokespecial 44, 3) := by decide +kernel
theorem dX4_init_85 : decode cX4_init 85 = .ok (.putfield 48, 3) := by decide +kernel
theorem dX4_init_88 : decode cX4_init 88 = .ok (.return_, 1) := by decide +kernel
theorem dX4_draw_0 : decode cX4_draw 0 = .ok (.iload_n 1, 1) := by decide +kernel
theorem dX4_draw_1 : decode cX4_draw 1 = .ok (.invokestatic 51, 3) := by decide +kernel
theorem dX4_draw_4 : decode cX4_draw 4 = .ok (.ifCond .ne 5, 3) := by decide +kernel
theorem dX4_draw_7 : decode cX4_draw 7 = .ok (.iconst (-1), 1) := by decide +kernel
theorem dX4_draw_8 : decode cX4_draw 8 = .ok (.ireturn, 1) := by decide +kernel
theorem dX4_draw_9 : decode cX4_draw 9 = .ok (.iload_n 2, 1) := by decide +kernel
theorem dX4_draw_10 : decode cX4_draw 10 = .ok (.invokestatic 55, 3) := by decide +kernel
theorem dX4_draw_13 : decode cX4_draw 13 = .ok (.ifCond .ne 6, 3) := by decide +kernel
theorem dX4_draw_16 : decode cX4_draw 16 = .ok (.bipush (-2), 2) := by decide +kernel
theorem dX4_draw_18 : decode cX4_draw 18 = .ok (.ireturn, 1) := by decide +kernel
theorem dX4_draw_19 : decode cX4_draw 19 = .ok (.aload_n 0, 1) := by decide +kernel
theorem dX4_draw_20 : decode cX4_draw 20 = .ok (.getfield 33, 3) := by decide +kernel
theorem dX4_draw_23 : decode cX4_draw 23 = .ok (.iload_n 1, 1) := by decide +kernel
theorem dX4_draw_24 : decode cX4_draw 24 = .ok (.iload_n 2, 1) := by decide +kernel
theorem dX4_draw_25 : decode cX4_draw 25 = .ok (.aload_n 0, 1) := by decide +kernel
theorem dX4_draw_26 : decode cX4_draw 26 = .ok (.getfield 18, 3) := by decide +kernel
theorem dX4_draw_29 : decode cX4_draw 29 = .ok (.invokevirtual 58, 3) := by decide +kernel
theorem dX4_draw_32 : decode cX4_draw 32 = .ok (.aload_n 0, 1) := by decide +kernel
theorem dX4_draw_33 : decode cX4_draw 33 = .ok (.getfield 25, 3) := by decide +kernel
theorem dX4_draw_36 : decode cX4_draw 36 = .ok (.invokevirtual 62, 3) := by decide +kernel
theorem dX4_draw_39 : decode cX4_draw 39 = .ok (.aload_n 0, 1) := by decide +kernel
theorem dX4_draw_40 : decode cX4_draw 40 = .ok (.getfield 33, 3) := by decide +kernel
theorem dX4_draw_43 : decode cX4_draw 43 = .ok (.getfield 65, 3) := by decide +kernel
theorem dX4_draw_46 : decode cX4_draw 46 = .ok (.ireturn, 1) := by decide +kernel
theorem dX4_part_0 : decode cX4_part 0 = .ok (.aload_n 0, 1) := by decide +kernel
theorem dX4_part_1 : decode cX4_part 1 = .ok (.getfield 33, 3) := by decide +kernel
theorem dX4_part_4 : decode cX4_part 4 = .ok (.iload_n 1, 1) := by decide +kernel
theorem dX4_part_5 : decode cX4_part 5 = .ok (.invokevirtual 69, 3) := by decide +kernel
theorem dX4_part_8 : decode cX4_part 8 = .ok (.ifCond .ne 7, 3) := by decide +kernel
theorem dX4_part_11 : decode cX4_part 11 = .ok (.ldc2_w 72, 3) := by decide +kernel
theorem dX4_part_14 : decode cX4_part 14 = .ok (.lreturn, 1) := by decide +kernel
theorem dX4_part_15 : decode cX4_part 15 = .ok (.iload_n 2, 1) := by decide +kernel
theorem dX4_part_16 : decode cX4_part 16 = .ok (.iconst 4, 1) := by decide +kernel
theorem dX4_part_17 : decode cX4_part 17 = .ok (.if_icmp .ne 20, 3) := by decide +kernel
theorem dX4_part_20 : decode cX4_part 20 = .ok (.aload_n 0, 1) := by decide +kernel
theorem dX4_part_21 : decode cX4_part 21 = .ok (.getfield 25, 3) := by decide +kernel
theorem dX4_part_24 : decode cX4_part 24 = .ok (.iload_n 1, 1) := by decide +kernel
theorem dX4_part_25 : decode cX4_part 25 = .ok (.invokevirtual 74, 3) := by decide +kernel
theorem dX4_part_28 : decode cX4_part 28 = .ok (.ifCond .eq 7, 3) := by decide +kernel
theorem dX4_part_31 : decode cX4_part 31 = .ok (.lconst 1, 1) := by decide +kernel
theorem dX4_part_32 : decode cX4_part 32 = .ok (.goto 4, 3) := by decide +kernel
theorem dX4_part_35 : decode cX4_part 35 = .ok (.lconst 0, 1) := by decide +kernel
theorem dX4_part_36 : decode cX4_part 36 = .ok (.lreturn, 1) := by decide +kernel
theorem dX4_part_37 : decode cX4_part 37 = .ok (.iload_n 2, 1) := by decide +kernel
theorem dX4_part_38 : decode cX4_part 38 = .ok (.ifCond .lt 8, 3) := by decide +kernel
theorem dX4_part_41 : decode cX4_part 41 = .ok (.iload_n 2, 1) := by decide +kernel
theorem dX4_part_42 : decode cX4_part 42 = .ok (.iconst 4, 1) := by decide +kernel
theorem dX4_part_43 : decode cX4_part 43 = .ok (.if_icmp .le 7, 3) := by decide +kernel
theorem dX4_part_46 : decode cX4_part 46 = .ok (.ldc2_w 77, 3) := by decide +kernel
theorem dX4_part_49 : decode cX4_part 49 = .ok (.lreturn, 1) := by decide +kernel
theorem dX4_part_50 : decode cX4_part 50 = .ok (.aload_n 0, 1) := by decide +kernel
theorem dX4_part_51 : decode cX4_part 51 = .ok (.getfield 33, 3) := by decide +kernel
theorem dX4_part_54 : decode cX4_part 54 = .ok (.iload_n 1, 1) := by decide +kernel
theorem dX4_part_55 : decode cX4_part 55 = .ok (.iload_n 2, 1) := by decide +kernel
theorem dX4_part_56 : decode cX4_part 56 = .ok (.invokevirtual 79, 3) := by decide +kernel
theorem dX4_part_59 : decode cX4_part 59 = .ok (.i2l, 1) := by decide +kernel
theorem dX4_part_60 : decode cX4_part 60 = .ok (.lreturn, 1) := by decide +kernel
theorem dX4_letter_0 : decode cX4_letter 0 = .ok (.aload_n 0, 1) := by decide +kernel
theorem dX4_letter_1 : decode cX4_letter 1 = .ok (.getfield 25, 3) := by decide +kernel
theorem dX4_letter_4 : decode cX4_letter 4 = .ok (.iload_n 1, 1) := by decide +kernel
theorem dX4_letter_5 : decode cX4_letter 5 = .ok (.invokevirtual 83, 3) := by decide +kernel
theorem dX4_letter_8 : decode cX4_letter 8 = .ok (.ireturn, 1) := by decide +kernel
theorem dX4_planted_0 : decode cX4_planted 0 = .ok (.iload_n 1, 1) := by decide +kernel
theorem dX4_planted_1 : decode cX4_planted 1 = .ok (.tableswitch 51 0 2 #[27, 35, 43], 27) := by decide +kernel
theorem dX4_planted_28 : decode cX4_planted 28 = .ok (.aload_n 0, 1) := by decide +kernel
theorem dX4_planted_29 : decode cX4_planted 29 = .ok (.getfield 33, 3) := by decide +kernel
theorem dX4_planted_32 : decode cX4_planted 32 = .ok (.getfield 87, 3) := by decide +kernel
theorem dX4_planted_35 : decode cX4_planted 35 = .ok (.ireturn, 1) := by decide +kernel
theorem dX4_planted_36 : decode cX4_planted 36 = .ok (.aload_n 0, 1) := by decide +kernel
theorem dX4_planted_37 : decode cX4_planted 37 = .ok (.getfield 33, 3) := by decide +kernel
theorem dX4_planted_40 : decode cX4_planted 40 = .ok (.getfield 90, 3) := by decide +kernel
theorem dX4_planted_43 : decode cX4_planted 43 = .ok (.ireturn, 1) := by decide +kernel
theorem dX4_planted_44 : decode cX4_planted 44 = .ok (.aload_n 0, 1) := by decide +kernel
theorem dX4_planted_45 : decode cX4_planted 45 = .ok (.getfield 25, 3) := by decide +kernel
theorem dX4_planted_48 : decode cX4_planted 48 = .ok (.invokevirtual 93, 3) := by decide +kernel
theorem dX4_planted_51 : decode cX4_planted 51 = .ok (.ireturn, 1) := by decide +kernel
theorem dX4_planted_52 : decode cX4_planted 52 = .ok (.bipush (-2), 2) := by decide +kernel
theorem dX4_planted_54 : decode cX4_planted 54 = .ok (.ireturn, 1) := by decide +kernel
theorem dX4_verdict_0 : decode cX4_verdict 0 = .ok (.aload_n 0, 1) := by decide +kernel
theorem dX4_verdict_1 : decode cX4_verdict 1 = .ok (.getfield 38, 3) := by decide +kernel
theorem dX4_verdict_4 : decode cX4_verdict 4 = .ok (.iload_n 1, 1) := by decide +kernel
theorem dX4_verdict_5 : decode cX4_verdict 5 = .ok (.iload_n 2, 1) := by decide +kernel
theorem dX4_verdict_6 : decode cX4_verdict 6 = .ok (.invokevirtual 97, 3) := by decide +kernel
theorem dX4_verdict_9 : decode cX4_verdict 9 = .ok (.return_, 1) := by decide +kernel
theorem dX4_shorter_0 : decode cX4_shorter 0 = .ok (.aload_n 0, 1) := by decide +kernel
theorem dX4_shorter_1 : decode cX4_shorter 1 = .ok (.getfield 33, 3) := by decide +kernel
theorem dX4_shorter_4 : decode cX4_shorter 4 = .ok (.getfield 65, 3) := by decide +kernel
theorem dX4_shorter_7 : decode cX4_shorter 7 = .ok (.ifCond .ne 6, 3) := by decide +kernel
theorem dX4_shorter_10 : decode cX4_shorter 10 = .ok (.bipush (-3), 2) := by decide +kernel
theorem dX4_shorter_12 : decode cX4_shorter 12 = .ok (.ireturn, 1) := by decide +kernel
theorem dX4_shorter_13 : decode cX4_shorter 13 = .ok (.aload_n 0, 1) := by decide +kernel
theorem dX4_shorter_14 : decode cX4_shorter 14 = .ok (.getfield 25, 3) := by decide +kernel
theorem dX4_shorter_17 : decode cX4_shorter 17 = .ok (.invokevirtual 103, 3) := by decide +kernel
theorem dX4_shorter_20 : decode cX4_shorter 20 = .ok (.aload_n 0, 1) := by decide +kernel
theorem dX4_shorter_21 : decode cX4_shorter 21 = .ok (.getfield 25, 3) := by decide +kernel
theorem dX4_shorter_24 : decode cX4_shorter 24 = .ok (.getfield 106, 3) := by decide +kernel
theorem dX4_shorter_27 : decode cX4_shorter 27 = .ok (.ireturn, 1) := by decide +kernel
theorem dX4_left_0 : decode cX4_left 0 = .ok (.aload_n 0, 1) := by decide +kernel
theorem dX4_left_1 : decode cX4_left 1 = .ok (.getfield 25, 3) := by decide +kernel
theorem dX4_left_4 : decode cX4_left 4 = .ok (.iload_n 1, 1) := by decide +kernel
theorem dX4_left_5 : decode cX4_left 5 = .ok (.invokevirtual 107, 3) := by decide +kernel
theorem dX4_left_8 : decode cX4_left 8 = .ok (.ireturn, 1) := by decide +kernel
theorem dX4_minimal_0 : decode cX4_minimal 0 = .ok (.aload_n 0, 1) := by decide +kernel
theorem dX4_minimal_1 : decode cX4_minimal 1 = .ok (.getfield 33, 3) := by decide +kernel
theorem dX4_minimal_4 : decode cX4_minimal 4 = .ok (.getfield 65, 3) := by decide +kernel
theorem dX4_minimal_7 : decode cX4_minimal 7 = .ok (.ifCond .le 17, 3) := by decide +kernel
theorem dX4_minimal_10 : decode cX4_minimal 10 = .ok (.aload_n 0, 1) := by decide +kernel
theorem dX4_minimal_11 : decode cX4_minimal 11 = .ok (.getfield 25, 3) := by decide +kernel
theorem dX4_minimal_14 : decode cX4_minimal 14 = .ok (.invokevirtual 110, 3) := by decide +kernel
theorem dX4_minimal_17 : decode cX4_minimal 17 = .ok (.ifCond .eq 7, 3) := by decide +kernel
theorem dX4_minimal_20 : decode cX4_minimal 20 = .ok (.iconst 1, 1) := by decide +kernel
theorem dX4_minimal_21 : decode cX4_minimal 21 = .ok (.goto 4, 3) := by decide +kernel
theorem dX4_minimal_24 : decode cX4_minimal 24 = .ok (.iconst 0, 1) := by decide +kernel
theorem dX4_minimal_25 : decode cX4_minimal 25 = .ok (.ireturn, 1) := by decide +kernel
theorem dX4_answers_0 : decode cX4_answers 0 = .ok (.aload_n 0, 1) := by decide +kernel
theorem dX4_answers_1 : decode cX4_answers 1 = .ok (.getfield 33, 3) := by decide +kernel
theorem dX4_answers_4 : decode cX4_answers 4 = .ok (.getfield 65, 3) := by decide +kernel
theorem dX4_answers_7 : decode cX4_answers 7 = .ok (.ifCond .le 17, 3) := by decide +kernel
theorem dX4_answers_10 : decode cX4_answers 10 = .ok (.aload_n 0, 1) := by decide +kernel
theorem dX4_answers_11 : decode cX4_answers 11 = .ok (.getfield 33, 3) := by decide +kernel
theorem dX4_answers_14 : decode cX4_answers 14 = .ok (.invokevirtual 114, 3) := by decide +kernel
theorem dX4_answers_17 : decode cX4_answers 17 = .ok (.ifCond .eq 7, 3) := by decide +kernel
theorem dX4_answers_20 : decode cX4_answers 20 = .ok (.iconst 1, 1) := by decide +kernel
theorem dX4_answers_21 : decode cX4_answers 21 = .ok (.goto 4, 3) := by decide +kernel
theorem dX4_answers_24 : decode cX4_answers 24 = .ok (.iconst 0, 1) := by decide +kernel
theorem dX4_answers_25 : decode cX4_answers 25 = .ok (.ireturn, 1) := by decide +kernel
theorem dX4_same_0 : decode cX4_same 0 = .ok (.iload_n 3, 1) := by decide +kernel
theorem dX4_same_1 : decode cX4_same 1 = .ok (.invokestatic 51, 3) := by decide +kernel
theorem dX4_same_4 : decode cX4_same 4 = .ok (.ifCond .eq 11, 3) := by decide +kernel
theorem dX4_same_7 : decode cX4_same 7 = .ok (.iload 4, 2) := by decide +kernel
theorem dX4_same_9 : decode cX4_same 9 = .ok (.invokestatic 55, 3) := by decide +kernel
theorem dX4_same_12 : decode cX4_same 12 = .ok (.ifCond .ne 5, 3) := by decide +kernel
theorem dX4_same_15 : decode cX4_same 15 = .ok (.iconst 0, 1) := by decide +kernel
theorem dX4_same_16 : decode cX4_same 16 = .ok (.ireturn, 1) := by decide +kernel
theorem dX4_same_17 : decode cX4_same 17 = .ok (.aload_n 0, 1) := by decide +kernel
theorem dX4_same_18 : decode cX4_same 18 = .ok (.getfield 39, 3) := by decide +kernel
theorem dX4_same_21 : decode cX4_same 21 = .ok (.aload_n 0, 1) := by decide +kernel
theorem dX4_same_22 : decode cX4_same 22 = .ok (.getfield 9, 3) := by decide +kernel
theorem dX4_same_25 : decode cX4_same 25 = .ok (.invokevirtual 117, 3) := by decide +kernel
theorem dX4_same_28 : decode cX4_same 28 = .ok (.aload_n 0, 1) := by decide +kernel
theorem dX4_same_29 : decode cX4_same 29 = .ok (.getfield 45, 3) := by decide +kernel
theorem dX4_same_32 : decode cX4_same 32 = .ok (.iload_n 3, 1) := by decide +kernel
theorem dX4_same_33 : decode cX4_same 33 = .ok (.iload 4, 2) := by decide +kernel
theorem dX4_same_35 : decode cX4_same 35 = .ok (.aload_n 0, 1) := by decide +kernel
theorem dX4_same_36 : decode cX4_same 36 = .ok (.getfield 39, 3) := by decide +kernel
theorem dX4_same_39 : decode cX4_same 39 = .ok (.invokevirtual 58, 3) := by decide +kernel
theorem dX4_same_42 : decode cX4_same 42 = .ok (.aload_n 0, 1) := by decide +kernel
theorem dX4_same_43 : decode cX4_same 43 = .ok (.getfield 39, 3) := by decide +kernel
theorem dX4_same_46 : decode cX4_same 46 = .ok (.lload_n 1, 1) := by decide +kernel
theorem dX4_same_47 : decode cX4_same 47 = .ok (.invokevirtual 117, 3) := by decide +kernel
theorem dX4_same_50 : decode cX4_same 50 = .ok (.aload_n 0, 1) := by decide +kernel
theorem dX4_same_51 : decode cX4_same 51 = .ok (.getfield 48, 3) := by decide +kernel
theorem dX4_same_54 : decode cX4_same 54 = .ok (.iload_n 3, 1) := by decide +kernel
theorem dX4_same_55 : decode cX4_same 55 = .ok (.iload 4, 2) := by decide +kernel
theorem dX4_same_57 : decode cX4_same 57 = .ok (.aload_n 0, 1) := by decide +kernel
theorem dX4_same_58 : decode cX4_same 58 = .ok (.getfield 39, 3) := by decide +kernel
theorem dX4_same_61 : decode cX4_same 61 = .ok (.invokevirtual 58, 3) := by decide +kernel
theorem dX4_same_64 : decode cX4_same 64 = .ok (.aload_n 0, 1) := by decide +kernel
theorem dX4_same_65 : decode cX4_same 65 = .ok (.getfield 45, 3) := by decide +kernel
theorem dX4_same_68 : decode cX4_same 68 = .ok (.aload_n 0, 1) := by decide +kernel
theorem dX4_same_69 : decode cX4_same 69 = .ok (.getfield 48, 3) := by decide +kernel
theorem dX4_same_72 : decode cX4_same 72 = .ok (.invokevirtual 120, 3) := by decide +kernel
theorem dX4_same_75 : decode cX4_same 75 = .ok (.ireturn, 1) := by decide +kernel
theorem dX4_isKind_0 : decode cX4_isKind 0 = .ok (.iload_n 0, 1) := by decide +kernel
theorem dX4_isKind_1 : decode cX4_isKind 1 = .ok (.ifCond .lt 13, 3) := by decide +kernel
theorem dX4_isKind_4 : decode cX4_isKind 4 = .ok (.iload_n 0, 1) := by decide +kernel
theorem dX4_isKind_5 : decode cX4_isKind 5 = .ok (.bipush 6, 2) := by decide +kernel
theorem dX4_isKind_7 : decode cX4_isKind 7 = .ok (.if_icmp .ge 7, 3) := by decide +kernel
theorem dX4_isKind_10 : decode cX4_isKind 10 = .ok (.iconst 1, 1) := by decide +kernel
theorem dX4_isKind_11 : decode cX4_isKind 11 = .ok (.goto 4, 3) := by decide +kernel
theorem dX4_isKind_14 : decode cX4_isKind 14 = .ok (.iconst 0, 1) := by decide +kernel
theorem dX4_isKind_15 : decode cX4_isKind 15 = .ok (.ireturn, 1) := by decide +kernel
theorem dX4_isSize_0 : decode cX4_isSize 0 = .ok (.iload_n 0, 1) := by decide +kernel
theorem dX4_isSize_1 : decode cX4_isSize 1 = .ok (.ifCond .lt 13, 3) := by decide +kernel
theorem dX4_isSize_4 : decode cX4_isSize 4 = .ok (.iload_n 0, 1) := by decide +kernel
theorem dX4_isSize_5 : decode cX4_isSize 5 = .ok (.bipush 20, 2) := by decide +kernel
theorem dX4_isSize_7 : decode cX4_isSize 7 = .ok (.if_icmp .gt 7, 3) := by decide +kernel
theorem dX4_isSize_10 : decode cX4_isSize 10 = .ok (.iconst 1, 1) := by decide +kernel
theorem dX4_isSize_11 : decode cX4_isSize 11 = .ok (.goto 4, 3) := by decide +kernel
theorem dX4_isSize_14 : decode cX4_isSize 14 = .ok (.iconst 0, 1) := by decide +kernel
theorem dX4_isSize_15 : decode cX4_isSize 15 = .ok (.ireturn, 1) := by decide +kernel
theorem dX5_init_0 : decode cX5_init 0 = .ok (.aload_n 0, 1) := by decide +kernel
theorem dX5_init_1 : decode cX5_init 1 = .ok (.invokespecial 1, 3) := by decide +kernel
theorem dX5_init_4 : decode cX5_init 4 = .ok (.aload_n 0, 1) := by decide +kernel
theorem dX5_init_5 : decode cX5_init 5 = .ok (.iconst 3, 1) := by decide +kernel
theorem dX5_init_6 : decode cX5_init 6 = .ok (.newarray .int, 2) := by decide +kernel
theorem dX5_init_8 : decode cX5_init 8 = .ok (.putfield 7, 3) := by decide +kernel
theorem dX5_init_11 : decode cX5_init 11 = .ok (.aload_n 0, 1) := by decide +kernel
theorem dX5_init_12 : decode cX5_init 12 = .ok (.bipush 120, 2) := by decide +kernel
theorem dX5_init_14 : decode cX5_init 14 = .ok (.newarray .int, 2) := by decide +kernel
theorem dX5_init_16 : decode cX5_init 16 = .ok (.putfield 13, 3) := by decide +kernel
theorem dX5_init_19 : decode cX5_init 19 = .ok (.aload_n 0, 1) := by decide +kernel
theorem dX5_init_20 : decode cX5_init 20 = .ok (.bipush 120, 2) := by decide +kernel
theorem dX5_init_22 : decode cX5_init 22 = .ok (.newarray .long, 2) := by decide +kernel
theorem dX5_init_24 : decode cX5_init 24 = .ok (.putfield 16, 3) := by decide +kernel
theorem dX5_init_27 : decode cX5_init 27 = .ok (.aload_n 0, 1) := by decide +kernel
theorem dX5_init_28 : decode cX5_init 28 = .ok (.bipush 120, 2) := by decide +kernel
theorem dX5_init_30 : decode cX5_init 30 = .ok (.newarray .long, 2) := by decide +kernel
theorem dX5_init_32 : decode cX5_init 32 = .ok (.putfield 20, 3) := by decide +kernel
theorem dX5_init_35 : decode cX5_init 35 = .ok (.aload_n 0, 1) := by decide +kernel
theorem dX5_init_36 : decode cX5_init 36 = .ok (.bipush 120, 2) := by decide +kernel
theorem dX5_init_38 : decode cX5_init 38 = .ok (.newarray .long, 2) := by decide +kernel
theorem dX5_init_40 : decode cX5_init 40 = .ok (.putfield 23, 3) := by decide +kernel
theorem dX5_init_43 : decode cX5_init 43 = .ok (.aload_n 0, 1) := by decide +kernel
theorem dX5_init_44 : decode cX5_init 44 = .ok (.iconst 3, 1) := by decide +kernel
theorem dX5_init_45 : decode cX5_init 45 = .ok (.newarray .int, 2) := by decide +kernel
theorem dX5_init_47 : decode cX5_init 47 = .ok (.putfield 26, 3) := by decide +kernel
theorem dX5_init_50 : decode cX5_init 50 = .ok (.aload_n 0, 1) := by decide +kernel
theorem dX5_init_51 : decode cX5_init 51 = .ok (.iconst 3, 1) := by decide +kernel
theorem dX5_init_52 : decode cX5_init 52 = .ok (.newarray .int, 2) := by decide +kernel
theorem dX5_init_54 : decode cX5_init 54 = .ok (.putfield 29, 3) := by decide +kernel
theorem dX5_init_57 : decode cX5_init 57 = .ok (.aload_n 0, 1) := by decide +kernel
theorem dX5_init_58 : decode cX5_init 58 = .ok (.bipush 40, 2) := by decide +kernel
theorem dX5_init_60 : decode cX5_init 60 = .ok (.newarray .int, 2) := by decide +kernel
theorem dX5_init_62 : decode cX5_init 62 = .ok (.putfield 32, 3) := by decide +kernel
theorem dX5_init_65 : decode cX5_init 65 = .ok (.aload_n 0, 1) := by decide +kernel
theorem dX5_init_66 : decode cX5_init 66 = .ok (.bipush 64, 2) := by decide +kernel
theorem dX5_init_68 : decode cX5_init 68 = .ok (.newarray .boolean, 2) := by decide +kernel
theorem dX5_init_70 : decode cX5_init 70 = .ok (.putfield 35, 3) := by decide +kernel
theorem dX5_init_73 : decode cX5_init 73 = .ok (.aload_n 0, 1) := by decide +kernel
theorem dX5_init_74 : decode cX5_init 74 = .ok (.sipush 1600, 3) := by decide +kernel
theorem dX5_init_77 : decode cX5_init 77 = .ok (.newarray .byte, 2) := by decide +kernel
theorem dX5_init_79 : decode cX5_init 79 = .ok (.putfield 39, 3) := by decide +kernel
theorem dX5_init_82 : decode cX5_init 82 = .ok (.aload_n 0, 1) := by decide +kernel
theorem dX5_init_83 : decode cX5_init 83 = .ok (.lload_n 1, 1) := by decide +kernel
theorem dX5_init_84 : decode cX5_init 84 = .ok (.putfield 43, 3) := by decide +kernel
theorem dX5_init_87 : decode cX5_init 87 = .ok (.aload_n 0, 1) := by decide +kernel
theorem dX5_init_88 : decode cX5_init 88 = .ok (.lload_n 1, 1) := by decide +kernel
theorem dX5_init_89 : decode cX5_init 89 = .ok (.putfield 47, 3) := by decide +kernel
theorem dX5_init_92 : decode cX5_init 92 = .ok (.return_, 1) := by decide +kernel
theorem dX5_next_0 : decode cX5_next 0 = .ok (.aload_n 0, 1) := by decide +kernel
theorem dX5_next_1 : decode cX5_next 1 = .ok (.ldc2_w 54, 3) := by decide +kernel
theorem dX5_next_4 : decode cX5_next 4 = .ok (.aload_n 0, 1) := by decide +kernel
theorem dX5_next_5 : decode cX5_next 5 = .ok (.getfield 47, 3) := by decide +kernel
theorem dX5_next_8 : decode cX5_next 8 = .ok (.lmul, 1) := by decide +kernel
theorem dX5_next_9 : decode cX5_next 9 = .ok (.ldc2_w 56, 3) := by decide +kernel
theorem dX5_next_12 : decode cX5_next 12 = .ok (.ladd, 1) := by decide +kernel
theorem dX5_next_13 : decode cX5_next 13 = .ok (.putfield 47, 3) := by decide +kernel
theorem dX5_next_16 : decode cX5_next 16 = .ok (.aload_n 0, 1) := by decide +kernel
theorem dX5_next_17 : decode cX5_next 17 = .ok (.getfield 47, 3) := by decide +kernel
theorem dX5_next_20 : decode cX5_next 20 = .ok (.bipush 33, 2) := by decide +kernel
theorem dX5_next_22 : decode cX5_next 22 = .ok (.lushr, 1) := by decide +kernel
theorem dX5_next_23 : decode cX5_next 23 = .ok (.iload_n 1, 1) := by decide +kernel
theorem dX5_next_24 : decode cX5_next 24 = .ok (.i2l, 1) := by decide +kernel
theorem dX5_next_25 : decode cX5_next 25 = .ok (.lrem, 1) := by decide +kernel
theorem dX5_next_26 : decode cX5_next 26 = .ok (.l2i, 1) := by decide +kernel
theorem dX5_next_27 : decode cX5_next 27 = .ok (.ireturn, 1) := by decide +kernel
theorem dX5_sortsOf_0 : decode cX5_sortsOf 0 = .ok (.iload_n 0, 1) := by decide +kernel
theorem dX5_sortsOf_1 : decode cX5_sortsOf 1 = .ok (.ifCond .eq 8, 3) := by decide +kernel
theorem dX5_sortsOf_4 : decode cX5_sortsOf 4 = .ok (.iload_n 0, 1) := by decide +kernel
theorem dX5_sortsOf_5 : decode cX5_sortsOf 5 = .ok (.iconst 4, 1) := by decide +kernel
theorem dX5_sortsOf_6 : decode cX5_sortsOf 6 = .ok (.if_icmp .ne 7, 3) := by decide +kernel
theorem dX5_sortsOf_9 : decode cX5_sortsOf 9 = .ok (.iconst 4, 1) := by decide +kernel
theorem dX5_sortsOf_10 : decode cX5_sortsOf 10 = .ok (.goto 33, 3) := by decide +kernel
theorem dX5_sortsOf_13 : decode cX5_sortsOf 13 = .ok (.iload_n 0, 1) := by decide +kernel
theorem dX5_sortsOf_14 : decode cX5_sortsOf 14 = .ok (.iconst 1, 1) := by decide +kernel
theorem dX5_sortsOf_15 : decode cX5_sortsOf 15 = .ok (.if_icmp .ne 7, 3) := by decide +kernel
theorem dX5_sortsOf_18 : decode cX5_sortsOf 18 = .ok (.iconst 3, 1) := by decide +kernel
theorem dX5_sortsOf_19 : decode cX5_sortsOf 19 = .ok (.goto 24, 3) := by decide +kernel
theorem dX5_sortsOf_22 : decode cX5_sortsOf 22 = .ok (.iload_n 0, 1) := by decide +kernel
theorem dX5_sortsOf_23 : decode cX5_sortsOf 23 = .ok (.iconst 2, 1) := by decide +kernel
theorem dX5_sortsOf_24 : decode cX5_sortsOf 24 = .ok (.if_icmp .ne 7, 3) := by decide +kernel
theorem dX5_sortsOf_27 : decode cX5_sortsOf 27 = .ok (.iconst 5, 1) := by decide +kernel
theorem dX5_sortsOf_28 : decode cX5_sortsOf 28 = .ok (.goto 15, 3) := by decide +kernel
theorem dX5_sortsOf_31 : decode cX5_sortsOf 31 = .ok (.iload_n 0, 1) := by decide +kernel
theorem dX5_sortsOf_32 : decode cX5_sortsOf 32 = .ok (.iconst 3, 1) := by decide +kernel
theorem dX5_sortsOf_33 : decode cX5_sortsOf 33 = .ok (.if_icmp .ne 8, 3) := by decide +kernel
theorem dX5_sortsOf_36 : decode cX5_sortsOf 36 = .ok (.bipush 6, 2) := by decide +kernel
theorem dX5_sortsOf_38 : decode cX5_sortsOf 38 = .ok (.goto 5, 3) := by decide +kernel
theorem dX5_sortsOf_41 : decode cX5_sortsOf 41 = .ok (.bipush 7, 2) := by decide +kernel
theorem dX5_sortsOf_43 : decode cX5_sortsOf 43 = .ok (.ireturn, 1) := by decide +kernel
theorem dX5_faultsOf_0 : decode cX5_faultsOf 0 = .ok (.iload_n 0, 1) := by decide +kernel
theorem dX5_faultsOf_1 : decode cX5_faultsOf 1 = .ok (.ifCond .eq 8, 3) := by decide +kernel
theorem dX5_faultsOf_4 : decode cX5_faultsOf 4 = .ok (.iload_n 0, 1) := by decide +kernel
theorem dX5_faultsOf_5 : decode cX5_faultsOf 5 = .ok (.iconst 3, 1) := by decide +kernel
theorem dX5_faultsOf_6 : decode cX5_faultsOf 6 = .ok (.if_icmp .ne 7, 3) := by decide +kernel
theorem dX5_faultsOf_9 : decode cX5_faultsOf 9 = .ok (.iconst 3, 1) := by decide +kernel
theorem dX5_faultsOf_10 : decode cX5_faultsOf 10 = .ok (.goto 27, 3) := by decide +kernel
theorem dX5_faultsOf_13 : decode cX5_faultsOf 13 = .ok (.iload_n 0, 1) := by decide +kernel
theorem dX5_faultsOf_14 : decode cX5_faultsOf 14 = .ok (.iconst 1, 1) := by decide +kernel
theorem dX5_faultsOf_15 : decode cX5_faultsOf 15 = .ok (.if_icmp .eq 8, 3) := by decide +kernel
theorem dX5_faultsOf_18 : decode cX5_faultsOf 18 = .ok (.iload_n 0, 1) := by decide +kernel
theorem dX5_faultsOf_19 : decode cX5_faultsOf 19 = .ok (.iconst 5, 1) := by decide +kernel
theorem dX5_faultsOf_20 : decode cX5_faultsOf 20 = .ok (.if_icmp .ne 7, 3) := by decide +kernel
theorem dX5_faultsOf_23 : decode cX5_faultsOf 23 = .ok (.iconst 2, 1) := by decide +kernel
theorem dX5_faultsOf_24 : decode cX5_faultsOf 24 = .ok (.goto 13, 3) := by decide +kernel
theorem dX5_faultsOf_27 : decode cX5_faultsOf 27 = .ok (.iload_n 0, 1) := by decide +kernel
theorem dX5_faultsOf_28 : decode cX5_faultsOf 28 = .ok (.iconst 2, 1) := by decide +kernel
theorem dX5_faultsOf_29 : decode cX5_faultsOf 29 = .ok (.if_icmp .ne 7, 3) := by decide +kernel
theorem dX5_faultsOf_32 : decode cX5_faultsOf 32 = .ok (.iconst 4, 1) := by decide +kernel
theorem dX5_faultsOf_33 : decode cX5_faultsOf 33 = .ok (.goto 4, 3) := by decide +kernel
theorem dX5_faultsOf_36 : decode cX5_faultsOf 36 = .ok (.iconst 5, 1) := by decide +kernel
theorem dX5_faultsOf_37 : decode cX5_faultsOf 37 = .ok (.ireturn, 1) := by decide +kernel
theorem dX5_none_0 : decode cX5_none 0 = .ok (.iload_n 0, 1) := by decide +kernel
theorem dX5_none_1 : decode cX5_none 1 = .ok (.ifCond .lt 18, 3) := by decide +kernel
theorem dX5_none_4 : decode cX5_none 4 = .ok (.iload_n 0, 1) := by decide +kernel
theorem dX5_none_5 : decode cX5_none 5 = .ok (.iconst 5, 1) := by decide +kernel
theorem dX5_none_6 : decode cX5_none 6 = .ok (.if_icmp .gt 13, 3) := by decide +kernel
theorem dX5_none_9 : decode cX5_none 9 = .ok (.iload_n 1, 1) := by decide +kernel
theorem dX5_none_10 : decode cX5_none 10 = .ok (.ifCond .lt 9, 3) := by decide +kernel
theorem dX5_none_13 : decode cX5_none 13 = .ok (.iload_n 1, 1) := by decide +kernel
theorem dX5_none_14 : decode cX5_none 14 = .ok (.bipush 20, 2) := by decide +kernel
theorem dX5_none_16 : decode cX5_none 16 = .ok (.if_icmp .le 7, 3) := by decide +kernel
theorem dX5_none_19 : decode cX5_none 19 = .ok (.iconst 1, 1) := by decide +kernel
theorem dX5_none_20 : decode cX5_none 20 = .ok (.goto 4, 3) := by decide +kernel
theorem dX5_none_23 : decode cX5_none 23 = .ok (.iconst 0, 1) := by decide +kernel
theorem dX5_none_24 : decode cX5_none 24 = .ok (.ireturn, 1) := by decide +kernel
theorem dX5_drawX_0 : decode cX5_drawX 0 = .ok (.iload_n 1, 1) := by decide +kernel
theorem dX5_drawX_1 : decode cX5_drawX 1 = .ok (.tableswitch 102 1 5 #[35, 47, 102, 74, 83], 35) := by decide +kernel
theorem dX5_drawX_36 : decode cX5_drawX 36 = .ok (.ldc2_w 58, 3) := by decide +kernel
theorem dX5_drawX_39 : decode cX5_drawX 39 = .ok (.aload_n 0, 1) := by decide +kernel
theorem dX5_drawX_40 : decode cX5_drawX 40 = .ok (.bipush 8, 2) := by decide +kernel
theorem dX5_drawX_42 : decode cX5_drawX 42 = .ok (.invokevirtual 60, 3) := by decide +kernel
theorem dX5_drawX_45 : decode cX5_drawX 45 = .ok (.i2l, 1) := by decide +kernel
theorem dX5_drawX_46 : decode cX5_drawX 46 = .ok (.lmul, 1) := by decide +kernel
theorem dX5_drawX_47 : decode cX5_drawX 47 = .ok (.lreturn, 1) := by decide +kernel
theorem dX5_drawX_48 : decode cX5_drawX 48 = .ok (.iload_n 2, 1) := by decide +kernel
theorem dX5_drawX_49 : decode cX5_drawX 49 = .ok (.ifCond .ne 7, 3) := by decide +kernel
theorem dX5_drawX_52 : decode cX5_drawX 52 = .ok (.lconst 0, 1) := by decide +kernel
theorem dX5_drawX_53 : decode cX5_drawX 53 = .ok (.goto 11, 3) := by decide +kernel
theorem dX5_drawX_56 : decode cX5_drawX 56 = .ok (.aload_n 0, 1) := by decide +kernel
theorem dX5_drawX_57 : decode cX5_drawX 57 = .ok (.getfield 16, 3) := by decide +kernel
theorem dX5_drawX_60 : decode cX5_drawX 60 = .ok (.iload_n 3, 1) := by decide +kernel
theorem dX5_drawX_61 : decode cX5_drawX 61 = .ok (.iconst 1, 1) := by decide +kernel
theorem dX5_drawX_62 : decode cX5_drawX 62 = .ok (.isub, 1) := by decide +kernel
theorem dX5_drawX_63 : decode cX5_drawX 63 = .ok (.laload, 1) := by decide +kernel
theorem dX5_drawX_64 : decode cX5_drawX 64 = .ok (.lconst 1, 1) := by decide +kernel
theorem dX5_drawX_65 : decode cX5_drawX 65 = .ok (.ladd, 1) := by decide +kernel
theorem dX5_drawX_66 : decode cX5_drawX 66 = .ok (.aload_n 0, 1) := by decide +kernel
theorem dX5_drawX_67 : decode cX5_drawX 67 = .ok (.bipush 16, 2) := by decide +kernel
theorem dX5_drawX_69 : decode cX5_drawX 69 = .ok (.invokevirtual 60, 3) := by decide +kernel
theorem dX5_drawX_72 : decode cX5_drawX 72 = .ok (.i2l, 1) := by decide +kernel
theorem dX5_drawX_73 : decode cX5_drawX 73 = .ok (.ladd, 1) := by decide +kernel
theorem dX5_drawX_74 : decode cX5_drawX 74 = .ok (.lreturn, 1) := by decide +kernel
theorem dX5_drawX_75 : decode cX5_drawX 75 = .ok (.aload_n 0, 1) := by decide +kernel
theorem dX5_drawX_76 : decode cX5_drawX 76 = .ok (.sipush 256, 3) := by decide +kernel
theorem dX5_drawX_79 : decode cX5_drawX 79 = .ok (.invokevirtual 60, 3) := by decide +kernel
theorem dX5_drawX_82 : decode cX5_drawX 82 = .ok (.i2l, 1) := by decide +kernel
theorem dX5_drawX_83 : decode cX5_drawX 83 = .ok (.lreturn, 1) := by decide +kernel
theorem dX5_drawX_84 : decode cX5_drawX 84 = .ok (.ldc2_w 64, 3) := by decide +kernel
theorem dX5_drawX_87 : decode cX5_drawX 87 = .ok (.aload_n 0, 1) := by decide +kernel
theorem dX5_drawX_88 : decode cX5_drawX 88 = .ok (.iconst 4, 1) := by decide +kernel
theorem dX5_drawX_89 : decode cX5_drawX 89 = .ok (.invokevirtual 60, 3) := by decide +kernel
theorem dX5_drawX_92 : decode cX5_drawX 92 = .ok (.i2l, 1) := by decide +kernel
theorem dX5_drawX_93 : decode cX5_drawX 93 = .ok (.lmul, 1) := by decide +kernel
theorem dX5_drawX_94 : decode cX5_drawX 94 = .ok (.aload_n 0, 1) := by decide +kernel
theorem dX5_drawX_95 : decode cX5_drawX 95 = .ok (.getfield 13, 3) := by decide +kernel
theorem dX5_drawX_98 : decode cX5_drawX 98 = .ok (.iload_n 3, 1) := by decide +kernel
theorem dX5_drawX_99 : decode cX5_drawX 99 = .ok (.iaload, 1) := by decide +kernel
theorem dX5_drawX_100 : decode cX5_drawX 100 = .ok (.i2l, 1) := by decide +kernel
theorem dX5_drawX_101 : decode cX5_drawX 101 = .ok (.ladd, 1) := by decide +kernel
theorem dX5_drawX_102 : decode cX5_drawX 102 = .ok (.lreturn, 1) := by decide +kernel
theorem dX5_drawX_103 : decode cX5_drawX 103 = .ok (.aload_n 0, 1) := by decide +kernel
theorem dX5_drawX_104 : decode cX5_drawX 104 = .ok (.iload_n 2, 1) := by decide +kernel
theorem dX5_drawX_105 : decode cX5_drawX 105 = .ok (.iconst 1, 1) := by decide +kernel
theorem dX5_drawX_106 : decode cX5_drawX 106 = .ok (.iadd, 1) := by decide +kernel
theorem dX5_drawX_107 : decode cX5_drawX 107 = .ok (.invokevirtual 60, 3) := by decide +kernel
theorem dX5_drawX_110 : decode cX5_drawX 110 = .ok (.i2l, 1) := by decide +kernel
theorem dX5_drawX_111 : decode cX5_drawX 111 = .ok (.lreturn, 1) := by decide +kernel
theorem dX5_drawAll_0 : decode cX5_drawAll 0 = .ok (.bipush 40, 2) := by decide +kernel
theorem dX5_drawAll_2 : decode cX5_drawAll 2 = .ok (.iload_n 1, 1) := by decide +kernel
theorem dX5_drawAll_3 : decode cX5_drawAll 3 = .ok (.imul, 1) := by decide +kernel
theorem dX5_drawAll_4 : decode cX5_drawAll 4 = .ok (.istore 4, 2) := by decide +kernel
theorem dX5_drawAll_6 : decode cX5_drawAll 6 = .ok (.aload_n 0, 1) := by decide +kernel
theorem dX5_drawAll_7 : decode cX5_drawAll 7 = .ok (.getfield 26, 3) := by decide +kernel
theorem dX5_drawAll_10 : decode cX5_drawAll 10 = .ok (.iload_n 1, 1) := by decide +kernel
theorem dX5_drawAll_11 : decode cX5_drawAll 11 = .ok (.iconst 0, 1) := by decide +kernel
theorem dX5_drawAll_12 : decode cX5_drawAll 12 = .ok (.iastore, 1) := by decide +kernel
theorem dX5_drawAll_13 : decode cX5_drawAll 13 = .ok (.aload_n 0, 1) := by decide +kernel
theorem dX5_drawAll_14 : decode cX5_drawAll 14 = .ok (.getfield 29, 3) := by decide +kernel
theorem dX5_drawAll_17 : decode cX5_drawAll 17 = .ok (.iload_n 1, 1) := by decide +kernel
theorem dX5_drawAll_18 : decode cX5_drawAll 18 = .ok (.iconst (-1), 1) := by decide +kernel
theorem dX5_drawAll_19 : decode cX5_drawAll 19 = .ok (.iastore, 1) := by decide +kernel
theorem dX5_drawAll_20 : decode cX5_drawAll 20 = .ok (.aload_n 0, 1) := by decide +kernel
theorem dX5_drawAll_21 : decode cX5_drawAll 21 = .ok (.getfield 7, 3) := by decide +kernel
theorem dX5_drawAll_24 : decode cX5_drawAll 24 = .ok (.iload_n 1, 1) := by decide +kernel
theorem dX5_drawAll_25 : decode cX5_drawAll 25 = .ok (.iconst 1, 1) := by decide +kernel
theorem dX5_drawAll_26 : decode cX5_drawAll 26 = .ok (.iastore, 1) := by decide +kernel
theorem dX5_drawAll_27 : decode cX5_drawAll 27 = .ok (.aload_n 0, 1) := by decide +kernel
theorem dX5_drawAll_28 : decode cX5_drawAll 28 = .ok (.getfield 13, 3) := by decide +kernel
theorem dX5_drawAll_31 : decode cX5_drawAll 31 = .ok (.iload 4, 2) := by decide +kernel
theorem dX5_drawAll_33 : decode cX5_drawAll 33 = .ok (.iconst 0, 1) := by decide +kernel
theorem dX5_drawAll_34 : decode cX5_drawAll 34 = .ok (.iastore, 1) := by decide +kernel
theorem dX5_drawAll_35 : decode cX5_drawAll 35 = .ok (.aload_n 0, 1) := by decide +kernel
theorem dX5_drawAll_36 : decode cX5_drawAll 36 = .ok (.getfield 16, 3) := by decide +kernel
theorem dX5_drawAll_39 : decode cX5_drawAll 39 = .ok (.iload 4, 2) := by decide +kernel
theorem dX5_drawAll_41 : decode cX5_drawAll 41 = .ok (.lconst 0, 1) := by decide +kernel
theorem dX5_drawAll_42 : decode cX5_drawAll 42 = .ok (.lastore, 1) := by decide +kernel
theorem dX5_drawAll_43 : decode cX5_drawAll 43 = .ok (.aload_n 0, 1) := by decide +kernel
theorem dX5_drawAll_44 : decode cX5_drawAll 44 = .ok (.getfield 20, 3) := by decide +kernel
theorem dX5_drawAll_47 : decode cX5_drawAll 47 = .ok (.iload 4, 2) := by decide +kernel
theorem dX5_drawAll_49 : decode cX5_drawAll 49 = .ok (.lconst 0, 1) := by decide +kernel
theorem dX5_drawAll_50 : decode cX5_drawAll 50 = .ok (.lastore, 1) := by decide +kernel
theorem dX5_drawAll_51 : decode cX5_drawAll 51 = .ok (.aload_n 0, 1) := by decide +kernel
theorem dX5_drawAll_52 : decode cX5_drawAll 52 = .ok (.getfield 23, 3) := by decide +kernel
theorem dX5_drawAll_55 : decode cX5_drawAll 55 = .ok (.iload 4, 2) := by decide +kernel
theorem dX5_drawAll_57 : decode cX5_drawAll 57 = .ok (.lconst 0, 1) := by decide +kernel
theorem dX5_drawAll_58 : decode cX5_drawAll 58 = .ok (.lastore, 1) := by decide +kernel
theorem dX5_drawAll_59 : decode cX5_drawAll 59 = .ok (.iload_n 3, 1) := by decide +kernel
theorem dX5_drawAll_60 : decode cX5_drawAll 60 = .ok (.ifCond .ne 4, 3) := by decide +kernel
theorem dX5_drawAll_63 : decode cX5_drawAll 63 = .ok (.return_, 1) := by decide +kernel
theorem dX5_drawAll_64 : decode cX5_drawAll 64 = .ok (.iload_n 3, 1) := by decide +kernel
theorem dX5_drawAll_65 : decode cX5_drawAll 65 = .ok (.aload_n 0, 1) := by decide +kernel
theorem dX5_drawAll_66 : decode cX5_drawAll 66 = .ok (.iload_n 3, 1) := by decide +kernel
theorem dX5_drawAll_67 : decode cX5_drawAll 67 = .ok (.iconst 1, 1) := by decide +kernel
theorem dX5_drawAll_68 : decode cX5_drawAll 68 = .ok (.iadd, 1) := by decide +kernel
theorem dX5_drawAll_69 : decode cX5_drawAll 69 = .ok (.invokevirtual 60, 3) := by decide +kernel
theorem dX5_drawAll_72 : decode cX5_drawAll 72 = .ok (.iadd, 1) := by decide +kernel
theorem dX5_drawAll_73 : decode cX5_drawAll 73 = .ok (.istore 5, 2) := by decide +kernel
theorem dX5_drawAll_75 : decode cX5_drawAll 75 = .ok (.aload_n 0, 1) := by decide +kernel
theorem dX5_drawAll_76 : decode cX5_drawAll 76 = .ok (.getfield 7, 3) := by decide +kernel
theorem dX5_drawAll_79 : decode cX5_drawAll 79 = .ok (.iload_n 1, 1) := by decide +kernel
theorem dX5_drawAll_80 : decode cX5_drawAll 80 = .ok (.iload 5, 2) := by decide +kernel
theorem dX5_drawAll_82 : decode cX5_drawAll 82 = .ok (.iastore, 1) := by decide +kernel
theorem dX5_drawAll_83 : decode cX5_drawAll 83 = .ok (.iconst 0, 1) := by decide +kernel
theorem dX5_drawAll_84 : decode cX5_drawAll 84 = .ok (.istore 6, 2) := by decide +kernel
theorem dX5_drawAll_86 : decode cX5_drawAll 86 = .ok (.iload 6, 2) := by decide +kernel
theorem dX5_drawAll_88 : decode cX5_drawAll 88 = .ok (.iload 5, 2) := by decide +kernel
theorem dX5_drawAll_90 : decode cX5_drawAll 90 = .ok (.if_icmp .ge 135, 3) := by decide +kernel
theorem dX5_drawAll_93 : decode cX5_drawAll 93 = .ok (.iload 4, 2) := by decide +kernel
theorem dX5_drawAll_95 : decode cX5_drawAll 95 = .ok (.iload 6, 2) := by decide +kernel
theorem dX5_drawAll_97 : decode cX5_drawAll 97 = .ok (.iadd, 1) := by decide +kernel
theorem dX5_drawAll_98 : decode cX5_drawAll 98 = .ok (.istore 7, 2) := by decide +kernel
theorem dX5_drawAll_100 : decode cX5_drawAll 100 = .ok (.aload_n 0, 1) := by decide +kernel
theorem dX5_drawAll_101 : decode cX5_drawAll 101 = .ok (.getfield 13, 3) := by decide +kernel
theorem dX5_drawAll_104 : decode cX5_drawAll 104 = .ok (.iload 7, 2) := by decide +kernel
theorem dX5_drawAll_106 : decode cX5_drawAll 106 = .ok (.aload_n 0, 1) := by decide +kernel
theorem dX5_drawAll_107 : decode cX5_drawAll 107 = .ok (.iload_n 2, 1) := by decide +kernel
theorem dX5_drawAll_108 : decode cX5_drawAll 108 = .ok (.invokestatic 66, 3) := by decide +kernel
theorem dX5_drawAll_111 : decode cX5_drawAll 111 = .ok (.invokevirtual 60, 3) := by decide +kernel
theorem dX5_drawAll_114 : decode cX5_drawAll 114 = .ok (.iastore, 1) := by decide +kernel
theorem dX5_drawAll_115 : decode cX5_drawAll 115 = .ok (.aload_n 0, 1) := by decide +kernel
theorem dX5_drawAll_116 : decode cX5_drawAll 116 = .ok (.getfield 16, 3) := by decide +kernel
theorem dX5_drawAll_119 : decode cX5_drawAll 119 = .ok (.iload 7, 2) := by decide +kernel
theorem dX5_drawAll_121 : decode cX5_drawAll 121 = .ok (.aload_n 0, 1) := by decide +kernel
theorem dX5_drawAll_122 : decode cX5_drawAll 122 = .ok (.iload_n 2, 1) := by decide +kernel
theorem dX5_drawAll_123 : decode cX5_drawAll 123 = .ok (.iload 6, 2) := by decide +kernel
theorem dX5_drawAll_125 : decode cX5_drawAll 125 = .ok (.iload 7, 2) := by decide +kernel
theorem dX5_drawAll_127 : decode cX5_drawAll 127 = .ok (.invokevirtual 69, 3) := by decide +kernel
theorem dX5_drawAll_130 : decode cX5_drawAll 130 = .ok (.lastore, 1) := by decide +kernel
theorem dX5_drawAll_131 : decode cX5_drawAll 131 = .ok (.iload_n 2, 1) := by decide +kernel
theorem dX5_drawAll_132 : decode cX5_drawAll 132 = .ok (.ifCond .ne 58, 3) := by decide +kernel
theorem dX5_drawAll_135 : decode cX5_drawAll 135 = .ok (.aload_n 0, 1) := by decide +kernel
theorem dX5_drawAll_136 : decode cX5_drawAll 136 = .ok (.getfield 13, 3) := by decide +kernel
theorem dX5_drawAll_139 : decode cX5_drawAll 139 = .ok (.iload 7, 2) := by decide +kernel
theorem dX5_drawAll_141 : decode cX5_drawAll 141 = .ok (.iaload, 1) := by decide +kernel
theorem dX5_drawAll_142 : decode cX5_drawAll 142 = .ok (.iconst 3, 1) := by decide +kernel
theorem dX5_drawAll_143 : decode cX5_drawAll 143 = .ok (.if_icmp .ne 47, 3) := by decide +kernel
theorem dX5_drawAll_146 : decode cX5_drawAll 146 = .ok (.aload_n 0, 1) := by decide +kernel
theorem dX5_drawAll_147 : decode cX5_drawAll 147 = .ok (.getfield 20, 3) := by decide +kernel
theorem dX5_drawAll_150 : decode cX5_drawAll 150 = .ok (.iload 7, 2) := by decide +kernel
theorem dX5_drawAll_152 : decode cX5_drawAll 152 = .ok (.aload_n 0, 1) := by decide +kernel
theorem dX5_drawAll_153 : decode cX5_drawAll 153 = .ok (.getfield 16, 3) := by decide +kernel
theorem dX5_drawAll_156 : decode cX5_drawAll 156 = .ok (.iload 7, 2) := by decide +kernel
theorem dX5_drawAll_158 : decode cX5_drawAll 158 = .ok (.laload, 1) := by decide +kernel
theorem dX5_drawAll_159 : decode cX5_drawAll 159 = .ok (.iload 6, 2) := by decide +kernel
theorem dX5_drawAll_161 : decode cX5_drawAll 161 = .ok (.i2l, 1) := by decide +kernel
theorem dX5_drawAll_162 : decode cX5_drawAll 162 = .ok (.lcmp, 1) := by decide +kernel
theorem dX5_drawAll_163 : decode cX5_drawAll 163 = .ok (.ifCond .ne 7, 3) := by decide +kernel
theorem dX5_drawAll_166 : decode cX5_drawAll 166 = .ok (.lconst 0, 1) := by decide +kernel
theorem dX5_drawAll_167 : decode cX5_drawAll 167 = .ok (.goto 19, 3) := by decide +kernel
theorem dX5_drawAll_170 : decode cX5_drawAll 170 = .ok (.aload_n 0, 1) := by decide +kernel
theorem dX5_drawAll_171 : decode cX5_drawAll 171 = .ok (.getfield 20, 3) := by decide +kernel
theorem dX5_drawAll_174 : decode cX5_drawAll 174 = .ok (.iload 4, 2) := by decide +kernel
theorem dX5_drawAll_176 : decode cX5_drawAll 176 = .ok (.aload_n 0, 1) := by decide +kernel
theorem dX5_drawAll_177 : decode cX5_drawAll 177 = .ok (.getfield 16, 3) := by decide +kernel
theorem dX5_drawAll_180 : decode cX5_drawAll 180 = .ok (.iload 7, 2) := by decide +kernel
theorem dX5_drawAll_182 : decode cX5_drawAll 182 = .ok (.laload, 1) := by decide +kernel
theorem dX5_drawAll_183 : decode cX5_drawAll 183 = .ok (.l2i, 1) := by decide +kernel
theorem dX5_drawAll_184 : decode cX5_drawAll 184 = .ok (.iadd, 1) := by decide +kernel
theorem dX5_drawAll_185 : decode cX5_drawAll 185 = .ok (.laload, 1) := by decide +kernel
theorem dX5_drawAll_186 : decode cX5_drawAll 186 = .ok (.lastore, 1) := by decide +kernel
theorem dX5_drawAll_187 : decode cX5_drawAll 187 = .ok (.goto 17, 3) := by decide +kernel
theorem dX5_drawAll_190 : decode cX5_drawAll 190 = .ok (.aload_n 0, 1) := by decide +kernel
theorem dX5_drawAll_191 : decode cX5_drawAll 191 = .ok (.getfield 20, 3) := by decide +kernel
theorem dX5_drawAll_194 : decode cX5_drawAll 194 = .ok (.iload 7, 2) := by decide +kernel
theorem dX5_drawAll_196 : decode cX5_drawAll 196 = .ok (.aload_n 0, 1) := by decide +kernel
theorem dX5_drawAll_197 : decode cX5_drawAll 197 = .ok (.bipush 64, 2) := by decide +kernel
theorem dX5_drawAll_199 : decode cX5_drawAll 199 = .ok (.invokevirtual 60, 3) := by decide +kernel
theorem dX5_drawAll_202 : decode cX5_drawAll 202 = .ok (.i2l, 1) := by decide +kernel
theorem dX5_drawAll_203 : decode cX5_drawAll 203 = .ok (.lastore, 1) := by decide +kernel
theorem dX5_drawAll_204 : decode cX5_drawAll 204 = .ok (.aload_n 0, 1) := by decide +kernel
theorem dX5_drawAll_205 : decode cX5_drawAll 205 = .ok (.getfield 23, 3) := by decide +kernel
theorem dX5_drawAll_208 : decode cX5_drawAll 208 = .ok (.iload 7, 2) := by decide +kernel
theorem dX5_drawAll_210 : decode cX5_drawAll 210 = .ok (.aload_n 0, 1) := by decide +kernel
theorem dX5_drawAll_211 : decode cX5_drawAll 211 = .ok (.sipush 1000, 3) := by decide +kernel
theorem dX5_drawAll_214 : decode cX5_drawAll 214 = .ok (.invokevirtual 60, 3) := by decide +kernel
theorem dX5_drawAll_217 : decode cX5_drawAll 217 = .ok (.i2l, 1) := by decide +kernel
theorem dX5_drawAll_218 : decode cX5_drawAll 218 = .ok (.lastore, 1) := by decide +kernel
theorem dX5_drawAll_219 : decode cX5_drawAll 219 = .ok (.iinc 6 1, 3) := by decide +kernel
theorem dX5_drawAll_222 : decode cX5_drawAll 222 = .ok (.goto (-136), 3) := by decide +kernel
theorem dX5_drawAll_225 : decode cX5_drawAll 225 = .ok (.aload_n 0, 1) := by decide +kernel
theorem dX5_drawAll_226 : decode cX5_drawAll 226 = .ok (.iconst 2, 1) := by decide +kernel
theorem dX5_drawAll_227 : decode cX5_drawAll 227 = .ok (.iload_n 2, 1) := by decide +kernel
theorem dX5_drawAll_228 : decode cX5_drawAll 228 = .ok (.invokestatic 73, 3) := by decide +kernel
theorem dX5_drawAll_231 : decode cX5_drawAll 231 = .ok (.imul, 1) := by decide +kernel
theorem dX5_drawAll_232 : decode cX5_drawAll 232 = .ok (.invokevirtual 60, 3) := by decide +kernel
theorem dX5_drawAll_235 : decode cX5_drawAll 235 = .ok (.iload_n 2, 1) := by decide +kernel
theorem dX5_drawAll_236 : decode cX5_drawAll 236 = .ok (.invokestatic 73, 3) := by decide +kernel
theorem dX5_drawAll_239 : decode cX5_drawAll 239 = .ok (.isub, 1) := by decide +kernel
theorem dX5_drawAll_240 : decode cX5_drawAll 240 = .ok (.istore 6, 2) := by decide +kernel
theorem dX5_drawAll_242 : decode cX5_drawAll 242 = .ok (.iload 6, 2) := by decide +kernel
theorem dX5_drawAll_244 : decode cX5_drawAll 244 = .ok (.ifCond .ge 4, 3) := by decide +kernel
theorem dX5_drawAll_247 : decode cX5_drawAll 247 = .ok (.return_, 1) := by decide +kernel
theorem dX5_drawAll_248 : decode cX5_drawAll 248 = .ok (.aload_n 0, 1) := by decide +kernel
theorem dX5_drawAll_249 : decode cX5_drawAll 249 = .ok (.getfield 26, 3) := by decide +kernel
theorem dX5_drawAll_252 : decode cX5_drawAll 252 = .ok (.iload_n 1, 1) := by decide +kernel
theorem dX5_drawAll_253 : decode cX5_drawAll 253 = .ok (.iload 6, 2) := by decide +kernel
theorem dX5_drawAll_255 : decode cX5_drawAll 255 = .ok (.iconst 1, 1) := by decide +kernel
theorem dX5_drawAll_256 : decode cX5_drawAll 256 = .ok (.iadd, 1) := by decide +kernel
theorem dX5_drawAll_257 : decode cX5_drawAll 257 = .ok (.iastore, 1) := by decide +kernel
theorem dX5_drawAll_258 : decode cX5_drawAll 258 = .ok (.aload_n 0, 1) := by decide +kernel
theorem dX5_drawAll_259 : decode cX5_drawAll 259 = .ok (.getfield 29, 3) := by decide +kernel
theorem dX5_drawAll_262 : decode cX5_drawAll 262 = .ok (.iload_n 1, 1) := by decide +kernel
theorem dX5_drawAll_263 : decode cX5_drawAll 263 = .ok (.aload_n 0, 1) := by decide +kernel
theorem dX5_drawAll_264 : decode cX5_drawAll 264 = .ok (.iload 5, 2) := by decide +kernel
theorem dX5_drawAll_266 : decode cX5_drawAll 266 = .ok (.invokevirtual 60, 3) := by decide +kernel
theorem dX5_drawAll_269 : decode cX5_drawAll 269 = .ok (.iastore, 1) := by decide +kernel
theorem dX5_drawAll_270 : decode cX5_drawAll 270 = .ok (.iload 4, 2) := by decide +kernel
theorem dX5_drawAll_272 : decode cX5_drawAll 272 = .ok (.aload_n 0, 1) := by decide +kernel
theorem dX5_drawAll_273 : decode cX5_drawAll 273 = .ok (.getfield 29, 3) := by decide +kernel
theorem dX5_drawAll_276 : decode cX5_drawAll 276 = .ok (.iload_n 1, 1) := by decide +kernel
theorem dX5_drawAll_277 : decode cX5_drawAll 277 = .ok (.iaload, 1) := by decide +kernel
theorem dX5_drawAll_278 : decode cX5_drawAll 278 = .ok (.iadd, 1) := by decide +kernel
theorem dX5_drawAll_279 : decode cX5_drawAll 279 = .ok (.istore 7, 2) := by decide +kernel
theorem dX5_drawAll_281 : decode cX5_drawAll 281 = .ok (.iload 6, 2) := by decide +kernel
theorem dX5_drawAll_283 : decode cX5_drawAll 283 = .ok (.ifCond .ne 19, 3) := by decide +kernel
theorem dX5_drawAll_286 : decode cX5_drawAll 286 = .ok (.aload_n 0, 1) := by decide +kernel
theorem dX5_drawAll_287 : decode cX5_drawAll 287 = .ok (.getfield 16, 3) := by decide +kernel
theorem dX5_drawAll_290 : decode cX5_drawAll 290 = .ok (.iload 7, 2) := by decide +kernel
theorem dX5_drawAll_292 : decode cX5_drawAll 292 = .ok (.dup2, 1) := by decide +kernel
theorem dX5_drawAll_293 : decode cX5_drawAll 293 = .ok (.laload, 1) := by decide +kernel
theorem dX5_drawAll_294 : decode cX5_drawAll 294 = .ok (.ldc2_w 76, 3) := by decide +kernel
theorem dX5_drawAll_297 : decode cX5_drawAll 297 = .ok (.ladd, 1) := by decide +kernel
theorem dX5_drawAll_298 : decode cX5_drawAll 298 = .ok (.lastore, 1) := by decide +kernel
theorem dX5_drawAll_299 : decode cX5_drawAll 299 = .ok (.goto 96, 3) := by decide +kernel
theorem dX5_drawAll_302 : decode cX5_drawAll 302 = .ok (.iload 6, 2) := by decide +kernel
theorem dX5_drawAll_304 : decode cX5_drawAll 304 = .ok (.iconst 1, 1) := by decide +kernel
theorem dX5_drawAll_305 : decode cX5_drawAll 305 = .ok (.if_icmp .ne 24, 3) := by decide +kernel
theorem dX5_drawAll_308 : decode cX5_drawAll 308 = .ok (.aload_n 0, 1) := by decide +kernel
theorem dX5_drawAll_309 : decode cX5_drawAll 309 = .ok (.getfield 20, 3) := by decide +kernel
theorem dX5_drawAll_312 : decode cX5_drawAll 312 = .ok (.iload 7, 2) := by decide +kernel
theorem dX5_drawAll_314 : decode cX5_drawAll 314 = .ok (.ldc2_w 78, 3) := by decide +kernel
theorem dX5_drawAll_317 : decode cX5_drawAll 317 = .ok (.aload_n 0, 1) := by decide +kernel
theorem dX5_drawAll_318 : decode cX5_drawAll 318 = .ok (.getfield 20, 3) := by decide +kernel
theorem dX5_drawAll_321 : decode cX5_drawAll 321 = .ok (.iload 7, 2) := by decide +kernel
theorem dX5_drawAll_323 : decode cX5_drawAll 323 = .ok (.laload, 1) := by decide +kernel
theorem dX5_drawAll_324 : decode cX5_drawAll 324 = .ok (.lsub, 1) := by decide +kernel
theorem dX5_drawAll_325 : decode cX5_drawAll 325 = .ok (.lastore, 1) := by decide +kernel
theorem dX5_drawAll_326 : decode cX5_drawAll 326 = .ok (.goto 69, 3) := by decide +kernel
theorem dX5_drawAll_329 : decode cX5_drawAll 329 = .ok (.iload 6, 2) := by decide +kernel
theorem dX5_drawAll_331 : decode cX5_drawAll 331 = .ok (.iconst 2, 1) := by decide +kernel
theorem dX5_drawAll_332 : decode cX5_drawAll 332 = .ok (.if_icmp .ne 19, 3) := by decide +kernel
theorem dX5_drawAll_335 : decode cX5_drawAll 335 = .ok (.aload_n 0, 1) := by decide +kernel
theorem dX5_drawAll_336 : decode cX5_drawAll 336 = .ok (.getfield 23, 3) := by decide +kernel
theorem dX5_drawAll_339 : decode cX5_drawAll 339 = .ok (.iload 7, 2) := by decide +kernel
theorem dX5_drawAll_341 : decode cX5_drawAll 341 = .ok (.dup2, 1) := by decide +kernel
theorem dX5_drawAll_342 : decode cX5_drawAll 342 = .ok (.laload, 1) := by decide +kernel
theorem dX5_drawAll_343 : decode cX5_drawAll 343 = .ok (.ldc2_w 76, 3) := by decide +kernel
theorem dX5_drawAll_346 : decode cX5_drawAll 346 = .ok (.ladd, 1) := by decide +kernel
theorem dX5_drawAll_347 : decode cX5_drawAll 347 = .ok (.lastore, 1) := by decide +kernel
theorem dX5_drawAll_348 : decode cX5_drawAll 348 = .ok (.goto 47, 3) := by decide +kernel
theorem dX5_drawAll_351 : decode cX5_drawAll 351 = .ok (.iload 6, 2) := by decide +kernel
theorem dX5_drawAll_353 : decode cX5_drawAll 353 = .ok (.iconst 3, 1) := by decide +kernel
theorem dX5_drawAll_354 : decode cX5_drawAll 354 = .ok (.if_icmp .ne 17, 3) := by decide +kernel
theorem dX5_drawAll_357 : decode cX5_drawAll 357 = .ok (.aload_n 0, 1) := by decide +kernel
theorem dX5_drawAll_358 : decode cX5_drawAll 358 = .ok (.getfield 13, 3) := by decide +kernel
theorem dX5_drawAll_361 : decode cX5_drawAll 361 = .ok (.iload 7, 2) := by decide +kernel
theorem dX5_drawAll_363 : decode cX5_drawAll 363 = .ok (.iload_n 2, 1) := by decide +kernel
theorem dX5_drawAll_364 : decode cX5_drawAll 364 = .ok (.invokestatic 66, 3) := by decide +kernel
theorem dX5_drawAll_367 : decode cX5_drawAll 367 = .ok (.iastore, 1) := by decide +kernel
theorem dX5_drawAll_368 : decode cX5_drawAll 368 = .ok (.goto 27, 3) := by decide +kernel
theorem dX5_drawAll_371 : decode cX5_drawAll 371 = .ok (.aload_n 0, 1) := by decide +kernel
theorem dX5_drawAll_372 : decode cX5_drawAll 372 = .ok (.getfield 16, 3) := by decide +kernel
theorem dX5_drawAll_375 : decode cX5_drawAll 375 = .ok (.iload 7, 2) := by decide +kernel
theorem dX5_drawAll_377 : decode cX5_drawAll 377 = .ok (.lconst 0, 1) := by decide +kernel
theorem dX5_drawAll_378 : decode cX5_drawAll 378 = .ok (.lastore, 1) := by decide +kernel
theorem dX5_drawAll_379 : decode cX5_drawAll 379 = .ok (.aload_n 0, 1) := by decide +kernel
theorem dX5_drawAll_380 : decode cX5_drawAll 380 = .ok (.getfield 20, 3) := by decide +kernel
theorem dX5_drawAll_383 : decode cX5_drawAll 383 = .ok (.iload 7, 2) := by decide +kernel
theorem dX5_drawAll_385 : decode cX5_drawAll 385 = .ok (.lconst 0, 1) := by decide +kernel
theorem dX5_drawAll_386 : decode cX5_drawAll 386 = .ok (.lastore, 1) := by decide +kernel
theorem dX5_drawAll_387 : decode cX5_drawAll 387 = .ok (.aload_n 0, 1) := by decide +kernel
theorem dX5_drawAll_388 : decode cX5_drawAll 388 = .ok (.getfield 23, 3) := by decide +kernel
theorem dX5_drawAll_391 : decode cX5_drawAll 391 = .ok (.iload 7, 2) := by decide +kernel
theorem dX5_drawAll_393 : decode cX5_drawAll 393 = .ok (.lconst 0, 1) := by decide +kernel
theorem dX5_drawAll_394 : decode cX5_drawAll 394 = .ok (.lastore, 1) := by decide +kernel
theorem dX5_drawAll_395 : decode cX5_drawAll 395 = .ok (.return_, 1) := by decide +kernel
theorem dX5_draw_0 : decode cX5_draw 0 = .ok (.aload_n 0, 1) := by decide +kernel
theorem dX5_draw_1 : decode cX5_draw 1 = .ok (.iconst 0, 1) := by decide +kernel
theorem dX5_draw_2 : decode cX5_draw 2 = .ok (.putfield 50, 3) := by decide +kernel
theorem dX5_draw_5 : decode cX5_draw 5 = .ok (.iload_n 1, 1) := by decide +kernel
theorem dX5_draw_6 : decode cX5_draw 6 = .ok (.ifCond .lt 8, 3) := by decide +kernel
theorem dX5_draw_9 : decode cX5_draw 9 = .ok (.iload_n 1, 1) := by decide +kernel
theorem dX5_draw_10 : decode cX5_draw 10 = .ok (.iconst 5, 1) := by decide +kernel
theorem dX5_draw_11 : decode cX5_draw 11 = .ok (.if_icmp .le 5, 3) := by decide +kernel
theorem dX5_draw_14 : decode cX5_draw 14 = .ok (.iconst (-1), 1) := by decide +kernel
theorem dX5_draw_15 : decode cX5_draw 15 = .ok (.ireturn, 1) := by decide +kernel
theorem dX5_draw_16 : decode cX5_draw 16 = .ok (.iload_n 1, 1) := by decide +kernel
theorem dX5_draw_17 : decode cX5_draw 17 = .ok (.iload_n 2, 1) := by decide +kernel
theorem dX5_draw_18 : decode cX5_draw 18 = .ok (.invokestatic 80, 3) := by decide +kernel
theorem dX5_draw_21 : decode cX5_draw 21 = .ok (.ifCond .eq 6, 3) := by decide +kernel
theorem dX5_draw_24 : decode cX5_draw 24 = .ok (.bipush (-2), 2) := by decide +kernel
theorem dX5_draw_26 : decode cX5_draw 26 = .ok (.ireturn, 1) := by decide +kernel
theorem dX5_draw_27 : decode cX5_draw 27 = .ok (.aload_n 0, 1) := by decide +kernel
theorem dX5_draw_28 : decode cX5_draw 28 = .ok (.iconst 0, 1) := by decide +kernel
theorem dX5_draw_29 : decode cX5_draw 29 = .ok (.iload_n 1, 1) := by decide +kernel
theorem dX5_draw_30 : decode cX5_draw 30 = .ok (.iload_n 2, 1) := by decide +kernel
theorem dX5_draw_31 : decode cX5_draw 31 = .ok (.invokevirtual 84, 3) := by decide +kernel
theorem dX5_draw_34 : decode cX5_draw 34 = .ok (.aload_n 0, 1) := by decide +kernel
theorem dX5_draw_35 : decode cX5_draw 35 = .ok (.aload_n 0, 1) := by decide +kernel
theorem dX5_draw_36 : decode cX5_draw 36 = .ok (.getfield 7, 3) := by decide +kernel
theorem dX5_draw_39 : decode cX5_draw 39 = .ok (.iconst 0, 1) := by decide +kernel
theorem dX5_draw_40 : decode cX5_draw 40 = .ok (.iaload, 1) := by decide +kernel
theorem dX5_draw_41 : decode cX5_draw 41 = .ok (.putfield 88, 3) := by decide +kernel
theorem dX5_draw_44 : decode cX5_draw 44 = .ok (.iconst 0, 1) := by decide +kernel
theorem dX5_draw_45 : decode cX5_draw 45 = .ok (.istore_n 3, 1) := by decide +kernel
theorem dX5_draw_46 : decode cX5_draw 46 = .ok (.iload_n 3, 1) := by decide +kernel
theorem dX5_draw_47 : decode cX5_draw 47 = .ok (.aload_n 0, 1) := by decide +kernel
theorem dX5_draw_48 : decode cX5_draw 48 = .ok (.getfield 88, 3) := by decide +kernel
theorem dX5_draw_51 : decode cX5_draw 51 = .ok (.if_icmp .ge 16, 3) := by decide +kernel
theorem dX5_draw_54 : decode cX5_draw 54 = .ok (.aload_n 0, 1) := by decide +kernel
theorem dX5_draw_55 : decode cX5_draw 55 = .ok (.getfield 32, 3) := by decide +kernel
theorem dX5_draw_58 : decode cX5_draw 58 = .ok (.iload_n 3, 1) := by decide +kernel
theorem dX5_draw_59 : decode cX5_draw 59 = .ok (.iload_n 3, 1) := by decide +kernel
theorem dX5_draw_60 : decode cX5_draw 60 = .ok (.iastore, 1) := by decide +kernel
theorem dX5_draw_61 : decode cX5_draw 61 = .ok (.iinc 3 1, 3) := by decide +kernel
theorem dX5_draw_64 : decode cX5_draw 64 = .ok (.goto (-18), 3) := by decide +kernel
theorem dX5_draw_67 : decode cX5_draw 67 = .ok (.aload_n 0, 1) := by decide +kernel
theorem dX5_draw_68 : decode cX5_draw 68 = .ok (.getfield 7, 3) := by decide +kernel
theorem dX5_draw_71 : decode cX5_draw 71 = .ok (.iconst 0, 1) := by decide +kernel
theorem dX5_draw_72 : decode cX5_draw 72 = .ok (.iaload, 1) := by decide +kernel
theorem dX5_draw_73 : decode cX5_draw 73 = .ok (.ireturn, 1) := by decide +kernel
theorem dX5_same_0 : decode cX5_same 0 = .ok (.aload_n 0, 1) := by decide +kernel
theorem dX5_same_1 : decode cX5_same 1 = .ok (.iconst 0, 1) := by decide +kernel
theorem dX5_same_2 : decode cX5_same 2 = .ok (.putfield 50, 3) := by decide +kernel
theorem dX5_same_5 : decode cX5_same 5 = .ok (.iload_n 3, 1) := by decide +kernel
theorem dX5_same_6 : decode cX5_same 6 = .ok (.iload 4, 2) := by decide +kernel
theorem dX5_same_8 : decode cX5_same 8 = .ok (.invokestatic 80, 3) := by decide +kernel
theorem dX5_same_11 : decode cX5_same 11 = .ok (.ifCond .eq 5, 3) := by decide +kernel
theorem dX5_same_14 : decode cX5_same 14 = .ok (.iconst 0, 1) := by decide +kernel
theorem dX5_same_15 : decode cX5_same 15 = .ok (.ireturn, 1) := by decide +kernel
theorem dX5_same_16 : decode cX5_same 16 = .ok (.aload_n 0, 1) := by decide +kernel
theorem dX5_same_17 : decode cX5_same 17 = .ok (.getfield 47, 3) := by decide +kernel
theorem dX5_same_20 : decode cX5_same 20 = .ok (.lstore 5, 2) := by decide +kernel
theorem dX5_same_22 : decode cX5_same 22 = .ok (.aload_n 0, 1) := by decide +kernel
theorem dX5_same_23 : decode cX5_same 23 = .ok (.aload_n 0, 1) := by decide +kernel
theorem dX5_same_24 : decode cX5_same 24 = .ok (.getfield 43, 3) := by decide +kernel
theorem dX5_same_27 : decode cX5_same 27 = .ok (.putfield 47, 3) := by decide +kernel
theorem dX5_same_30 : decode cX5_same 30 = .ok (.aload_n 0, 1) := by decide +kernel
theorem dX5_same_31 : decode cX5_same 31 = .ok (.iconst 1, 1) := by decide +kernel
theorem dX5_same_32 : decode cX5_same 32 = .ok (.iload_n 3, 1) := by decide +kernel
theorem dX5_same_33 : decode cX5_same 33 = .ok (.iload 4, 2) := by decide +kernel
theorem dX5_same_35 : decode cX5_same 35 = .ok (.invokevirtual 84, 3) := by decide +kernel
theorem dX5_same_38 : decode cX5_same 38 = .ok (.aload_n 0, 1) := by decide +kernel
theorem dX5_same_39 : decode cX5_same 39 = .ok (.lload_n 1, 1) := by decide +kernel
theorem dX5_same_40 : decode cX5_same 40 = .ok (.putfield 47, 3) := by decide +kernel
theorem dX5_same_43 : decode cX5_same 43 = .ok (.aload_n 0, 1) := by decide +kernel
theorem dX5_same_44 : decode cX5_same 44 = .ok (.iconst 2, 1) := by decide +kernel
theorem dX5_same_45 : decode cX5_same 45 = .ok (.iload_n 3, 1) := by decide +kernel
theorem dX5_same_46 : decode cX5_same 46 = .ok (.iload 4, 2) := by decide +kernel
theorem dX5_same_48 : decode cX5_same 48 = .ok (.invokevirtual 84, 3) := by decide +kernel
theorem dX5_same_51 : decode cX5_same 51 = .ok (.aload_n 0, 1) := by decide +kernel
theorem dX5_same_52 : decode cX5_same 52 = .ok (.lload 5, 2) := by decide +kernel
theorem dX5_same_54 : decode cX5_same 54 = .ok (.putfield 47, 3) := by decide +kernel
theorem dX5_same_57 : decode cX5_same 57 = .ok (.aload_n 0, 1) := by decide +kernel
theorem dX5_same_58 : decode cX5_same 58 = .ok (.getfield 7, 3) := by decide +kernel
theorem dX5_same_61 : decode cX5_same 61 = .ok (.iconst 1, 1) := by decide +kernel
theorem dX5_same_62 : decode cX5_same 62 = .ok (.iaload, 1) := by decide +kernel
theorem dX5_same_63 : decode cX5_same 63 = .ok (.aload_n 0, 1) := by decide +kernel
theorem dX5_same_64 : decode cX5_same 64 = .ok (.getfield 7, 3) := by decide +kernel
theorem dX5_same_67 : decode cX5_same 67 = .ok (.iconst 2, 1) := by decide +kernel
theorem dX5_same_68 : decode cX5_same 68 = .ok (.iaload, 1) := by decide +kernel
theorem dX5_same_69 : decode cX5_same 69 = .ok (.if_icmp .ne 37, 3) := by decide +kernel
theorem dX5_same_72 : decode cX5_same 72 = .ok (.aload_n 0, 1) := by decide +kernel
theorem dX5_same_73 : decode cX5_same 73 = .ok (.getfield 26, 3) := by decide +kernel
theorem dX5_same_76 : decode cX5_same 76 = .ok (.iconst 1, 1) := by decide +kernel
theorem dX5_same_77 : decode cX5_same 77 = .ok (.iaload, 1) := by decide +kernel
theorem dX5_same_78 : decode cX5_same 78 = .ok (.aload_n 0, 1) := by decide +kernel
theorem dX5_same_79 : decode cX5_same 79 = .ok (.getfield 26, 3) := by decide +kernel
theorem dX5_same_82 : decode cX5_same 82 = .ok (.iconst 2, 1) := by decide +kernel
theorem dX5_same_83 : decode cX5_same 83 = .ok (.iaload, 1) := by decide +kernel
theorem dX5_same_84 : decode cX5_same 84 = .ok (.if_icmp .ne 22, 3) := by decide +kernel
theorem dX5_same_87 : decode cX5_same 87 = .ok (.aload_n 0, 1) := by decide +kernel
theorem dX5_same_88 : decode cX5_same 88 = .ok (.getfield 29, 3) := by decide +kernel
theorem dX5_same_91 : decode cX5_same 91 = .ok (.iconst 1, 1) := by decide +kernel
theorem dX5_same_92 : decode cX5_same 92 = .ok (.iaload, 1) := by decide +kernel
theorem dX5_same_93 : decode cX5_same 93 = .ok (.aload_n 0, 1) := by decide +kernel
theorem dX5_same_94 : decode cX5_same 94 = .ok (.getfield 29, 3) := by decide +kernel
theorem dX5_same_97 : decode cX5_same 97 = .ok (.iconst 2, 1) := by decide +kernel
theorem dX5_same_98 : decode cX5_same 98 = .ok (.iaload, 1) := by decide +kernel
theorem dX5_same_99 : decode cX5_same 99 = .ok (.if_icmp .ne 7, 3) := by decide +kernel
theorem dX5_same_102 : decode cX5_same 102 = .ok (.iconst 1, 1) := by decide +kernel
theorem dX5_same_103 : decode cX5_same 103 = .ok (.goto 4, 3) := by decide +kernel
theorem dX5_same_106 : decode cX5_same 106 = .ok (.iconst 0, 1) := by decide +kernel
theorem dX5_same_107 : decode cX5_same 107 = .ok (.istore 7, 2) := by decide +kernel
theorem dX5_same_109 : decode cX5_same 109 = .ok (.iconst 0, 1) := by decide +kernel
theorem dX5_same_110 : decode cX5_same 110 = .ok (.istore 8, 2) := by decide +kernel
theorem dX5_same_112 : decode cX5_same 112 = .ok (.iload 8, 2) := by decide +kernel
theorem dX5_same_114 : decode cX5_same 114 = .ok (.aload_n 0, 1) := by decide +kernel
theorem dX5_same_115 : decode cX5_same 115 = .ok (.getfield 7, 3) := by decide +kernel
theorem dX5_same_118 : decode cX5_same 118 = .ok (.iconst 1, 1) := by decide +kernel
theorem dX5_same_119 : decode cX5_same 119 = .ok (.iaload, 1) := by decide +kernel
theorem dX5_same_120 : decode cX5_same 120 = .ok (.if_icmp .ge 106, 3) := by decide +kernel
theorem dX5_same_123 : decode cX5_same 123 = .ok (.iload 7, 2) := by decide +kernel
theorem dX5_same_125 : decode cX5_same 125 = .ok (.ifCond .eq 101, 3) := by decide +kernel
theorem dX5_same_128 : decode cX5_same 128 = .ok (.bipush 40, 2) := by decide +kernel
theorem dX5_same_130 : decode cX5_same 130 = .ok (.iload 8, 2) := by decide +kernel
theorem dX5_same_132 : decode cX5_same 132 = .ok (.iadd, 1) := by decide +kernel
theorem dX5_same_133 : decode cX5_same 133 = .ok (.istore 9, 2) := by decide +kernel
theorem dX5_same_135 : decode cX5_same 135 = .ok (.bipush 80, 2) := by decide +kernel
theorem dX5_same_137 : decode cX5_same 137 = .ok (.iload 8, 2) := by decide +kernel
theorem dX5_same_139 : decode cX5_same 139 = .ok (.iadd, 1) := by decide +kernel
theorem dX5_same_140 : decode cX5_same 140 = .ok (.istore 10, 2) := by decide +kernel
theorem dX5_same_142 : decode cX5_same 142 = .ok (.aload_n 0, 1) := by decide +kernel
theorem dX5_same_143 : decode cX5_same 143 = .ok (.getfield 13, 3) := by decide +kernel
theorem dX5_same_146 : decode cX5_same 146 = .ok (.iload 9, 2) := by decide +kernel
theorem dX5_same_148 : decode cX5_same 148 = .ok (.iaload, 1) := by decide +kernel
theorem dX5_same_149 : decode cX5_same 149 = .ok (.aload_n 0, 1) := by decide +kernel
theorem dX5_same_150 : decode cX5_same 150 = .ok (.getfield 13, 3) := by decide +kernel
theorem dX5_same_153 : decode cX5_same 153 = .ok (.iload 10, 2) := by decide +kernel
theorem dX5_same_155 : decode cX5_same 155 = .ok (.iaload, 1) := by decide +kernel
theorem dX5_same_156 : decode cX5_same 156 = .ok (.if_icmp .ne 61, 3) := by decide +kernel
theorem dX5_same_159 : decode cX5_same 159 = .ok (.aload_n 0, 1) := by decide +kernel
theorem dX5_same_160 : decode cX5_same 160 = .ok (.getfield 16, 3) := by decide +kernel
theorem dX5_same_163 : decode cX5_same 163 = .ok (.iload 9, 2) := by decide +kernel
theorem dX5_same_165 : decode cX5_same 165 = .ok (.laload, 1) := by decide +kernel
theorem dX5_same_166 : decode cX5_same 166 = .ok (.aload_n 0, 1) := by decide +kernel
theorem dX5_same_167 : decode cX5_same 167 = .ok (.getfield 16, 3) := by decide +kernel
theorem dX5_same_170 : decode cX5_same 170 = .ok (.iload 10, 2) := by decide +kernel
theorem dX5_same_172 : decode cX5_same 172 = .ok (.laload, 1) := by decide +kernel
theorem dX5_same_173 : decode cX5_same 173 = .ok (.lcmp, 1) := by decide +kernel
theorem dX5_same_174 : decode cX5_same 174 = .ok (.ifCond .ne 43, 3) := by decide +kernel
theorem dX5_same_177 : decode cX5_same 177 = .ok (.aload_n 0, 1) := by decide +kernel
theorem dX5_same_178 : decode cX5_same 178 = .ok (.getfield 20, 3) := by decide +kernel
theorem dX5_same_181 : decode cX5_same 181 = .ok (.iload 9, 2) := by decide +kernel
theorem dX5_same_183 : decode cX5_same 183 = .ok (.laload, 1) := by decide +kernel
theorem dX5_same_184 : decode cX5_same 184 = .ok (.aload_n 0, 1) := by decide +kernel
theorem dX5_same_185 : decode cX5_same 185 = .ok (.getfield 20, 3) := by decide +kernel
theorem dX5_same_188 : decode cX5_same 188 = .ok (.iload 10, 2) := by decide +kernel
theorem dX5_same_190 : decode cX5_same 190 = .ok (.laload, 1) := by decide +kernel
theorem dX5_same_191 : decode cX5_same 191 = .ok (.lcmp, 1) := by decide +kernel
theorem dX5_same_192 : decode cX5_same 192 = .ok (.ifCond .ne 25, 3) := by decide +kernel
theorem dX5_same_195 : decode cX5_same 195 = .ok (.aload_n 0, 1) := by decide +kernel
theorem dX5_same_196 : decode cX5_same 196 = .ok (.getfield 23, 3) := by decide +kernel
theorem dX5_same_199 : decode cX5_same 199 = .ok (.iload 9, 2) := by decide +kernel
theorem dX5_same_201 : decode cX5_same 201 = .ok (.laload, 1) := by decide +kernel
theorem dX5_same_202 : decode cX5_same 202 = .ok (.aload_n 0, 1) := by decide +kernel
theorem dX5_same_203 : decode cX5_same 203 = .ok (.getfield 23, 3) := by decide +kernel
theorem dX5_same_206 : decode cX5_same 206 = .ok (.iload 10, 2) := by decide +kernel
theorem dX5_same_208 : decode cX5_same 208 = .ok (.laload, 1) := by decide +kernel
theorem dX5_same_209 : decode cX5_same 209 = .ok (.lcmp, 1) := by decide +kernel
theorem dX5_same_210 : decode cX5_same 210 = .ok (.ifCond .ne 7, 3) := by decide +kernel
theorem dX5_same_213 : decode cX5_same 213 = .ok (.iconst 1, 1) := by decide +kernel
theorem dX5_same_214 : decode cX5_same 214 = .ok (.goto 4, 3) := by decide +kernel
theorem dX5_same_217 : decode cX5_same 217 = .ok (.iconst 0, 1) := by decide +kernel
theorem dX5_same_218 : decode cX5_same 218 = .ok (.istore 7, 2) := by decide +kernel
theorem dX5_same_220 : decode cX5_same 220 = .ok (.iinc 8 1, 3) := by decide +kernel
theorem dX5_same_223 : decode cX5_same 223 = .ok (.goto (-111), 3) := by decide +kernel
theorem dX5_same_226 : decode cX5_same 226 = .ok (.iload 7, 2) := by decide +kernel
theorem dX5_same_228 : decode cX5_same 228 = .ok (.ireturn, 1) := by decide +kernel
theorem dX5_placeOf_0 : decode cX5_placeOf 0 = .ok (.iconst 0, 1) := by decide +kernel
theorem dX5_placeOf_1 : decode cX5_placeOf 1 = .ok (.istore_n 2, 1) := by decide +kernel
theorem dX5_placeOf_2 : decode cX5_placeOf 2 = .ok (.iload_n 2, 1) := by decide +kernel
theorem dX5_placeOf_3 : decode cX5_placeOf 3 = .ok (.aload_n 0, 1) := by decide +kernel
theorem dX5_placeOf_4 : decode cX5_placeOf 4 = .ok (.getfield 88, 3) := by decide +kernel
theorem dX5_placeOf_7 : decode cX5_placeOf 7 = .ok (.if_icmp .ge 21, 3) := by decide +kernel
theorem dX5_placeOf_10 : decode cX5_placeOf 10 = .ok (.aload_n 0, 1) := by decide +kernel
theorem dX5_placeOf_11 : decode cX5_placeOf 11 = .ok (.getfield 32, 3) := by decide +kernel
theorem dX5_placeOf_14 : decode cX5_placeOf 14 = .ok (.iload_n 2, 1) := by decide +kernel
theorem dX5_placeOf_15 : decode cX5_placeOf 15 = .ok (.iaload, 1) := by decide +kernel
theorem dX5_placeOf_16 : decode cX5_placeOf 16 = .ok (.iload_n 1, 1) := by decide +kernel
theorem dX5_placeOf_17 : decode cX5_placeOf 17 = .ok (.if_icmp .ne 5, 3) := by decide +kernel
theorem dX5_placeOf_20 : decode cX5_placeOf 20 = .ok (.iload_n 2, 1) := by decide +kernel
theorem dX5_placeOf_21 : decode cX5_placeOf 21 = .ok (.ireturn, 1) := by decide +kernel
theorem dX5_placeOf_22 : decode cX5_placeOf 22 = .ok (.iinc 2 1, 3) := by decide +kernel
theorem dX5_placeOf_25 : decode cX5_placeOf 25 = .ok (.goto (-23), 3) := by decide +kernel
theorem dX5_placeOf_28 : decode cX5_placeOf 28 = .ok (.iconst (-1), 1) := by decide +kernel
theorem dX5_placeOf_29 : decode cX5_placeOf 29 = .ok (.ireturn, 1) := by decide +kernel
theorem dX5_part_0 : decode cX5_part 0 = .ok (.aload_n 0, 1) := by decide +kernel
theorem dX5_part_1 : decode cX5_part 1 = .ok (.iconst 0, 1) := by decide +kernel
theorem dX5_part_2 : decode cX5_part 2 = .ok (.putfield 50, 3) := by decide +kernel
theorem dX5_part_5 : decode cX5_part 5 = .ok (.iload_n 1, 1) := by decide +kernel
theorem dX5_part_6 : decode cX5_part 6 = .ok (.ifCond .lt 13, 3) := by decide +kernel
theorem dX5_part_9 : decode cX5_part 9 = .ok (.iload_n 1, 1) := by decide +kernel
theorem dX5_part_10 : decode cX5_part 10 = .ok (.aload_n 0, 1) := by decide +kernel
theorem dX5_part_11 : decode cX5_part 11 = .ok (.getfield 7, 3) := by decide +kernel
theorem dX5_part_14 : decode cX5_part 14 = .ok (.iconst 0, 1) := by decide +kernel
theorem dX5_part_15 : decode cX5_part 15 = .ok (.iaload, 1) := by decide +kernel
theorem dX5_part_16 : decode cX5_part 16 = .ok (.if_icmp .lt 7, 3) := by decide +kernel
theorem dX5_part_19 : decode cX5_part 19 = .ok (.ldc2_w 78, 3) := by decide +kernel
theorem dX5_part_22 : decode cX5_part 22 = .ok (.lreturn, 1) := by decide +kernel
theorem dX5_part_23 : decode cX5_part 23 = .ok (.iload_n 2, 1) := by decide +kernel
theorem dX5_part_24 : decode cX5_part 24 = .ok (.tableswitch 79 0 4 #[36, 44, 51, 58, 65], 36) := by decide +kernel
theorem dX5_part_60 : decode cX5_part 60 = .ok (.aload_n 0, 1) := by decide +kernel
theorem dX5_part_61 : decode cX5_part 61 = .ok (.getfield 13, 3) := by decide +kernel
theorem dX5_part_64 : decode cX5_part 64 = .ok (.iload_n 1, 1) := by decide +kernel
theorem dX5_part_65 : decode cX5_part 65 = .ok (.iaload, 1) := by decide +kernel
theorem dX5_part_66 : decode cX5_part 66 = .ok (.i2l, 1) := by decide +kernel
theorem dX5_part_67 : decode cX5_part 67 = .ok (.lreturn, 1) := by decide +kernel
theorem dX5_part_68 : decode cX5_part 68 = .ok (.aload_n 0, 1) := by decide +kernel
theorem dX5_part_69 : decode cX5_part 69 = .ok (.getfield 16, 3) := by decide +kernel
theorem dX5_part_72 : decode cX5_part 72 = .ok (.iload_n 1, 1) := by decide +kernel
theorem dX5_part_73 : decode cX5_part 73 = .ok (.laload, 1) := by decide +kernel
theorem dX5_part_74 : decode cX5_part 74 = .ok (.lreturn, 1) := by decide +kernel
theorem dX5_part_75 : decode cX5_part 75 = .ok (.aload_n 0, 1) := by decide +kernel
theorem dX5_part_76 : decode cX5_part 76 = .ok (.getfield 20, 3) := by decide +kernel
theorem dX5_part_79 : decode cX5_part 79 = .ok (.iload_n 1, 1) := by decide +kernel
theorem dX5_part_80 : decode cX5_part 80 = .ok (.laload, 1) := by decide +kernel
theorem dX5_part_81 : decode cX5_part 81 = .ok (.lreturn, 1) := by decide +kernel
theorem dX5_part_82 : decode cX5_part 82 = .ok (.aload_n 0, 1) := by decide +kernel
theorem dX5_part_83 : decode cX5_part 83 = .ok (.getfield 23, 3) := by decide +kernel
theorem dX5_part_86 : decode cX5_part 86 = .ok (.iload_n 1, 1) := by decide +kernel
theorem dX5_part_87 : decode cX5_part 87 = .ok (.laload, 1) := by decide +kernel
theorem dX5_part_88 : decode cX5_part 88 = .ok (.lreturn, 1) := by decide +kernel
theorem dX5_part_89 : decode cX5_part 89 = .ok (.aload_n 0, 1) := by decide +kernel
theorem dX5_part_90 : decode cX5_part 90 = .ok (.iload_n 1, 1) := by decide +kernel
theorem dX5_part_91 : decode cX5_part 91 = .ok (.invokevirtual 91, 3) := by decide +kernel
theorem dX5_part_94 : decode cX5_part 94 = .ok (.ifCond .ge 7, 3) := by decide +kernel
theorem dX5_part_97 : decode cX5_part 97 = .ok (.lconst 0, 1) := by decide +kernel
theorem dX5_part_98 : decode cX5_part 98 = .ok (.goto 4, 3) := by decide +kernel
theorem dX5_part_101 : decode cX5_part 101 = .ok (.lconst 1, 1) := by decide +kernel
theorem dX5_part_102 : decode cX5_part 102 = .ok (.lreturn, 1) := by decide +kernel
theorem dX5_part_103 : decode cX5_part 103 = .ok (.ldc2_w 94, 3) := by decide +kernel
theorem dX5_part_106 : decode cX5_part 106 = .ok (.lreturn, 1) := by decide +kernel
theorem dX5_type_0 : decode cX5_type 0 = .ok (.aload_n 0, 1) := by decide +kernel
theorem dX5_type_1 : decode cX5_type 1 = .ok (.getfield 39, 3) := by decide +kernel
theorem dX5_type_4 : decode cX5_type 4 = .ok (.aload_n 0, 1) := by decide +kernel
theorem dX5_type_5 : decode cX5_type 5 = .ok (.getfield 96, 3) := by decide +kernel
theorem dX5_type_8 : decode cX5_type 8 = .ok (.iload_n 1, 1) := by decide +kernel
theorem dX5_type_9 : decode cX5_type 9 = .ok (.i2b, 1) := by decide +kernel
theorem dX5_type_10 : decode cX5_type 10 = .ok (.bastore, 1) := by decide +kernel
theorem dX5_type_11 : decode cX5_type 11 = .ok (.aload_n 0, 1) := by decide +kernel
theorem dX5_type_12 : decode cX5_type 12 = .ok (.dup, 1) := by decide +kernel
theorem dX5_type_13 : decode cX5_type 13 = .ok (.getfield 96, 3) := by decide +kernel
theorem dX5_type_16 : decode cX5_type 16 = .ok (.iconst 1, 1) := by decide +kernel
theorem dX5_type_17 : decode cX5_type 17 = .ok (.iadd, 1) := by decide +kernel
theorem dX5_type_18 : decode cX5_type 18 = .ok (.putfield 96, 3) := by decide +kernel
theorem dX5_type_21 : decode cX5_type 21 = .ok (.return_, 1) := by decide +kernel
theorem dX5_typeNumber_0 : decode cX5_typeNumber 0 = .ok (.aload_n 0, 1) := by decide +kernel
theorem dX5_typeNumber_1 : decode cX5_typeNumber 1 = .ok (.bipush 32, 2) := by decide +kernel
theorem dX5_typeNumber_3 : decode cX5_typeNumber 3 = .ok (.invokevirtual 99, 3) := by decide +kernel
theorem dX5_typeNumber_6 : decode cX5_typeNumber 6 = .ok (.lload_n 1, 1) := by decide +kernel
theorem dX5_typeNumber_7 : decode cX5_typeNumber 7 = .ok (.lstore_n 3, 1) := by decide +kernel
theorem dX5_typeNumber_8 : decode cX5_typeNumber 8 = .ok (.lload_n 1, 1) := by decide +kernel
theorem dX5_typeNumber_9 : decode cX5_typeNumber 9 = .ok (.lconst 0, 1) := by decide +kernel
theorem dX5_typeNumber_10 : decode cX5_typeNumber 10 = .ok (.lcmp, 1) := by decide +kernel
theorem dX5_typeNumber_11 : decode cX5_typeNumber 11 = .ok (.ifCond .ge 12, 3) := by decide +kernel
theorem dX5_typeNumber_14 : decode cX5_typeNumber 14 = .ok (.aload_n 0, 1) := by decide +kernel
theorem dX5_typeNumber_15 : decode cX5_typeNumber 15 = .ok (.bipush 45, 2) := by decide +kernel
theorem dX5_typeNumber_17 : decode cX5_typeNumber 17 = .ok (.invokevirtual 99, 3) := by decide +kernel
theorem dX5_typeNumber_20 : decode cX5_typeNumber 20 = .ok (.lload_n 1, 1) := by decide +kernel
theorem dX5_typeNumber_21 : decode cX5_typeNumber 21 = .ok (.lneg, 1) := by decide +kernel
theorem dX5_typeNumber_22 : decode cX5_typeNumber 22 = .ok (.lstore_n 3, 1) := by decide +kernel
theorem dX5_typeNumber_23 : decode cX5_typeNumber 23 = .ok (.lconst 1, 1) := by decide +kernel
theorem dX5_typeNumber_24 : decode cX5_typeNumber 24 = .ok (.lstore 5, 2) := by decide +kernel
theorem dX5_typeNumber_26 : decode cX5_typeNumber 26 = .ok (.lload_n 3, 1) := by decide +kernel
theorem dX5_typeNumber_27 : decode cX5_typeNumber 27 = .ok (.lload 5, 2) := by decide +kernel
theorem dX5_typeNumber_29 : decode cX5_typeNumber 29 = .ok (.ldiv, 1) := by decide +kernel
theorem dX5_typeNumber_30 : decode cX5_typeNumber 30 = .ok (.ldc2_w 103, 3) := by decide +kernel
theorem dX5_typeNumber_33 : decode cX5_typeNumber 33 = .ok (.lcmp, 1) := by decide +kernel
theorem dX5_typeNumber_34 : decode cX5_typeNumber 34 = .ok (.ifCond .le 14, 3) := by decide +kernel
theorem dX5_typeNumber_37 : decode cX5_typeNumber 37 = .ok (.lload 5, 2) := by decide +kernel
theorem dX5_typeNumber_39 : decode cX5_typeNumber 39 = .ok (.ldc2_w 105, 3) := by decide +kernel
theorem dX5_typeNumber_42 : decode cX5_typeNumber 42 = .ok (.lmul, 1) := by decide +kernel
theorem dX5_typeNumber_43 : decode cX5_typeNumber 43 = .ok (.lstore 5, 2) := by decide +kernel
theorem dX5_typeNumber_45 : decode cX5_typeNumber 45 = .ok (.goto (-19), 3) := by decide +kernel
theorem dX5_typeNumber_48 : decode cX5_typeNumber 48 = .ok (.lload 5, 2) := by decide +kernel
theorem dX5_typeNumber_50 : decode cX5_typeNumber 50 = .ok (.lconst 0, 1) := by decide +kernel
theorem dX5_typeNumber_51 : decode cX5_typeNumber 51 = .ok (.lcmp, 1) := by decide +kernel
theorem dX5_typeNumber_52 : decode cX5_typeNumber 52 = .ok (.ifCond .le 30, 3) := by decide +kernel
theorem dX5_typeNumber_55 : decode cX5_typeNumber 55 = .ok (.aload_n 0, 1) := by decide +kernel
theorem dX5_typeNumber_56 : decode cX5_typeNumber 56 = .ok (.bipush 48, 2) := by decide +kernel
theorem dX5_typeNumber_58 : decode cX5_typeNumber 58 = .ok (.lload_n 3, 1) := by decide +kernel
theorem dX5_typeNumber_59 : decode cX5_typeNumber 59 = .ok (.lload 5, 2) := by decide +kernel
theorem dX5_typeNumber_61 : decode cX5_typeNumber 61 = .ok (.ldiv, 1) := by decide +kernel
theorem dX5_typeNumber_62 : decode cX5_typeNumber 62 = .ok (.ldc2_w 105, 3) := by decide +kernel
theorem dX5_typeNumber_65 : decode cX5_typeNumber 65 = .ok (.lrem, 1) := by decide +kernel
theorem dX5_typeNumber_66 : decode cX5_typeNumber 66 = .ok (.l2i, 1) := by decide +kernel
theorem dX5_typeNumber_67 : decode cX5_typeNumber 67 = .ok (.iadd, 1) := by decide +kernel
theorem dX5_typeNumber_68 : decode cX5_typeNumber 68 = .ok (.invokevirtual 99, 3) := by decide +kernel
theorem dX5_typeNumber_71 : decode cX5_typeNumber 71 = .ok (.lload 5, 2) := by decide +kernel
theorem dX5_typeNumber_73 : decode cX5_typeNumber 73 = .ok (.ldc2_w 105, 3) := by decide +kernel
theorem dX5_typeNumber_76 : decode cX5_typeNumber 76 = .ok (.ldiv, 1) := by decide +kernel
theorem dX5_typeNumber_77 : decode cX5_typeNumber 77 = .ok (.lstore 5, 2) := by decide +kernel
theorem dX5_typeNumber_79 : decode cX5_typeNumber 79 = .ok (.goto (-31), 3) := by decide +kernel
theorem dX5_typeNumber_82 : decode cX5_typeNumber 82 = .ok (.return_, 1) := by decide +kernel
theorem dX5_letter_0 : decode cX5_letter 0 = .ok (.aload_n 0, 1) := by decide +kernel
theorem dX5_letter_1 : decode cX5_letter 1 = .ok (.iconst 0, 1) := by decide +kernel
theorem dX5_letter_2 : decode cX5_letter 2 = .ok (.putfield 50, 3) := by decide +kernel
theorem dX5_letter_5 : decode cX5_letter 5 = .ok (.aload_n 0, 1) := by decide +kernel
theorem dX5_letter_6 : decode cX5_letter 6 = .ok (.iconst 0, 1) := by decide +kernel
theorem dX5_letter_7 : decode cX5_letter 7 = .ok (.putfield 96, 3) := by decide +kernel
theorem dX5_letter_10 : decode cX5_letter 10 = .ok (.iconst 0, 1) := by decide +kernel
theorem dX5_letter_11 : decode cX5_letter 11 = .ok (.istore_n 2, 1) := by decide +kernel
theorem dX5_letter_12 : decode cX5_letter 12 = .ok (.iload_n 2, 1) := by decide +kernel
theorem dX5_letter_13 : decode cX5_letter 13 = .ok (.aload_n 0, 1) := by decide +kernel
theorem dX5_letter_14 : decode cX5_letter 14 = .ok (.getfield 88, 3) := by decide +kernel
theorem dX5_letter_17 : decode cX5_letter 17 = .ok (.if_icmp .ge 65, 3) := by decide +kernel
theorem dX5_letter_20 : decode cX5_letter 20 = .ok (.aload_n 0, 1) := by decide +kernel
theorem dX5_letter_21 : decode cX5_letter 21 = .ok (.getfield 32, 3) := by decide +kernel
theorem dX5_letter_24 : decode cX5_letter 24 = .ok (.iload_n 2, 1) := by decide +kernel
theorem dX5_letter_25 : decode cX5_letter 25 = .ok (.iaload, 1) := by decide +kernel
theorem dX5_letter_26 : decode cX5_letter 26 = .ok (.istore_n 3, 1) := by decide +kernel
theorem dX5_letter_27 : decode cX5_letter 27 = .ok (.aload_n 0, 1) := by decide +kernel
theorem dX5_letter_28 : decode cX5_letter 28 = .ok (.bipush 97, 2) := by decide +kernel
theorem dX5_letter_30 : decode cX5_letter 30 = .ok (.aload_n 0, 1) := by decide +kernel
theorem dX5_letter_31 : decode cX5_letter 31 = .ok (.getfield 13, 3) := by decide +kernel
theorem dX5_letter_34 : decode cX5_letter 34 = .ok (.iload_n 3, 1) := by decide +kernel
theorem dX5_letter_35 : decode cX5_letter 35 = .ok (.iaload, 1) := by decide +kernel
theorem dX5_letter_36 : decode cX5_letter 36 = .ok (.iadd, 1) := by decide +kernel
theorem dX5_letter_37 : decode cX5_letter 37 = .ok (.invokevirtual 99, 3) := by decide +kernel
theorem dX5_letter_40 : decode cX5_letter 40 = .ok (.aload_n 0, 1) := by decide +kernel
theorem dX5_letter_41 : decode cX5_letter 41 = .ok (.aload_n 0, 1) := by decide +kernel
theorem dX5_letter_42 : decode cX5_letter 42 = .ok (.getfield 16, 3) := by decide +kernel
theorem dX5_letter_45 : decode cX5_letter 45 = .ok (.iload_n 3, 1) := by decide +kernel
theorem dX5_letter_46 : decode cX5_letter 46 = .ok (.laload, 1) := by decide +kernel
theorem dX5_letter_47 : decode cX5_letter 47 = .ok (.invokevirtual 107, 3) := by decide +kernel
theorem dX5_letter_50 : decode cX5_letter 50 = .ok (.aload_n 0, 1) := by decide +kernel
theorem dX5_letter_51 : decode cX5_letter 51 = .ok (.aload_n 0, 1) := by decide +kernel
theorem dX5_letter_52 : decode cX5_letter 52 = .ok (.getfield 20, 3) := by decide +kernel
theorem dX5_letter_55 : decode cX5_letter 55 = .ok (.iload_n 3, 1) := by decide +kernel
theorem dX5_letter_56 : decode cX5_letter 56 = .ok (.laload, 1) := by decide +kernel
theorem dX5_letter_57 : decode cX5_letter 57 = .ok (.invokevirtual 107, 3) := by decide +kernel
theorem dX5_letter_60 : decode cX5_letter 60 = .ok (.aload_n 0, 1) := by decide +kernel
theorem dX5_letter_61 : decode cX5_letter 61 = .ok (.aload_n 0, 1) := by decide +kernel
theorem dX5_letter_62 : decode cX5_letter 62 = .ok (.getfield 23, 3) := by decide +kernel
theorem dX5_letter_65 : decode cX5_letter 65 = .ok (.iload_n 3, 1) := by decide +kernel
theorem dX5_letter_66 : decode cX5_letter 66 = .ok (.laload, 1) := by decide +kernel
theorem dX5_letter_67 : decode cX5_letter 67 = .ok (.invokevirtual 107, 3) := by decide +kernel
theorem dX5_letter_70 : decode cX5_letter 70 = .ok (.aload_n 0, 1) := by decide +kernel
theorem dX5_letter_71 : decode cX5_letter 71 = .ok (.bipush 10, 2) := by decide +kernel
theorem dX5_letter_73 : decode cX5_letter 73 = .ok (.invokevirtual 99, 3) := by decide +kernel
theorem dX5_letter_76 : decode cX5_letter 76 = .ok (.iinc 2 1, 3) := by decide +kernel
theorem dX5_letter_79 : decode cX5_letter 79 = .ok (.goto (-67), 3) := by decide +kernel
theorem dX5_letter_82 : decode cX5_letter 82 = .ok (.iload_n 1, 1) := by decide +kernel
theorem dX5_letter_83 : decode cX5_letter 83 = .ok (.ifCond .lt 20, 3) := by decide +kernel
theorem dX5_letter_86 : decode cX5_letter 86 = .ok (.iload_n 1, 1) := by decide +kernel
theorem dX5_letter_87 : decode cX5_letter 87 = .ok (.aload_n 0, 1) := by decide +kernel
theorem dX5_letter_88 : decode cX5_letter 88 = .ok (.getfield 96, 3) := by decide +kernel
theorem dX5_letter_91 : decode cX5_letter 91 = .ok (.if_icmp .ge 12, 3) := by decide +kernel
theorem dX5_letter_94 : decode cX5_letter 94 = .ok (.aload_n 0, 1) := by decide +kernel
theorem dX5_letter_95 : decode cX5_letter 95 = .ok (.getfield 39, 3) := by decide +kernel
theorem dX5_letter_98 : decode cX5_letter 98 = .ok (.iload_n 1, 1) := by decide +kernel
theorem dX5_letter_99 : decode cX5_letter 99 = .ok (.baload, 1) := by decide +kernel
theorem dX5_letter_100 : decode cX5_letter 100 = .ok (.goto 4, 3) := by decide +kernel
theorem dX5_letter_103 : decode cX5_letter 103 = .ok (.iconst (-1), 1) := by decide +kernel
theorem dX5_letter_104 : decode cX5_letter 104 = .ok (.ireturn, 1) := by decide +kernel
theorem dX5_signature_0 : decode cX5_signature 0 = .ok (.iconst 0, 1) := by decide +kernel
theorem dX5_signature_1 : decode cX5_signature 1 = .ok (.istore_n 3, 1) := by decide +kernel
theorem dX5_signature_2 : decode cX5_signature 2 = .ok (.lconst 0, 1) := by decide +kernel
theorem dX5_signature_3 : decode cX5_signature 3 = .ok (.lstore 4, 2) := by decide +kernel
theorem dX5_signature_5 : decode cX5_signature 5 = .ok (.iconst 0, 1) := by decide +kernel
theorem dX5_signature_6 : decode cX5_signature 6 = .ok (.istore 6, 2) := by decide +kernel
theorem dX5_signature_8 : decode cX5_signature 8 = .ok (.iload 6, 2) := by decide +kernel
theorem dX5_signature_10 : decode cX5_signature 10 = .ok (.aload_n 0, 1) := by decide +kernel
theorem dX5_signature_11 : decode cX5_signature 11 = .ok (.getfield 88, 3) := by decide +kernel
theorem dX5_signature_14 : decode cX5_signature 14 = .ok (.if_icmp .ge 78, 3) := by decide +kernel
theorem dX5_signature_17 : decode cX5_signature 17 = .ok (.iload 6, 2) := by decide +kernel
theorem dX5_signature_19 : decode cX5_signature 19 = .ok (.iload_n 1, 1) := by decide +kernel
theorem dX5_signature_20 : decode cX5_signature 20 = .ok (.if_icmp .lt 11, 3) := by decide +kernel
theorem dX5_signature_23 : decode cX5_signature 23 = .ok (.iload 6, 2) := by decide +kernel
theorem dX5_signature_25 : decode cX5_signature 25 = .ok (.iload_n 1, 1) := by decide +kernel
theorem dX5_signature_26 : decode cX5_signature 26 = .ok (.iload_n 2, 1) := by decide +kernel
theorem dX5_signature_27 : decode cX5_signature 27 = .ok (.iadd, 1) := by decide +kernel
theorem dX5_signature_28 : decode cX5_signature 28 = .ok (.if_icmp .lt 58, 3) := by decide +kernel
theorem dX5_signature_31 : decode cX5_signature 31 = .ok (.aload_n 0, 1) := by decide +kernel
theorem dX5_signature_32 : decode cX5_signature 32 = .ok (.getfield 32, 3) := by decide +kernel
theorem dX5_signature_35 : decode cX5_signature 35 = .ok (.iload 6, 2) := by decide +kernel
theorem dX5_signature_37 : decode cX5_signature 37 = .ok (.iaload, 1) := by decide +kernel
theorem dX5_signature_38 : decode cX5_signature 38 = .ok (.istore 7, 2) := by decide +kernel
theorem dX5_signature_40 : decode cX5_signature 40 = .ok (.iload_n 3, 1) := by decide +kernel
theorem dX5_signature_41 : decode cX5_signature 41 = .ok (.iconst 1, 1) := by decide +kernel
theorem dX5_signature_42 : decode cX5_signature 42 = .ok (.aload_n 0, 1) := by decide +kernel
theorem dX5_signature_43 : decode cX5_signature 43 = .ok (.getfield 13, 3) := by decide +kernel
theorem dX5_signature_46 : decode cX5_signature 46 = .ok (.iload 7, 2) := by decide +kernel
theorem dX5_signature_48 : decode cX5_signature 48 = .ok (.iaload, 1) := by decide +kernel
theorem dX5_signature_49 : decode cX5_signature 49 = .ok (.iconst 4, 1) := by decide +kernel
theorem dX5_signature_50 : decode cX5_signature 50 = .ok (.irem, 1) := by decide +kernel
theorem dX5_signature_51 : decode cX5_signature 51 = .ok (.ishl, 1) := by decide +kernel
theorem dX5_signature_52 : decode cX5_signature 52 = .ok (.ior, 1) := by decide +kernel
theorem dX5_signature_53 : decode cX5_signature 53 = .ok (.istore_n 3, 1) := by decide +kernel
theorem dX5_signature_54 : decode cX5_signature 54 = .ok (.iload_n 3, 1) := by decide +kernel
theorem dX5_signature_55 : decode cX5_signature 55 = .ok (.iload 7, 2) := by decide +kernel
theorem dX5_signature_57 : decode cX5_signature 57 = .ok (.aload_n 0, 1) := by decide +kernel
theorem dX5_signature_58 : decode cX5_signature 58 = .ok (.getfield 29, 3) := by decide +kernel
theorem dX5_signature_61 : decode cX5_signature 61 = .ok (.iconst 0, 1) := by decide +kernel
theorem dX5_signature_62 : decode cX5_signature 62 = .ok (.iaload, 1) := by decide +kernel
theorem dX5_signature_63 : decode cX5_signature 63 = .ok (.if_icmp .ne 8, 3) := by decide +kernel
theorem dX5_signature_66 : decode cX5_signature 66 = .ok (.bipush 16, 2) := by decide +kernel
theorem dX5_signature_68 : decode cX5_signature 68 = .ok (.goto 4, 3) := by decide +kernel
theorem dX5_signature_71 : decode cX5_signature 71 = .ok (.iconst 0, 1) := by decide +kernel
theorem dX5_signature_72 : decode cX5_signature 72 = .ok (.ior, 1) := by decide +kernel
theorem dX5_signature_73 : decode cX5_signature 73 = .ok (.istore_n 3, 1) := by decide +kernel
theorem dX5_signature_74 : decode cX5_signature 74 = .ok (.lload 4, 2) := by decide +kernel
theorem dX5_signature_76 : decode cX5_signature 76 = .ok (.aload_n 0, 1) := by decide +kernel
theorem dX5_signature_77 : decode cX5_signature 77 = .ok (.getfield 23, 3) := by decide +kernel
theorem dX5_signature_80 : decode cX5_signature 80 = .ok (.iload 7, 2) := by decide +kernel
theorem dX5_signature_82 : decode cX5_signature 82 = .ok (.laload, 1) := by decide +kernel
theorem dX5_signature_83 : decode cX5_signature 83 = .ok (.ladd, 1) := by decide +kernel
theorem dX5_signature_84 : decode cX5_signature 84 = .ok (.lstore 4, 2) := by decide +kernel
theorem dX5_signature_86 : decode cX5_signature 86 = .ok (.iinc 6 1, 3) := by decide +kernel
theorem dX5_signature_89 : decode cX5_signature 89 = .ok (.goto (-81), 3) := by decide +kernel
theorem dX5_signature_92 : decode cX5_signature 92 = .ok (.iload_n 3, 1) := by decide +kernel
theorem dX5_signature_93 : decode cX5_signature 93 = .ok (.lload 4, 2) := by decide +kernel
theorem dX5_signature_95 : decode cX5_signature 95 = .ok (.ldc2_w 111, 3) := by decide +kernel
theorem dX5_signature_98 : decode cX5_signature 98 = .ok (.lrem, 1) := by decide +kernel
theorem dX5_signature_99 : decode cX5_signature 99 = .ok (.lconst 0, 1) := by decide +kernel
theorem dX5_signature_100 : decode cX5_signature 100 = .ok (.lcmp, 1) := by decide +kernel
theorem dX5_signature_101 : decode cX5_signature 101 = .ok (.ifCond .eq 8, 3) := by decide +kernel
theorem dX5_signature_104 : decode cX5_signature 104 = .ok (.bipush 32, 2) := by decide +kernel
theorem dX5_signature_106 : decode cX5_signature 106 = .ok (.goto 4, 3) := by decide +kernel
theorem dX5_signature_109 : decode cX5_signature 109 = .ok (.iconst 0, 1) := by decide +kernel
theorem dX5_signature_110 : decode cX5_signature 110 = .ok (.iadd, 1) := by decide +kernel
theorem dX5_signature_111 : decode cX5_signature 111 = .ok (.ireturn, 1) := by decide +kernel
theorem dX5_planted_0 : decode cX5_planted 0 = .ok (.aload_n 0, 1) := by decide +kernel
theorem dX5_planted_1 : decode cX5_planted 1 = .ok (.iconst 0, 1) := by decide +kernel
theorem dX5_planted_2 : decode cX5_planted 2 = .ok (.putfield 50, 3) := by decide +kernel
theorem dX5_planted_5 : decode cX5_planted 5 = .ok (.aload_n 0, 1) := by decide +kernel
theorem dX5_planted_6 : decode cX5_planted 6 = .ok (.getfield 7, 3) := by decide +kernel
theorem dX5_planted_9 : decode cX5_planted 9 = .ok (.iconst 0, 1) := by decide +kernel
theorem dX5_planted_10 : decode cX5_planted 10 = .ok (.iaload, 1) := by decide +kernel
theorem dX5_planted_11 : decode cX5_planted 11 = .ok (.ifCond .le 7, 3) := by decide +kernel
theorem dX5_planted_14 : decode cX5_planted 14 = .ok (.iconst 1, 1) := by decide +kernel
theorem dX5_planted_15 : decode cX5_planted 15 = .ok (.goto 4, 3) := by decide +kernel
theorem dX5_planted_18 : decode cX5_planted 18 = .ok (.iconst 0, 1) := by decide +kernel
theorem dX5_planted_19 : decode cX5_planted 19 = .ok (.istore_n 2, 1) := by decide +kernel
theorem dX5_planted_20 : decode cX5_planted 20 = .ok (.iload_n 1, 1) := by decide +kernel
theorem dX5_planted_21 : decode cX5_planted 21 = .ok (.ifCond .ne 12, 3) := by decide +kernel
theorem dX5_planted_24 : decode cX5_planted 24 = .ok (.aload_n 0, 1) := by decide +kernel
theorem dX5_planted_25 : decode cX5_planted 25 = .ok (.getfield 26, 3) := by decide +kernel
theorem dX5_planted_28 : decode cX5_planted 28 = .ok (.iconst 0, 1) := by decide +kernel
theorem dX5_planted_29 : decode cX5_planted 29 = .ok (.iaload, 1) := by decide +kernel
theorem dX5_planted_30 : decode cX5_planted 30 = .ok (.goto 49, 3) := by decide +kernel
theorem dX5_planted_33 : decode cX5_planted 33 = .ok (.iload_n 1, 1) := by decide +kernel
theorem dX5_planted_34 : decode cX5_planted 34 = .ok (.iconst 1, 1) := by decide +kernel
theorem dX5_planted_35 : decode cX5_planted 35 = .ok (.if_icmp .ne 20, 3) := by decide +kernel
theorem dX5_planted_38 : decode cX5_planted 38 = .ok (.iload_n 2, 1) := by decide +kernel
theorem dX5_planted_39 : decode cX5_planted 39 = .ok (.ifCond .eq 12, 3) := by decide +kernel
theorem dX5_planted_42 : decode cX5_planted 42 = .ok (.aload_n 0, 1) := by decide +kernel
theorem dX5_planted_43 : decode cX5_planted 43 = .ok (.getfield 29, 3) := by decide +kernel
theorem dX5_planted_46 : decode cX5_planted 46 = .ok (.iconst 0, 1) := by decide +kernel
theorem dX5_planted_47 : decode cX5_planted 47 = .ok (.iaload, 1) := by decide +kernel
theorem dX5_planted_48 : decode cX5_planted 48 = .ok (.goto 31, 3) := by decide +kernel
theorem dX5_planted_51 : decode cX5_planted 51 = .ok (.iconst (-1), 1) := by decide +kernel
theorem dX5_planted_52 : decode cX5_planted 52 = .ok (.goto 27, 3) := by decide +kernel
theorem dX5_planted_55 : decode cX5_planted 55 = .ok (.iload_n 1, 1) := by decide +kernel
theorem dX5_planted_56 : decode cX5_planted 56 = .ok (.iconst 2, 1) := by decide +kernel
theorem dX5_planted_57 : decode cX5_planted 57 = .ok (.if_icmp .ne 20, 3) := by decide +kernel
theorem dX5_planted_60 : decode cX5_planted 60 = .ok (.iload_n 2, 1) := by decide +kernel
theorem dX5_planted_61 : decode cX5_planted 61 = .ok (.ifCond .eq 12, 3) := by decide +kernel
theorem dX5_planted_64 : decode cX5_planted 64 = .ok (.aload_n 0, 1) := by decide +kernel
theorem dX5_planted_65 : decode cX5_planted 65 = .ok (.iconst 0, 1) := by decide +kernel
theorem dX5_planted_66 : decode cX5_planted 66 = .ok (.iconst 0, 1) := by decide +kernel
theorem dX5_planted_67 : decode cX5_planted 67 = .ok (.invokevirtual 113, 3) := by decide +kernel
theorem dX5_planted_70 : decode cX5_planted 70 = .ok (.goto 9, 3) := by decide +kernel
theorem dX5_planted_73 : decode cX5_planted 73 = .ok (.iconst 0, 1) := by decide +kernel
theorem dX5_planted_74 : decode cX5_planted 74 = .ok (.goto 5, 3) := by decide +kernel
theorem dX5_planted_77 : decode cX5_planted 77 = .ok (.bipush (-2), 2) := by decide +kernel
theorem dX5_planted_79 : decode cX5_planted 79 = .ok (.ireturn, 1) := by decide +kernel
theorem dX5_verdict_0 : decode cX5_verdict 0 = .ok (.aload_n 0, 1) := by decide +kernel
theorem dX5_verdict_1 : decode cX5_verdict 1 = .ok (.iconst 0, 1) := by decide +kernel
theorem dX5_verdict_2 : decode cX5_verdict 2 = .ok (.putfield 50, 3) := by decide +kernel
theorem dX5_verdict_5 : decode cX5_verdict 5 = .ok (.iload_n 1, 1) := by decide +kernel
theorem dX5_verdict_6 : decode cX5_verdict 6 = .ok (.ifCond .lt 16, 3) := by decide +kernel
theorem dX5_verdict_9 : decode cX5_verdict 9 = .ok (.iload_n 1, 1) := by decide +kernel
theorem dX5_verdict_10 : decode cX5_verdict 10 = .ok (.bipush 64, 2) := by decide +kernel
theorem dX5_verdict_12 : decode cX5_verdict 12 = .ok (.if_icmp .ge 10, 3) := by decide +kernel
theorem dX5_verdict_15 : decode cX5_verdict 15 = .ok (.aload_n 0, 1) := by decide +kernel
theorem dX5_verdict_16 : decode cX5_verdict 16 = .ok (.getfield 35, 3) := by decide +kernel
theorem dX5_verdict_19 : decode cX5_verdict 19 = .ok (.iload_n 1, 1) := by decide +kernel
theorem dX5_verdict_20 : decode cX5_verdict 20 = .ok (.iload_n 2, 1) := by decide +kernel
theorem dX5_verdict_21 : decode cX5_verdict 21 = .ok (.bastore, 1) := by decide +kernel
theorem dX5_verdict_22 : decode cX5_verdict 22 = .ok (.return_, 1) := by decide +kernel
theorem dX5_pass_0 : decode cX5_pass 0 = .ok (.iconst 0, 1) := by decide +kernel
theorem dX5_pass_1 : decode cX5_pass 1 = .ok (.istore_n 2, 1) := by decide +kernel
theorem dX5_pass_2 : decode cX5_pass 2 = .ok (.iconst 0, 1) := by decide +kernel
theorem dX5_pass_3 : decode cX5_pass 3 = .ok (.istore_n 3, 1) := by decide +kernel
theorem dX5_pass_4 : decode cX5_pass 4 = .ok (.iload_n 3, 1) := by decide +kernel
theorem dX5_pass_5 : decode cX5_pass 5 = .ok (.aload_n 0, 1) := by decide +kernel
theorem dX5_pass_6 : decode cX5_pass 6 = .ok (.getfield 88, 3) := by decide +kernel
theorem dX5_pass_9 : decode cX5_pass 9 = .ok (.if_icmp .ge 111, 3) := by decide +kernel
theorem dX5_pass_12 : decode cX5_pass 12 = .ok (.aload_n 0, 1) := by decide +kernel
theorem dX5_pass_13 : decode cX5_pass 13 = .ok (.getfield 88, 3) := by decide +kernel
theorem dX5_pass_16 : decode cX5_pass 16 = .ok (.iload_n 3, 1) := by decide +kernel
theorem dX5_pass_17 : decode cX5_pass 17 = .ok (.isub, 1) := by decide +kernel
theorem dX5_pass_18 : decode cX5_pass 18 = .ok (.iload_n 1, 1) := by decide +kernel
theorem dX5_pass_19 : decode cX5_pass 19 = .ok (.if_icmp .ge 12, 3) := by decide +kernel
theorem dX5_pass_22 : decode cX5_pass 22 = .ok (.aload_n 0, 1) := by decide +kernel
theorem dX5_pass_23 : decode cX5_pass 23 = .ok (.getfield 88, 3) := by decide +kernel
theorem dX5_pass_26 : decode cX5_pass 26 = .ok (.iload_n 3, 1) := by decide +kernel
theorem dX5_pass_27 : decode cX5_pass 27 = .ok (.isub, 1) := by decide +kernel
theorem dX5_pass_28 : decode cX5_pass 28 = .ok (.goto 4, 3) := by decide +kernel
theorem dX5_pass_31 : decode cX5_pass 31 = .ok (.iload_n 1, 1) := by decide +kernel
theorem dX5_pass_32 : decode cX5_pass 32 = .ok (.istore 4, 2) := by decide +kernel
theorem dX5_pass_34 : decode cX5_pass 34 = .ok (.iload 4, 2) := by decide +kernel
theorem dX5_pass_36 : decode cX5_pass 36 = .ok (.aload_n 0, 1) := by decide +kernel
theorem dX5_pass_37 : decode cX5_pass 37 = .ok (.getfield 88, 3) := by decide +kernel
theorem dX5_pass_40 : decode cX5_pass 40 = .ok (.if_icmp .ge 72, 3) := by decide +kernel
theorem dX5_pass_43 : decode cX5_pass 43 = .ok (.aload_n 0, 1) := by decide +kernel
theorem dX5_pass_44 : decode cX5_pass 44 = .ok (.getfield 35, 3) := by decide +kernel
theorem dX5_pass_47 : decode cX5_pass 47 = .ok (.aload_n 0, 1) := by decide +kernel
theorem dX5_pass_48 : decode cX5_pass 48 = .ok (.iload_n 3, 1) := by decide +kernel
theorem dX5_pass_49 : decode cX5_pass 49 = .ok (.iload 4, 2) := by decide +kernel
theorem dX5_pass_51 : decode cX5_pass 51 = .ok (.invokevirtual 113, 3) := by decide +kernel
theorem dX5_pass_54 : decode cX5_pass 54 = .ok (.baload, 1) := by decide +kernel
theorem dX5_pass_55 : decode cX5_pass 55 = .ok (.ifCond .eq 57, 3) := by decide +kernel
theorem dX5_pass_58 : decode cX5_pass 58 = .ok (.iload_n 3, 1) := by decide +kernel
theorem dX5_pass_59 : decode cX5_pass 59 = .ok (.istore 5, 2) := by decide +kernel
theorem dX5_pass_61 : decode cX5_pass 61 = .ok (.iload 5, 2) := by decide +kernel
theorem dX5_pass_63 : decode cX5_pass 63 = .ok (.aload_n 0, 1) := by decide +kernel
theorem dX5_pass_64 : decode cX5_pass 64 = .ok (.getfield 88, 3) := by decide +kernel
theorem dX5_pass_67 : decode cX5_pass 67 = .ok (.iload 4, 2) := by decide +kernel
theorem dX5_pass_69 : decode cX5_pass 69 = .ok (.isub, 1) := by decide +kernel
theorem dX5_pass_70 : decode cX5_pass 70 = .ok (.if_icmp .ge 26, 3) := by decide +kernel
theorem dX5_pass_73 : decode cX5_pass 73 = .ok (.aload_n 0, 1) := by decide +kernel
theorem dX5_pass_74 : decode cX5_pass 74 = .ok (.getfield 32, 3) := by decide +kernel
theorem dX5_pass_77 : decode cX5_pass 77 = .ok (.iload 5, 2) := by decide +kernel
theorem dX5_pass_79 : decode cX5_pass 79 = .ok (.aload_n 0, 1) := by decide +kernel
theorem dX5_pass_80 : decode cX5_pass 80 = .ok (.getfield 32, 3) := by decide +kernel
theorem dX5_pass_83 : decode cX5_pass 83 = .ok (.iload 5, 2) := by decide +kernel
theorem dX5_pass_85 : decode cX5_pass 85 = .ok (.iload 4, 2) := by decide +kernel
theorem dX5_pass_87 : decode cX5_pass 87 = .ok (.iadd, 1) := by decide +kernel
theorem dX5_pass_88 : decode cX5_pass 88 = .ok (.iaload, 1) := by decide +kernel
theorem dX5_pass_89 : decode cX5_pass 89 = .ok (.iastore, 1) := by decide +kernel
theorem dX5_pass_90 : decode cX5_pass 90 = .ok (.iinc 5 1, 3) := by decide +kernel
theorem dX5_pass_93 : decode cX5_pass 93 = .ok (.goto (-32), 3) := by decide +kernel
theorem dX5_pass_96 : decode cX5_pass 96 = .ok (.aload_n 0, 1) := by decide +kernel
theorem dX5_pass_97 : decode cX5_pass 97 = .ok (.aload_n 0, 1) := by decide +kernel
theorem dX5_pass_98 : decode cX5_pass 98 = .ok (.getfield 88, 3) := by decide +kernel
theorem dX5_pass_101 : decode cX5_pass 101 = .ok (.iload 4, 2) := by decide +kernel
theorem dX5_pass_103 : decode cX5_pass 103 = .ok (.isub, 1) := by decide +kernel
theorem dX5_pass_104 : decode cX5_pass 104 = .ok (.putfield 88, 3) := by decide +kernel
theorem dX5_pass_107 : decode cX5_pass 107 = .ok (.iconst 1, 1) := by decide +kernel
theorem dX5_pass_108 : decode cX5_pass 108 = .ok (.istore_n 2, 1) := by decide +kernel
theorem dX5_pass_109 : decode cX5_pass 109 = .ok (.goto 8, 3) := by decide +kernel
theorem dX5_pass_112 : decode cX5_pass 112 = .ok (.iload_n 3, 1) := by decide +kernel
theorem dX5_pass_113 : decode cX5_pass 113 = .ok (.iload 4, 2) := by decide +kernel
theorem dX5_pass_115 : decode cX5_pass 115 = .ok (.iadd, 1) := by decide +kernel
theorem dX5_pass_116 : decode cX5_pass 116 = .ok (.istore_n 3, 1) := by decide +kernel
theorem dX5_pass_117 : decode cX5_pass 117 = .ok (.goto (-113), 3) := by decide +kernel
theorem dX5_pass_120 : decode cX5_pass 120 = .ok (.iload_n 2, 1) := by decide +kernel
theorem dX5_pass_121 : decode cX5_pass 121 = .ok (.ireturn, 1) := by decide +kernel
theorem dX5_shorter_0 : decode cX5_shorter 0 = .ok (.aload_n 0, 1) := by decide +kernel
theorem dX5_shorter_1 : decode cX5_shorter 1 = .ok (.iconst 0, 1) := by decide +kernel
theorem dX5_shorter_2 : decode cX5_shorter 2 = .ok (.putfield 50, 3) := by decide +kernel
theorem dX5_shorter_5 : decode cX5_shorter 5 = .ok (.aload_n 0, 1) := by decide +kernel
theorem dX5_shorter_6 : decode cX5_shorter 6 = .ok (.getfield 7, 3) := by decide +kernel
theorem dX5_shorter_9 : decode cX5_shorter 9 = .ok (.iconst 0, 1) := by decide +kernel
theorem dX5_shorter_10 : decode cX5_shorter 10 = .ok (.iaload, 1) := by decide +kernel
theorem dX5_shorter_11 : decode cX5_shorter 11 = .ok (.ifCond .ne 6, 3) := by decide +kernel
theorem dX5_shorter_14 : decode cX5_shorter 14 = .ok (.bipush (-3), 2) := by decide +kernel
theorem dX5_shorter_16 : decode cX5_shorter 16 = .ok (.ireturn, 1) := by decide +kernel
theorem dX5_shorter_17 : decode cX5_shorter 17 = .ok (.aload_n 0, 1) := by decide +kernel
theorem dX5_shorter_18 : decode cX5_shorter 18 = .ok (.getfield 35, 3) := by decide +kernel
theorem dX5_shorter_21 : decode cX5_shorter 21 = .ok (.aload_n 0, 1) := by decide +kernel
theorem dX5_shorter_22 : decode cX5_shorter 22 = .ok (.iconst 0, 1) := by decide +kernel
theorem dX5_shorter_23 : decode cX5_shorter 23 = .ok (.iconst 0, 1) := by decide +kernel
theorem dX5_shorter_24 : decode cX5_shorter 24 = .ok (.invokevirtual 113, 3) := by decide +kernel
theorem dX5_shorter_27 : decode cX5_shorter 27 = .ok (.baload, 1) := by decide +kernel
theorem dX5_shorter_28 : decode cX5_shorter 28 = .ok (.ifCond .eq 44, 3) := by decide +kernel
theorem dX5_shorter_31 : decode cX5_shorter 31 = .ok (.aload_n 0, 1) := by decide +kernel
theorem dX5_shorter_32 : decode cX5_shorter 32 = .ok (.getfield 88, 3) := by decide +kernel
theorem dX5_shorter_35 : decode cX5_shorter 35 = .ok (.iconst 2, 1) := by decide +kernel
theorem dX5_shorter_36 : decode cX5_shorter 36 = .ok (.idiv, 1) := by decide +kernel
theorem dX5_shorter_37 : decode cX5_shorter 37 = .ok (.istore_n 1, 1) := by decide +kernel
theorem dX5_shorter_38 : decode cX5_shorter 38 = .ok (.iload_n 1, 1) := by decide +kernel
theorem dX5_shorter_39 : decode cX5_shorter 39 = .ok (.ifCond .le 33, 3) := by decide +kernel
theorem dX5_shorter_42 : decode cX5_shorter 42 = .ok (.aload_n 0, 1) := by decide +kernel
theorem dX5_shorter_43 : decode cX5_shorter 43 = .ok (.iload_n 1, 1) := by decide +kernel
theorem dX5_shorter_44 : decode cX5_shorter 44 = .ok (.invokevirtual 117, 3) := by decide +kernel
theorem dX5_shorter_47 : decode cX5_shorter 47 = .ok (.istore_n 2, 1) := by decide +kernel
theorem dX5_shorter_48 : decode cX5_shorter 48 = .ok (.iload_n 1, 1) := by decide +kernel
theorem dX5_shorter_49 : decode cX5_shorter 49 = .ok (.iconst 1, 1) := by decide +kernel
theorem dX5_shorter_50 : decode cX5_shorter 50 = .ok (.if_icmp .le 9, 3) := by decide +kernel
theorem dX5_shorter_53 : decode cX5_shorter 53 = .ok (.iload_n 1, 1) := by decide +kernel
theorem dX5_shorter_54 : decode cX5_shorter 54 = .ok (.iconst 2, 1) := by decide +kernel
theorem dX5_shorter_55 : decode cX5_shorter 55 = .ok (.idiv, 1) := by decide +kernel
theorem dX5_shorter_56 : decode cX5_shorter 56 = .ok (.goto 12, 3) := by decide +kernel
theorem dX5_shorter_59 : decode cX5_shorter 59 = .ok (.iload_n 2, 1) := by decide +kernel
theorem dX5_shorter_60 : decode cX5_shorter 60 = .ok (.ifCond .eq 7, 3) := by decide +kernel
theorem dX5_shorter_63 : decode cX5_shorter 63 = .ok (.iconst 1, 1) := by decide +kernel
theorem dX5_shorter_64 : decode cX5_shorter 64 = .ok (.goto 4, 3) := by decide +kernel
theorem dX5_shorter_67 : decode cX5_shorter 67 = .ok (.iconst 0, 1) := by decide +kernel
theorem dX5_shorter_68 : decode cX5_shorter 68 = .ok (.istore_n 1, 1) := by decide +kernel
theorem dX5_shorter_69 : decode cX5_shorter 69 = .ok (.goto (-31), 3) := by decide +kernel
theorem dX5_shorter_72 : decode cX5_shorter 72 = .ok (.aload_n 0, 1) := by decide +kernel
theorem dX5_shorter_73 : decode cX5_shorter 73 = .ok (.getfield 88, 3) := by decide +kernel
theorem dX5_shorter_76 : decode cX5_shorter 76 = .ok (.ireturn, 1) := by decide +kernel
theorem dX5_left_0 : decode cX5_left 0 = .ok (.aload_n 0, 1) := by decide +kernel
theorem dX5_left_1 : decode cX5_left 1 = .ok (.iconst 0, 1) := by decide +kernel
theorem dX5_left_2 : decode cX5_left 2 = .ok (.putfield 50, 3) := by decide +kernel
theorem dX5_left_5 : decode cX5_left 5 = .ok (.iload_n 1, 1) := by decide +kernel
theorem dX5_left_6 : decode cX5_left 6 = .ok (.ifCond .lt 20, 3) := by decide +kernel
theorem dX5_left_9 : decode cX5_left 9 = .ok (.iload_n 1, 1) := by decide +kernel
theorem dX5_left_10 : decode cX5_left 10 = .ok (.aload_n 0, 1) := by decide +kernel
theorem dX5_left_11 : decode cX5_left 11 = .ok (.getfield 88, 3) := by decide +kernel
theorem dX5_left_14 : decode cX5_left 14 = .ok (.if_icmp .ge 12, 3) := by decide +kernel
theorem dX5_left_17 : decode cX5_left 17 = .ok (.aload_n 0, 1) := by decide +kernel
theorem dX5_left_18 : decode cX5_left 18 = .ok (.getfield 32, 3) := by decide +kernel
theorem dX5_left_21 : decode cX5_left 21 = .ok (.iload_n 1, 1) := by decide +kernel
theorem dX5_left_22 : decode cX5_left 22 = .ok (.iaload, 1) := by decide +kernel
theorem dX5_left_23 : decode cX5_left 23 = .ok (.goto 4, 3) := by decide +kernel
theorem dX5_left_26 : decode cX5_left 26 = .ok (.iconst (-1), 1) := by decide +kernel
theorem dX5_left_27 : decode cX5_left 27 = .ok (.ireturn, 1) := by decide +kernel
theorem dX5_minimal_0 : decode cX5_minimal 0 = .ok (.aload_n 0, 1) := by decide +kernel
theorem dX5_minimal_1 : decode cX5_minimal 1 = .ok (.iconst 0, 1) := by decide +kernel
theorem dX5_minimal_2 : decode cX5_minimal 2 = .ok (.putfield 50, 3) := by decide +kernel
theorem dX5_minimal_5 : decode cX5_minimal 5 = .ok (.aload_n 0, 1) := by decide +kernel
theorem dX5_minimal_6 : decode cX5_minimal 6 = .ok (.getfield 7, 3) := by decide +kernel
theorem dX5_minimal_9 : decode cX5_minimal 9 = .ok (.iconst 0, 1) := by decide +kernel
theorem dX5_minimal_10 : decode cX5_minimal 10 = .ok (.iaload, 1) := by decide +kernel
theorem dX5_minimal_11 : decode cX5_minimal 11 = .ok (.ifCond .le 21, 3) := by decide +kernel
theorem dX5_minimal_14 : decode cX5_minimal 14 = .ok (.aload_n 0, 1) := by decide +kernel
theorem dX5_minimal_15 : decode cX5_minimal 15 = .ok (.getfield 35, 3) := by decide +kernel
theorem dX5_minimal_18 : decode cX5_minimal 18 = .ok (.aload_n 0, 1) := by decide +kernel
theorem dX5_minimal_19 : decode cX5_minimal 19 = .ok (.iconst 0, 1) := by decide +kernel
theorem dX5_minimal_20 : decode cX5_minimal 20 = .ok (.iconst 0, 1) := by decide +kernel
theorem dX5_minimal_21 : decode cX5_minimal 21 = .ok (.invokevirtual 113, 3) := by decide +kernel
theorem dX5_minimal_24 : decode cX5_minimal 24 = .ok (.baload, 1) := by decide +kernel
theorem dX5_minimal_25 : decode cX5_minimal 25 = .ok (.ifCond .eq 7, 3) := by decide +kernel
theorem dX5_minimal_28 : decode cX5_minimal 28 = .ok (.iconst 1, 1) := by decide +kernel
theorem dX5_minimal_29 : decode cX5_minimal 29 = .ok (.goto 4, 3) := by decide +kernel
theorem dX5_minimal_32 : decode cX5_minimal 32 = .ok (.iconst 0, 1) := by decide +kernel
theorem dX5_minimal_33 : decode cX5_minimal 33 = .ok (.istore_n 1, 1) := by decide +kernel
theorem dX5_minimal_34 : decode cX5_minimal 34 = .ok (.iconst 0, 1) := by decide +kernel
theorem dX5_minimal_35 : decode cX5_minimal 35 = .ok (.istore_n 2, 1) := by decide +kernel
theorem dX5_minimal_36 : decode cX5_minimal 36 = .ok (.iload_n 2, 1) := by decide +kernel
theorem dX5_minimal_37 : decode cX5_minimal 37 = .ok (.aload_n 0, 1) := by decide +kernel
theorem dX5_minimal_38 : decode cX5_minimal 38 = .ok (.getfield 88, 3) := by decide +kernel
theorem dX5_minimal_41 : decode cX5_minimal 41 = .ok (.if_icmp .ge 41, 3) := by decide +kernel
theorem dX5_minimal_44 : decode cX5_minimal 44 = .ok (.iload_n 1, 1) := by decide +kernel
theorem dX5_minimal_45 : decode cX5_minimal 45 = .ok (.ifCond .eq 37, 3) := by decide +kernel
theorem dX5_minimal_48 : decode cX5_minimal 48 = .ok (.aload_n 0, 1) := by decide +kernel
theorem dX5_minimal_49 : decode cX5_minimal 49 = .ok (.getfield 88, 3) := by decide +kernel
theorem dX5_minimal_52 : decode cX5_minimal 52 = .ok (.iconst 1, 1) := by decide +kernel
theorem dX5_minimal_53 : decode cX5_minimal 53 = .ok (.if_icmp .eq 17, 3) := by decide +kernel
theorem dX5_minimal_56 : decode cX5_minimal 56 = .ok (.aload_n 0, 1) := by decide +kernel
theorem dX5_minimal_57 : decode cX5_minimal 57 = .ok (.getfield 35, 3) := by decide +kernel
theorem dX5_minimal_60 : decode cX5_minimal 60 = .ok (.aload_n 0, 1) := by decide +kernel
theorem dX5_minimal_61 : decode cX5_minimal 61 = .ok (.iload_n 2, 1) := by decide +kernel
theorem dX5_minimal_62 : decode cX5_minimal 62 = .ok (.iconst 1, 1) := by decide +kernel
theorem dX5_minimal_63 : decode cX5_minimal 63 = .ok (.invokevirtual 113, 3) := by decide +kernel
theorem dX5_minimal_66 : decode cX5_minimal 66 = .ok (.baload, 1) := by decide +kernel
theorem dX5_minimal_67 : decode cX5_minimal 67 = .ok (.ifCond .ne 7, 3) := by decide +kernel
theorem dX5_minimal_70 : decode cX5_minimal 70 = .ok (.iconst 1, 1) := by decide +kernel
theorem dX5_minimal_71 : decode cX5_minimal 71 = .ok (.goto 4, 3) := by decide +kernel
theorem dX5_minimal_74 : decode cX5_minimal 74 = .ok (.iconst 0, 1) := by decide +kernel
theorem dX5_minimal_75 : decode cX5_minimal 75 = .ok (.istore_n 1, 1) := by decide +kernel
theorem dX5_minimal_76 : decode cX5_minimal 76 = .ok (.iinc 2 1, 3) := by decide +kernel
theorem dX5_minimal_79 : decode cX5_minimal 79 = .ok (.goto (-43), 3) := by decide +kernel
theorem dX5_minimal_82 : decode cX5_minimal 82 = .ok (.iload_n 1, 1) := by decide +kernel
theorem dX5_minimal_83 : decode cX5_minimal 83 = .ok (.ireturn, 1) := by decide +kernel
theorem dX5_answers_0 : decode cX5_answers 0 = .ok (.aload_n 0, 1) := by decide +kernel
theorem dX5_answers_1 : decode cX5_answers 1 = .ok (.iconst 0, 1) := by decide +kernel
theorem dX5_answers_2 : decode cX5_answers 2 = .ok (.putfield 50, 3) := by decide +kernel
theorem dX5_answers_5 : decode cX5_answers 5 = .ok (.lconst 0, 1) := by decide +kernel
theorem dX5_answers_6 : decode cX5_answers 6 = .ok (.lstore_n 1, 1) := by decide +kernel
theorem dX5_answers_7 : decode cX5_answers 7 = .ok (.iconst 0, 1) := by decide +kernel
theorem dX5_answers_8 : decode cX5_answers 8 = .ok (.istore_n 3, 1) := by decide +kernel
theorem dX5_answers_9 : decode cX5_answers 9 = .ok (.iload_n 3, 1) := by decide +kernel
theorem dX5_answers_10 : decode cX5_answers 10 = .ok (.aload_n 0, 1) := by decide +kernel
theorem dX5_answers_11 : decode cX5_answers 11 = .ok (.getfield 7, 3) := by decide +kernel
theorem dX5_answers_14 : decode cX5_answers 14 = .ok (.iconst 0, 1) := by decide +kernel
theorem dX5_answers_15 : decode cX5_answers 15 = .ok (.iaload, 1) := by decide +kernel
theorem dX5_answers_16 : decode cX5_answers 16 = .ok (.if_icmp .ge 18, 3) := by decide +kernel
theorem dX5_answers_19 : decode cX5_answers 19 = .ok (.lload_n 1, 1) := by decide +kernel
theorem dX5_answers_20 : decode cX5_answers 20 = .ok (.aload_n 0, 1) := by decide +kernel
theorem dX5_answers_21 : decode cX5_answers 21 = .ok (.getfield 23, 3) := by decide +kernel
theorem dX5_answers_24 : decode cX5_answers 24 = .ok (.iload_n 3, 1) := by decide +kernel
theorem dX5_answers_25 : decode cX5_answers 25 = .ok (.laload, 1) := by decide +kernel
theorem dX5_answers_26 : decode cX5_answers 26 = .ok (.ladd, 1) := by decide +kernel
theorem dX5_answers_27 : decode cX5_answers 27 = .ok (.lstore_n 1, 1) := by decide +kernel
theorem dX5_answers_28 : decode cX5_answers 28 = .ok (.iinc 3 1, 3) := by decide +kernel
theorem dX5_answers_31 : decode cX5_answers 31 = .ok (.goto (-22), 3) := by decide +kernel
theorem dX5_answers_34 : decode cX5_answers 34 = .ok (.aload_n 0, 1) := by decide +kernel
theorem dX5_answers_35 : decode cX5_answers 35 = .ok (.getfield 7, 3) := by decide +kernel
theorem dX5_answers_38 : decode cX5_answers 38 = .ok (.iconst 0, 1) := by decide +kernel
theorem dX5_answers_39 : decode cX5_answers 39 = .ok (.iaload, 1) := by decide +kernel
theorem dX5_answers_40 : decode cX5_answers 40 = .ok (.ifCond .le 17, 3) := by decide +kernel
theorem dX5_answers_43 : decode cX5_answers 43 = .ok (.lload_n 1, 1) := by decide +kernel
theorem dX5_answers_44 : decode cX5_answers 44 = .ok (.ldc2_w 111, 3) := by decide +kernel
theorem dX5_answers_47 : decode cX5_answers 47 = .ok (.lrem, 1) := by decide +kernel
theorem dX5_answers_48 : decode cX5_answers 48 = .ok (.lconst 0, 1) := by decide +kernel
theorem dX5_answers_49 : decode cX5_answers 49 = .ok (.lcmp, 1) := by decide +kernel
theorem dX5_answers_50 : decode cX5_answers 50 = .ok (.ifCond .ne 7, 3) := by decide +kernel
theorem dX5_answers_53 : decode cX5_answers 53 = .ok (.iconst 1, 1) := by decide +kernel
theorem dX5_answers_54 : decode cX5_answers 54 = .ok (.goto 4, 3) := by decide +kernel
theorem dX5_answers_57 : decode cX5_answers 57 = .ok (.iconst 0, 1) := by decide +kernel
theorem dX5_answers_58 : decode cX5_answers 58 = .ok (.ireturn, 1) := by decide +kernel
theorem dX1_init_0 : decode cX1_init 0 = .ok (.aload_n 0, 1) := by decide +kernel
theorem dX1_init_1 : decode cX1_init 1 = .ok (.invokespecial 3, 3) := by decide +kernel
theorem dX1_init_4 : decode cX1_init 4 = .ok (.aload_n 0, 1) := by decide +kernel
theorem dX1_init_5 : decode cX1_init 5 = .ok (.bipush 40, 2) := by decide +kernel
theorem dX1_init_7 : decode cX1_init 7 = .ok (.newarray .int, 2) := by decide +kernel
theorem dX1_init_9 : decode cX1_init 9 = .ok (.putfield 9, 3) := by decide +kernel
theorem dX1_init_12 : decode cX1_init 12 = .ok (.aload_n 0, 1) := by decide +kernel
theorem dX1_init_13 : decode cX1_init 13 = .ok (.bipush 40, 2) := by decide +kernel
theorem dX1_init_15 : decode cX1_init 15 = .ok (.newarray .int, 2) := by decide +kernel
theorem dX1_init_17 : decode cX1_init 17 = .ok (.putfield 15, 3) := by decide +kernel
theorem dX1_init_20 : decode cX1_init 20 = .ok (.aload_n 0, 1) := by decide +kernel
theorem dX1_init_21 : decode cX1_init 21 = .ok (.bipush 40, 2) := by decide +kernel
theorem dX1_init_23 : decode cX1_init 23 = .ok (.newarray .int, 2) := by decide +kernel
theorem dX1_init_25 : decode cX1_init 25 = .ok (.putfield 18, 3) := by decide +kernel
theorem dX1_init_28 : decode cX1_init 28 = .ok (.aload_n 0, 1) := by decide +kernel
theorem dX1_init_29 : decode cX1_init 29 = .ok (.bipush 40, 2) := by decide +kernel
theorem dX1_init_31 : decode cX1_init 31 = .ok (.newarray .int, 2) := by decide +kernel
theorem dX1_init_33 : decode cX1_init 33 = .ok (.putfield 21, 3) := by decide +kernel
theorem dX1_init_36 : decode cX1_init 36 = .ok (.aload_n 0, 1) := by decide +kernel
theorem dX1_init_37 : decode cX1_init 37 = .ok (.iconst 0, 1) := by decide +kernel
theorem dX1_init_38 : decode cX1_init 38 = .ok (.putfield 24, 3) := by decide +kernel
theorem dX1_init_41 : decode cX1_init 41 = .ok (.aload_n 0, 1) := by decide +kernel
theorem dX1_init_42 : decode cX1_init 42 = .ok (.iconst 0, 1) := by decide +kernel
theorem dX1_init_43 : decode cX1_init 43 = .ok (.putfield 28, 3) := by decide +kernel
theorem dX1_init_46 : decode cX1_init 46 = .ok (.aload_n 0, 1) := by decide +kernel
theorem dX1_init_47 : decode cX1_init 47 = .ok (.iconst (-1), 1) := by decide +kernel
theorem dX1_init_48 : decode cX1_init 48 = .ok (.putfield 31, 3) := by decide +kernel
theorem dX1_init_51 : decode cX1_init 51 = .ok (.return_, 1) := by decide +kernel
theorem dX1_fill_0 : decode cX1_fill 0 = .ok (.aload_n 0, 1) := by decide +kernel
theorem dX1_fill_1 : decode cX1_fill 1 = .ok (.iconst 0, 1) := by decide +kernel
theorem dX1_fill_2 : decode cX1_fill 2 = .ok (.putfield 28, 3) := by decide +kernel
theorem dX1_fill_5 : decode cX1_fill 5 = .ok (.aload_n 0, 1) := by decide +kernel
theorem dX1_fill_6 : decode cX1_fill 6 = .ok (.iconst (-1), 1) := by decide +kernel
theorem dX1_fill_7 : decode cX1_fill 7 = .ok (.putfield 31, 3) := by decide +kernel
theorem dX1_fill_10 : decode cX1_fill 10 = .ok (.iload_n 2, 1) := by decide +kernel
theorem dX1_fill_11 : decode cX1_fill 11 = .ok (.ifCond .le 16, 3) := by decide +kernel
theorem dX1_fill_14 : decode cX1_fill 14 = .ok (.iload_n 2, 1) := by decide +kernel
theorem dX1_fill_15 : decode cX1_fill 15 = .ok (.bipush 20, 2) := by decide +kernel
theorem dX1_fill_17 : decode cX1_fill 17 = .ok (.if_icmp .gt 10, 3) := by decide +kernel
theorem dX1_fill_20 : decode cX1_fill 20 = .ok (.iload_n 1, 1) := by decide +kernel
theorem dX1_fill_21 : decode cX1_fill 21 = .ok (.invokestatic 34, 3) := by decide +kernel
theorem dX1_fill_24 : decode cX1_fill 24 = .ok (.ifCond .ne 8, 3) := by decide +kernel
theorem dX1_fill_27 : decode cX1_fill 27 = .ok (.aload_n 0, 1) := by decide +kernel
theorem dX1_fill_28 : decode cX1_fill 28 = .ok (.invokevirtual 38, 3) := by decide +kernel
theorem dX1_fill_31 : decode cX1_fill 31 = .ok (.return_, 1) := by decide +kernel
theorem dX1_fill_32 : decode cX1_fill 32 = .ok (.aload_n 0, 1) := by decide +kernel
theorem dX1_fill_33 : decode cX1_fill 33 = .ok (.iload_n 2, 1) := by decide +kernel
theorem dX1_fill_34 : decode cX1_fill 34 = .ok (.aload_n 3, 1) := by decide +kernel
theorem dX1_fill_35 : decode cX1_fill 35 = .ok (.iload_n 2, 1) := by decide +kernel
theorem dX1_fill_36 : decode cX1_fill 36 = .ok (.iconst 1, 1) := by decide +kernel
theorem dX1_fill_37 : decode cX1_fill 37 = .ok (.iadd, 1) := by decide +kernel
theorem dX1_fill_38 : decode cX1_fill 38 = .ok (.invokevirtual 41, 3) := by decide +kernel
theorem dX1_fill_41 : decode cX1_fill 41 = .ok (.iadd, 1) := by decide +kernel
theorem dX1_fill_42 : decode cX1_fill 42 = .ok (.putfield 24, 3) := by decide +kernel
theorem dX1_fill_45 : decode cX1_fill 45 = .ok (.iconst 0, 1) := by decide +kernel
theorem dX1_fill_46 : decode cX1_fill 46 = .ok (.istore 4, 2) := by decide +kernel
theorem dX1_fill_48 : decode cX1_fill 48 = .ok (.iload 4, 2) := by decide +kernel
theorem dX1_fill_50 : decode cX1_fill 50 = .ok (.aload_n 0, 1) := by decide +kernel
theorem dX1_fill_51 : decode cX1_fill 51 = .ok (.getfield 24, 3) := by decide +kernel
theorem dX1_fill_54 : decode cX1_fill 54 = .ok (.if_icmp .ge 69, 3) := by decide +kernel
theorem dX1_fill_57 : decode cX1_fill 57 = .ok (.aload_n 0, 1) := by decide +kernel
theorem dX1_fill_58 : decode cX1_fill 58 = .ok (.getfield 9, 3) := by decide +kernel
theorem dX1_fill_61 : decode cX1_fill 61 = .ok (.iload 4, 2) := by decide +kernel
theorem dX1_fill_63 : decode cX1_fill 63 = .ok (.aload_n 3, 1) := by decide +kernel
theorem dX1_fill_64 : decode cX1_fill 64 = .ok (.getstatic 47, 3) := by decide +kernel
theorem dX1_fill_67 : decode cX1_fill 67 = .ok (.iload_n 1, 1) := by decide +kernel
theorem dX1_fill_68 : decode cX1_fill 68 = .ok (.iaload, 1) := by decide +kernel
theorem dX1_fill_69 : decode cX1_fill 69 = .ok (.invokevirtual 41, 3) := by decide +kernel
theorem dX1_fill_72 : decode cX1_fill 72 = .ok (.iastore, 1) := by decide +kernel
theorem dX1_fill_73 : decode cX1_fill 73 = .ok (.aload_n 0, 1) := by decide +kernel
theorem dX1_fill_74 : decode cX1_fill 74 = .ok (.getfield 15, 3) := by decide +kernel
theorem dX1_fill_77 : decode cX1_fill 77 = .ok (.iload 4, 2) := by decide +kernel
theorem dX1_fill_79 : decode cX1_fill 79 = .ok (.aload_n 0, 1) := by decide +kernel
theorem dX1_fill_80 : decode cX1_fill 80 = .ok (.iload_n 1, 1) := by decide +kernel
theorem dX1_fill_81 : decode cX1_fill 81 = .ok (.iload 4, 2) := by decide +kernel
theorem dX1_fill_83 : decode cX1_fill 83 = .ok (.aload_n 3, 1) := by decide +kernel
theorem dX1_fill_84 : decode cX1_fill 84 = .ok (.invokevirtual 50, 3) := by decide +kernel
theorem dX1_fill_87 : decode cX1_fill 87 = .ok (.iastore, 1) := by decide +kernel
theorem dX1_fill_88 : decode cX1_fill 88 = .ok (.aload_n 0, 1) := by decide +kernel
theorem dX1_fill_89 : decode cX1_fill 89 = .ok (.getfield 18, 3) := by decide +kernel
theorem dX1_fill_92 : decode cX1_fill 92 = .ok (.iload 4, 2) := by decide +kernel
theorem dX1_fill_94 : decode cX1_fill 94 = .ok (.aload_n 0, 1) := by decide +kernel
theorem dX1_fill_95 : decode cX1_fill 95 = .ok (.iload_n 1, 1) := by decide +kernel
theorem dX1_fill_96 : decode cX1_fill 96 = .ok (.iload 4, 2) := by decide +kernel
theorem dX1_fill_98 : decode cX1_fill 98 = .ok (.aload_n 3, 1) := by decide +kernel
theorem dX1_fill_99 : decode cX1_fill 99 = .ok (.invokevirtual 54, 3) := by decide +kernel
theorem dX1_fill_102 : decode cX1_fill 102 = .ok (.iastore, 1) := by decide +kernel
theorem dX1_fill_103 : decode cX1_fill 103 = .ok (.aload_n 0, 1) := by decide +kernel
theorem dX1_fill_104 : decode cX1_fill 104 = .ok (.getfield 21, 3) := by decide +kernel
theorem dX1_fill_107 : decode cX1_fill 107 = .ok (.iload 4, 2) := by decide +kernel
theorem dX1_fill_109 : decode cX1_fill 109 = .ok (.aload_n 3, 1) := by decide +kernel
theorem dX1_fill_110 : decode cX1_fill 110 = .ok (.sipush 1000, 3) := by decide +kernel
theorem dX1_fill_113 : decode cX1_fill 113 = .ok (.invokevirtual 41, 3) := by decide +kernel
theorem dX1_fill_116 : decode cX1_fill 116 = .ok (.iastore, 1) := by decide +kernel
theorem dX1_fill_117 : decode cX1_fill 117 = .ok (.iinc 4 1, 3) := by decide +kernel
theorem dX1_fill_120 : decode cX1_fill 120 = .ok (.goto (-72), 3) := by decide +kernel
theorem dX1_fill_123 : decode cX1_fill 123 = .ok (.aload_n 0, 1) := by decide +kernel
theorem dX1_fill_124 : decode cX1_fill 124 = .ok (.iload_n 1, 1) := by decide +kernel
theorem dX1_fill_125 : decode cX1_fill 125 = .ok (.aload_n 3, 1) := by decide +kernel
theorem dX1_fill_126 : decode cX1_fill 126 = .ok (.invokevirtual 57, 3) := by decide +kernel
theorem dX1_fill_129 : decode cX1_fill 129 = .ok (.return_, 1) := by decide +kernel
theorem dX1_fillWithNought_0 : decode cX1_fillWithNought 0 = .ok (.aload_n 0, 1) := by decide +kernel
theorem dX1_fillWithNought_1 : decode cX1_fillWithNought 1 = .ok (.iconst 1, 1) := by decide +kernel
theorem dX1_fillWithNought_2 : decode cX1_fillWithNought 2 = .ok (.putfield 24, 3) := by decide +kernel
theorem dX1_fillWithNought_5 : decode cX1_fillWithNought 5 = .ok (.aload_n 0, 1) := by decide +kernel
theorem dX1_fillWithNought_6 : decode cX1_fillWithNought 6 = .ok (.getfield 9, 3) := by decide +kernel
theorem dX1_fillWithNought_9 : decode cX1_fillWithNought 9 = .ok (.iconst 0, 1) := by decide +kernel
theorem dX1_fillWithNought_10 : decode cX1_fillWithNought 10 = .ok (.iconst 0, 1) := by decide +kernel
theorem dX1_fillWithNought_11 : decode cX1_fillWithNought 11 = .ok (.iastore, 1) := by decide +kernel
theorem dX1_fillWithNought_12 : decode cX1_fillWithNought 12 = .ok (.aload_n 0, 1) := by decide +kernel
theorem dX1_fillWithNought_13 : decode cX1_fillWithNought 13 = .ok (.getfield 15, 3) := by decide +kernel
theorem dX1_fillWithNought_16 : decode cX1_fillWithNought 16 = .ok (.iconst 0, 1) := by decide +kernel
theorem dX1_fillWithNought_17 : decode cX1_fillWithNought 17 = .ok (.iconst 0, 1) := by decide +kernel
theorem dX1_fillWithNought_18 : decode cX1_fillWithNought 18 = .ok (.iastore, 1) := by decide +kernel
theorem dX1_fillWithNought_19 : decode cX1_fillWithNought 19 = .ok (.aload_n 0, 1) := by decide +kernel
theorem dX1_fillWithNought_20 : decode cX1_fillWithNought 20 = .ok (.getfield 18, 3) := by decide +kernel
theorem dX1_fillWithNought_23 : decode cX1_fillWithNought 23 = .ok (.iconst 0, 1) := by decide +kernel
theorem dX1_fillWithNought_24 : decode cX1_fillWithNought 24 = .ok (.iconst 0, 1) := by decide +kernel
theorem dX1_fillWithNought_25 : decode cX1_fillWithNought 25 = .ok (.iastore, 1) := by decide +kernel
theorem dX1_fillWithNought_26 : decode cX1_fillWithNought 26 = .ok (.aload_n 0, 1) := by decide +kernel
theorem dX1_fillWithNought_27 : decode cX1_fillWithNought 27 = .ok (.getfield 21, 3) := by decide +kernel
theorem dX1_fillWithNought_30 : decode cX1_fillWithNought 30 = .ok (.iconst 0, 1) := by decide +kernel
theorem dX1_fillWithNought_31 : decode cX1_fillWithNought 31 = .ok (.iconst 0, 1) := by decide +kernel
theorem dX1_fillWithNought_32 : decode cX1_fillWithNought 32 = .ok (.iastore, 1) := by decide +kernel
theorem dX1_fillWithNought_33 : decode cX1_fillWithNought 33 = .ok (.return_, 1) := by decide +kernel
theorem dX1_drawX_0 : decode cX1_drawX 0 = .ok (.iload_n 1, 1) := by decide +kernel
theorem dX1_drawX_1 : decode cX1_drawX 1 = .ok (.tableswitch 87 0 4 #[35, 43, 53, 35, 79], 35) := by decide +kernel
theorem dX1_drawX_36 : decode cX1_drawX 36 = .ok (.aload_n 3, 1) := by decide +kernel
theorem dX1_drawX_37 : decode cX1_drawX 37 = .ok (.iload_n 2, 1) := by decide +kernel
theorem dX1_drawX_38 : decode cX1_drawX 38 = .ok (.iconst 1, 1) := by decide +kernel
theorem dX1_drawX_39 : decode cX1_drawX 39 = .ok (.iadd, 1) := by decide +kernel
theorem dX1_drawX_40 : decode cX1_drawX 40 = .ok (.invokevirtual 41, 3) := by decide +kernel
theorem dX1_drawX_43 : decode cX1_drawX 43 = .ok (.ireturn, 1) := by decide +kernel
theorem dX1_drawX_44 : decode cX1_drawX 44 = .ok (.bipush 8, 2) := by decide +kernel
theorem dX1_drawX_46 : decode cX1_drawX 46 = .ok (.aload_n 3, 1) := by decide +kernel
theorem dX1_drawX_47 : decode cX1_drawX 47 = .ok (.bipush 8, 2) := by decide +kernel
theorem dX1_drawX_49 : decode cX1_drawX 49 = .ok (.invokevirtual 41, 3) := by decide +kernel
theorem dX1_drawX_52 : decode cX1_drawX 52 = .ok (.imul, 1) := by decide +kernel
theorem dX1_drawX_53 : decode cX1_drawX 53 = .ok (.ireturn, 1) := by decide +kernel
theorem dX1_drawX_54 : decode cX1_drawX 54 = .ok (.iload_n 2, 1) := by decide +kernel
theorem dX1_drawX_55 : decode cX1_drawX 55 = .ok (.ifCond .le 14, 3) := by decide +kernel
theorem dX1_drawX_58 : decode cX1_drawX 58 = .ok (.aload_n 0, 1) := by decide +kernel
theorem dX1_drawX_59 : decode cX1_drawX 59 = .ok (.getfield 15, 3) := by decide +kernel
theorem dX1_drawX_62 : decode cX1_drawX 62 = .ok (.iload_n 2, 1) := by decide +kernel
theorem dX1_drawX_63 : decode cX1_drawX 63 = .ok (.iconst 1, 1) := by decide +kernel
theorem dX1_drawX_64 : decode cX1_drawX 64 = .ok (.isub, 1) := by decide +kernel
theorem dX1_drawX_65 : decode cX1_drawX 65 = .ok (.iaload, 1) := by decide +kernel
theorem dX1_drawX_66 : decode cX1_drawX 66 = .ok (.goto 4, 3) := by decide +kernel
theorem dX1_drawX_69 : decode cX1_drawX 69 = .ok (.iconst 0, 1) := by decide +kernel
theorem dX1_drawX_70 : decode cX1_drawX 70 = .ok (.iconst 1, 1) := by decide +kernel
theorem dX1_drawX_71 : decode cX1_drawX 71 = .ok (.iadd, 1) := by decide +kernel
theorem dX1_drawX_72 : decode cX1_drawX 72 = .ok (.aload_n 3, 1) := by decide +kernel
theorem dX1_drawX_73 : decode cX1_drawX 73 = .ok (.bipush 16, 2) := by decide +kernel
theorem dX1_drawX_75 : decode cX1_drawX 75 = .ok (.invokevirtual 41, 3) := by decide +kernel
theorem dX1_drawX_78 : decode cX1_drawX 78 = .ok (.iadd, 1) := by decide +kernel
theorem dX1_drawX_79 : decode cX1_drawX 79 = .ok (.ireturn, 1) := by decide +kernel
theorem dX1_drawX_80 : decode cX1_drawX 80 = .ok (.aload_n 3, 1) := by decide +kernel
theorem dX1_drawX_81 : decode cX1_drawX 81 = .ok (.sipush 256, 3) := by decide +kernel
theorem dX1_drawX_84 : decode cX1_drawX 84 = .ok (.invokevirtual 41, 3) := by decide +kernel
theorem dX1_drawX_87 : decode cX1_drawX 87 = .ok (.ireturn, 1) := by decide +kernel
theorem dX1_drawX_88 : decode cX1_drawX 88 = .ok (.bipush 16, 2) := by decide +kernel
theorem dX1_drawX_90 : decode cX1_drawX 90 = .ok (.aload_n 3, 1) := by decide +kernel
theorem dX1_drawX_91 : decode cX1_drawX 91 = .ok (.iconst 4, 1) := by decide +kernel
theorem dX1_drawX_92 : decode cX1_drawX 92 = .ok (.invokevirtual 41, 3) := by decide +kernel
theorem dX1_drawX_95 : decode cX1_drawX 95 = .ok (.imul, 1) := by decide +kernel
theorem dX1_drawX_96 : decode cX1_drawX 96 = .ok (.aload_n 0, 1) := by decide +kernel
theorem dX1_drawX_97 : decode cX1_drawX 97 = .ok (.getfield 9, 3) := by decide +kernel
theorem dX1_drawX_100 : decode cX1_drawX 100 = .ok (.iload_n 2, 1) := by decide +kernel
theorem dX1_drawX_101 : decode cX1_drawX 101 = .ok (.iaload, 1) := by decide +kernel
theorem dX1_drawX_102 : decode cX1_drawX 102 = .ok (.iadd, 1) := by decide +kernel
theorem dX1_drawX_103 : decode cX1_drawX 103 = .ok (.ireturn, 1) := by decide +kernel
theorem dX1_drawY_0 : decode cX1_drawY 0 = .ok (.iload_n 1, 1) := by decide +kernel
theorem dX1_drawY_1 : decode cX1_drawY 1 = .ok (.ifCond .ne 13, 3) := by decide +kernel
theorem dX1_drawY_4 : decode cX1_drawY 4 = .ok (.aload_n 0, 1) := by decide +kernel
theorem dX1_drawY_5 : decode cX1_drawY 5 = .ok (.getfield 9, 3) := by decide +kernel
theorem dX1_drawY_8 : decode cX1_drawY 8 = .ok (.iload_n 2, 1) := by decide +kernel
theorem dX1_drawY_9 : decode cX1_drawY 9 = .ok (.iaload, 1) := by decide +kernel
theorem dX1_drawY_10 : decode cX1_drawY 10 = .ok (.iconst 3, 1) := by decide +kernel
theorem dX1_drawY_11 : decode cX1_drawY 11 = .ok (.if_icmp .eq 10, 3) := by decide +kernel
theorem dX1_drawY_14 : decode cX1_drawY 14 = .ok (.aload_n 3, 1) := by decide +kernel
theorem dX1_drawY_15 : decode cX1_drawY 15 = .ok (.bipush 64, 2) := by decide +kernel
theorem dX1_drawY_17 : decode cX1_drawY 17 = .ok (.invokevirtual 41, 3) := by decide +kernel
theorem dX1_drawY_20 : decode cX1_drawY 20 = .ok (.ireturn, 1) := by decide +kernel
theorem dX1_drawY_21 : decode cX1_drawY 21 = .ok (.aload_n 0, 1) := by decide +kernel
theorem dX1_drawY_22 : decode cX1_drawY 22 = .ok (.getfield 15, 3) := by decide +kernel
theorem dX1_drawY_25 : decode cX1_drawY 25 = .ok (.iload_n 2, 1) := by decide +kernel
theorem dX1_drawY_26 : decode cX1_drawY 26 = .ok (.iaload, 1) := by decide +kernel
theorem dX1_drawY_27 : decode cX1_drawY 27 = .ok (.istore 4, 2) := by decide +kernel
theorem dX1_drawY_29 : decode cX1_drawY 29 = .ok (.iload 4, 2) := by decide +kernel
theorem dX1_drawY_31 : decode cX1_drawY 31 = .ok (.ifCond .lt 19, 3) := by decide +kernel
theorem dX1_drawY_34 : decode cX1_drawY 34 = .ok (.iload 4, 2) := by decide +kernel
theorem dX1_drawY_36 : decode cX1_drawY 36 = .ok (.iload_n 2, 1) := by decide +kernel
theorem dX1_drawY_37 : decode cX1_drawY 37 = .ok (.if_icmp .ge 13, 3) := by decide +kernel
theorem dX1_drawY_40 : decode cX1_drawY 40 = .ok (.aload_n 0, 1) := by decide +kernel
theorem dX1_drawY_41 : decode cX1_drawY 41 = .ok (.getfield 18, 3) := by decide +kernel
theorem dX1_drawY_44 : decode cX1_drawY 44 = .ok (.iload 4, 2) := by decide +kernel
theorem dX1_drawY_46 : decode cX1_drawY 46 = .ok (.iaload, 1) := by decide +kernel
theorem dX1_drawY_47 : decode cX1_drawY 47 = .ok (.goto 4, 3) := by decide +kernel
theorem dX1_drawY_50 : decode cX1_drawY 50 = .ok (.iconst 0, 1) := by decide +kernel
theorem dX1_drawY_51 : decode cX1_drawY 51 = .ok (.ireturn, 1) := by decide +kernel
theorem dX1_plant_0 : decode cX1_plant 0 = .ok (.aload_n 2, 1) := by decide +kernel
theorem dX1_plant_1 : decode cX1_plant 1 = .ok (.iconst 2, 1) := by decide +kernel
theorem dX1_plant_2 : decode cX1_plant 2 = .ok (.getstatic 61, 3) := by decide +kernel
theorem dX1_plant_5 : decode cX1_plant 5 = .ok (.iload_n 1, 1) := by decide +kernel
theorem dX1_plant_6 : decode cX1_plant 6 = .ok (.iaload, 1) := by decide +kernel
theorem dX1_plant_7 : decode cX1_plant 7 = .ok (.imul, 1) := by decide +kernel
theorem dX1_plant_8 : decode cX1_plant 8 = .ok (.invokevirtual 41, 3) := by decide +kernel
theorem dX1_plant_11 : decode cX1_plant 11 = .ok (.istore_n 3, 1) := by decide +kernel
theorem dX1_plant_12 : decode cX1_plant 12 = .ok (.iload_n 3, 1) := by decide +kernel
theorem dX1_plant_13 : decode cX1_plant 13 = .ok (.getstatic 61, 3) := by decide +kernel
theorem dX1_plant_16 : decode cX1_plant 16 = .ok (.iload_n 1, 1) := by decide +kernel
theorem dX1_plant_17 : decode cX1_plant 17 = .ok (.iaload, 1) := by decide +kernel
theorem dX1_plant_18 : decode cX1_plant 18 = .ok (.if_icmp .ge 4, 3) := by decide +kernel
theorem dX1_plant_21 : decode cX1_plant 21 = .ok (.return_, 1) := by decide +kernel
theorem dX1_plant_22 : decode cX1_plant 22 = .ok (.aload_n 0, 1) := by decide +kernel
theorem dX1_plant_23 : decode cX1_plant 23 = .ok (.iload_n 3, 1) := by decide +kernel
theorem dX1_plant_24 : decode cX1_plant 24 = .ok (.getstatic 61, 3) := by decide +kernel
theorem dX1_plant_27 : decode cX1_plant 27 = .ok (.iload_n 1, 1) := by decide +kernel
theorem dX1_plant_28 : decode cX1_plant 28 = .ok (.iaload, 1) := by decide +kernel
theorem dX1_plant_29 : decode cX1_plant 29 = .ok (.isub, 1) := by decide +kernel
theorem dX1_plant_30 : decode cX1_plant 30 = .ok (.iconst 1, 1) := by decide +kernel
theorem dX1_plant_31 : decode cX1_plant 31 = .ok (.iadd, 1) := by decide +kernel
theorem dX1_plant_32 : decode cX1_plant 32 = .ok (.putfield 28, 3) := by decide +kernel
theorem dX1_plant_35 : decode cX1_plant 35 = .ok (.aload_n 0, 1) := by decide +kernel
theorem dX1_plant_36 : decode cX1_plant 36 = .ok (.aload_n 2, 1) := by decide +kernel
theorem dX1_plant_37 : decode cX1_plant 37 = .ok (.aload_n 0, 1) := by decide +kernel
theorem dX1_plant_38 : decode cX1_plant 38 = .ok (.getfield 24, 3) := by decide +kernel
theorem dX1_plant_41 : decode cX1_plant 41 = .ok (.invokevirtual 41, 3) := by decide +kernel
theorem dX1_plant_44 : decode cX1_plant 44 = .ok (.putfield 31, 3) := by decide +kernel
theorem dX1_plant_47 : decode cX1_plant 47 = .ok (.aload_n 0, 1) := by decide +kernel
theorem dX1_plant_48 : decode cX1_plant 48 = .ok (.aload_n 0, 1) := by decide +kernel
theorem dX1_plant_49 : decode cX1_plant 49 = .ok (.getfield 31, 3) := by decide +kernel
theorem dX1_plant_52 : decode cX1_plant 52 = .ok (.getstatic 47, 3) := by decide +kernel
theorem dX1_plant_55 : decode cX1_plant 55 = .ok (.iload_n 1, 1) := by decide +kernel
theorem dX1_plant_56 : decode cX1_plant 56 = .ok (.iaload, 1) := by decide +kernel
theorem dX1_plant_57 : decode cX1_plant 57 = .ok (.invokevirtual 64, 3) := by decide +kernel
theorem dX1_plant_60 : decode cX1_plant 60 = .ok (.return_, 1) := by decide +kernel
theorem dX1_spoil_0 : decode cX1_spoil 0 = .ok (.aload_n 0, 1) := by decide +kernel
theorem dX1_spoil_1 : decode cX1_spoil 1 = .ok (.getfield 28, 3) := by decide +kernel
theorem dX1_spoil_4 : decode cX1_spoil 4 = .ok (.tableswitch 89 1 4 #[32, 47, 64, 79], 32) := by decide +kernel
theorem dX1_spoil_36 : decode cX1_spoil 36 = .ok (.aload_n 0, 1) := by decide +kernel
theorem dX1_spoil_37 : decode cX1_spoil 37 = .ok (.getfield 15, 3) := by decide +kernel
theorem dX1_spoil_40 : decode cX1_spoil 40 = .ok (.iload_n 1, 1) := by decide +kernel
theorem dX1_spoil_41 : decode cX1_spoil 41 = .ok (.dup2, 1) := by decide +kernel
theorem dX1_spoil_42 : decode cX1_spoil 42 = .ok (.iaload, 1) := by decide +kernel
theorem dX1_spoil_43 : decode cX1_spoil 43 = .ok (.sipush 1000, 3) := by decide +kernel
theorem dX1_spoil_46 : decode cX1_spoil 46 = .ok (.iadd, 1) := by decide +kernel
theorem dX1_spoil_47 : decode cX1_spoil 47 = .ok (.iastore, 1) := by decide +kernel
theorem dX1_spoil_48 : decode cX1_spoil 48 = .ok (.goto 66, 3) := by decide +kernel
theorem dX1_spoil_51 : decode cX1_spoil 51 = .ok (.aload_n 0, 1) := by decide +kernel
theorem dX1_spoil_52 : decode cX1_spoil 52 = .ok (.getfield 18, 3) := by decide +kernel
theorem dX1_spoil_55 : decode cX1_spoil 55 = .ok (.iload_n 1, 1) := by decide +kernel
theorem dX1_spoil_56 : decode cX1_spoil 56 = .ok (.iconst (-1), 1) := by decide +kernel
theorem dX1_spoil_57 : decode cX1_spoil 57 = .ok (.aload_n 0, 1) := by decide +kernel
theorem dX1_spoil_58 : decode cX1_spoil 58 = .ok (.getfield 18, 3) := by decide +kernel
theorem dX1_spoil_61 : decode cX1_spoil 61 = .ok (.iload_n 1, 1) := by decide +kernel
theorem dX1_spoil_62 : decode cX1_spoil 62 = .ok (.iaload, 1) := by decide +kernel
theorem dX1_spoil_63 : decode cX1_spoil 63 = .ok (.isub, 1) := by decide +kernel
theorem dX1_spoil_64 : decode cX1_spoil 64 = .ok (.iastore, 1) := by decide +kernel
theorem dX1_spoil_65 : decode cX1_spoil 65 = .ok (.goto 49, 3) := by decide +kernel
theorem dX1_spoil_68 : decode cX1_spoil 68 = .ok (.aload_n 0, 1) := by decide +kernel
theorem dX1_spoil_69 : decode cX1_spoil 69 = .ok (.getfield 21, 3) := by decide +kernel
theorem dX1_spoil_72 : decode cX1_spoil 72 = .ok (.iload_n 1, 1) := by decide +kernel
theorem dX1_spoil_73 : decode cX1_spoil 73 = .ok (.dup2, 1) := by decide +kernel
theorem dX1_spoil_74 : decode cX1_spoil 74 = .ok (.iaload, 1) := by decide +kernel
theorem dX1_spoil_75 : decode cX1_spoil 75 = .ok (.sipush 1000, 3) := by decide +kernel
theorem dX1_spoil_78 : decode cX1_spoil 78 = .ok (.iadd, 1) := by decide +kernel
theorem dX1_spoil_79 : decode cX1_spoil 79 = .ok (.iastore, 1) := by decide +kernel
theorem dX1_spoil_80 : decode cX1_spoil 80 = .ok (.goto 34, 3) := by decide +kernel
theorem dX1_spoil_83 : decode cX1_spoil 83 = .ok (.aload_n 0, 1) := by decide +kernel
theorem dX1_spoil_84 : decode cX1_spoil 84 = .ok (.getfield 9, 3) := by decide +kernel
theorem dX1_spoil_87 : decode cX1_spoil 87 = .ok (.iload_n 1, 1) := by decide +kernel
theorem dX1_spoil_88 : decode cX1_spoil 88 = .ok (.iload_n 2, 1) := by decide +kernel
theorem dX1_spoil_89 : decode cX1_spoil 89 = .ok (.iastore, 1) := by decide +kernel
theorem dX1_spoil_90 : decode cX1_spoil 90 = .ok (.goto 24, 3) := by decide +kernel
theorem dX1_spoil_93 : decode cX1_spoil 93 = .ok (.aload_n 0, 1) := by decide +kernel
theorem dX1_spoil_94 : decode cX1_spoil 94 = .ok (.getfield 15, 3) := by decide +kernel
theorem dX1_spoil_97 : decode cX1_spoil 97 = .ok (.iload_n 1, 1) := by decide +kernel
theorem dX1_spoil_98 : decode cX1_spoil 98 = .ok (.iconst 0, 1) := by decide +kernel
theorem dX1_spoil_99 : decode cX1_spoil 99 = .ok (.iastore, 1) := by decide +kernel
theorem dX1_spoil_100 : decode cX1_spoil 100 = .ok (.aload_n 0, 1) := by decide +kernel
theorem dX1_spoil_101 : decode cX1_spoil 101 = .ok (.getfield 18, 3) := by decide +kernel
theorem dX1_spoil_104 : decode cX1_spoil 104 = .ok (.iload_n 1, 1) := by decide +kernel
theorem dX1_spoil_105 : decode cX1_spoil 105 = .ok (.iconst 0, 1) := by decide +kernel
theorem dX1_spoil_106 : decode cX1_spoil 106 = .ok (.iastore, 1) := by decide +kernel
theorem dX1_spoil_107 : decode cX1_spoil 107 = .ok (.aload_n 0, 1) := by decide +kernel
theorem dX1_spoil_108 : decode cX1_spoil 108 = .ok (.getfield 21, 3) := by decide +kernel
theorem dX1_spoil_111 : decode cX1_spoil 111 = .ok (.iload_n 1, 1) := by decide +kernel
theorem dX1_spoil_112 : decode cX1_spoil 112 = .ok (.iconst 0, 1) := by decide +kernel
theorem dX1_spoil_113 : decode cX1_spoil 113 = .ok (.iastore, 1) := by decide +kernel
theorem dX1_spoil_114 : decode cX1_spoil 114 = .ok (.return_, 1) := by decide +kernel
theorem dX1_has_0 : decode cX1_has 0 = .ok (.iload_n 1, 1) := by decide +kernel
theorem dX1_has_1 : decode cX1_has 1 = .ok (.ifCond .lt 15, 3) := by decide +kernel
theorem dX1_has_4 : decode cX1_has 4 = .ok (.iload_n 1, 1) := by decide +kernel
theorem dX1_has_5 : decode cX1_has 5 = .ok (.aload_n 0, 1) := by decide +kernel
theorem dX1_has_6 : decode cX1_has 6 = .ok (.getfield 24, 3) := by decide +kernel
theorem dX1_has_9 : decode cX1_has 9 = .ok (.if_icmp .ge 7, 3) := by decide +kernel
theorem dX1_has_12 : decode cX1_has 12 = .ok (.iconst 1, 1) := by decide +kernel
theorem dX1_has_13 : decode cX1_has 13 = .ok (.goto 4, 3) := by decide +kernel
theorem dX1_has_16 : decode cX1_has 16 = .ok (.iconst 0, 1) := by decide +kernel
theorem dX1_has_17 : decode cX1_has 17 = .ok (.ireturn, 1) := by decide +kernel
theorem dX1_number_0 : decode cX1_number 0 = .ok (.iload_n 2, 1) := by decide +kernel
theorem dX1_number_1 : decode cX1_number 1 = .ok (.tableswitch 48 0 2 #[27, 34, 41], 27) := by decide +kernel
theorem dX1_number_28 : decode cX1_number 28 = .ok (.aload_n 0, 1) := by decide +kernel
theorem dX1_number_29 : decode cX1_number 29 = .ok (.getfield 9, 3) := by decide +kernel
theorem dX1_number_32 : decode cX1_number 32 = .ok (.iload_n 1, 1) := by decide +kernel
theorem dX1_number_33 : decode cX1_number 33 = .ok (.iaload, 1) := by decide +kernel
theorem dX1_number_34 : decode cX1_number 34 = .ok (.ireturn, 1) := by decide +kernel
theorem dX1_number_35 : decode cX1_number 35 = .ok (.aload_n 0, 1) := by decide +kernel
theorem dX1_number_36 : decode cX1_number 36 = .ok (.getfield 15, 3) := by decide +kernel
theorem dX1_number_39 : decode cX1_number 39 = .ok (.iload_n 1, 1) := by decide +kernel
theorem dX1_number_40 : decode cX1_number 40 = .ok (.iaload, 1) := by decide +kernel
theorem dX1_number_41 : decode cX1_number 41 = .ok (.ireturn, 1) := by decide +kernel
theorem dX1_number_42 : decode cX1_number 42 = .ok (.aload_n 0, 1) := by decide +kernel
theorem dX1_number_43 : decode cX1_number 43 = .ok (.getfield 18, 3) := by decide +kernel
theorem dX1_number_46 : decode cX1_number 46 = .ok (.iload_n 1, 1) := by decide +kernel
theorem dX1_number_47 : decode cX1_number 47 = .ok (.iaload, 1) := by decide +kernel
theorem dX1_number_48 : decode cX1_number 48 = .ok (.ireturn, 1) := by decide +kernel
theorem dX1_number_49 : decode cX1_number 49 = .ok (.aload_n 0, 1) := by decide +kernel
theorem dX1_number_50 : decode cX1_number 50 = .ok (.getfield 21, 3) := by decide +kernel
theorem dX1_number_53 : decode cX1_number 53 = .ok (.iload_n 1, 1) := by decide +kernel
theorem dX1_number_54 : decode cX1_number 54 = .ok (.iaload, 1) := by decide +kernel
theorem dX1_number_55 : decode cX1_number 55 = .ok (.ireturn, 1) := by decide +kernel
theorem dX1_hasEvenSum_0 : decode cX1_hasEvenSum 0 = .ok (.iconst 0, 1) := by decide +kernel
theorem dX1_hasEvenSum_1 : decode cX1_hasEvenSum 1 = .ok (.istore_n 1, 1) := by decide +kernel
theorem dX1_hasEvenSum_2 : decode cX1_hasEvenSum 2 = .ok (.iconst 0, 1) := by decide +kernel
theorem dX1_hasEvenSum_3 : decode cX1_hasEvenSum 3 = .ok (.istore_n 2, 1) := by decide +kernel
theorem dX1_hasEvenSum_4 : decode cX1_hasEvenSum 4 = .ok (.iload_n 2, 1) := by decide +kernel
theorem dX1_hasEvenSum_5 : decode cX1_hasEvenSum 5 = .ok (.aload_n 0, 1) := by decide +kernel
theorem dX1_hasEvenSum_6 : decode cX1_hasEvenSum 6 = .ok (.getfield 24, 3) := by decide +kernel
theorem dX1_hasEvenSum_9 : decode cX1_hasEvenSum 9 = .ok (.if_icmp .ge 18, 3) := by decide +kernel
theorem dX1_hasEvenSum_12 : decode cX1_hasEvenSum 12 = .ok (.iload_n 1, 1) := by decide +kernel
theorem dX1_hasEvenSum_13 : decode cX1_hasEvenSum 13 = .ok (.aload_n 0, 1) := by decide +kernel
theorem dX1_hasEvenSum_14 : decode cX1_hasEvenSum 14 = .ok (.getfield 21, 3) := by decide +kernel
theorem dX1_hasEvenSum_17 : decode cX1_hasEvenSum 17 = .ok (.iload_n 2, 1) := by decide +kernel
theorem dX1_hasEvenSum_18 : decode cX1_hasEvenSum 18 = .ok (.iaload, 1) := by decide +kernel
theorem dX1_hasEvenSum_19 : decode cX1_hasEvenSum 19 = .ok (.iadd, 1) := by decide +kernel
theorem dX1_hasEvenSum_20 : decode cX1_hasEvenSum 20 = .ok (.istore_n 1, 1) := by decide +kernel
theorem dX1_hasEvenSum_21 : decode cX1_hasEvenSum 21 = .ok (.iinc 2 1, 3) := by decide +kernel
theorem dX1_hasEvenSum_24 : decode cX1_hasEvenSum 24 = .ok (.goto (-20), 3) := by decide +kernel
theorem dX1_hasEvenSum_27 : decode cX1_hasEvenSum 27 = .ok (.iload_n 1, 1) := by decide +kernel
theorem dX1_hasEvenSum_28 : decode cX1_hasEvenSum 28 = .ok (.iconst 2, 1) := by decide +kernel
theorem dX1_hasEvenSum_29 : decode cX1_hasEvenSum 29 = .ok (.irem, 1) := by decide +kernel
theorem dX1_hasEvenSum_30 : decode cX1_hasEvenSum 30 = .ok (.ifCond .ne 7, 3) := by decide +kernel
theorem dX1_hasEvenSum_33 : decode cX1_hasEvenSum 33 = .ok (.iconst 1, 1) := by decide +kernel
theorem dX1_hasEvenSum_34 : decode cX1_hasEvenSum 34 = .ok (.goto 4, 3) := by decide +kernel
theorem dX1_hasEvenSum_37 : decode cX1_hasEvenSum 37 = .ok (.iconst 0, 1) := by decide +kernel
theorem dX1_hasEvenSum_38 : decode cX1_hasEvenSum 38 = .ok (.ireturn, 1) := by decide +kernel
theorem dX1_equalTo_0 : decode cX1_equalTo 0 = .ok (.aload_n 0, 1) := by decide +kernel
theorem dX1_equalTo_1 : decode cX1_equalTo 1 = .ok (.getfield 24, 3) := by decide +kernel
theorem dX1_equalTo_4 : decode cX1_equalTo 4 = .ok (.aload_n 1, 1) := by decide +kernel
theorem dX1_equalTo_5 : decode cX1_equalTo 5 = .ok (.getfield 24, 3) := by decide +kernel
theorem dX1_equalTo_8 : decode cX1_equalTo 8 = .ok (.if_icmp .ne 14, 3) := by decide +kernel
theorem dX1_equalTo_11 : decode cX1_equalTo 11 = .ok (.aload_n 0, 1) := by decide +kernel
theorem dX1_equalTo_12 : decode cX1_equalTo 12 = .ok (.getfield 28, 3) := by decide +kernel
theorem dX1_equalTo_15 : decode cX1_equalTo 15 = .ok (.aload_n 1, 1) := by decide +kernel
theorem dX1_equalTo_16 : decode cX1_equalTo 16 = .ok (.getfield 28, 3) := by decide +kernel
theorem dX1_equalTo_19 : decode cX1_equalTo 19 = .ok (.if_icmp .eq 5, 3) := by decide +kernel
theorem dX1_equalTo_22 : decode cX1_equalTo 22 = .ok (.iconst 0, 1) := by decide +kernel
theorem dX1_equalTo_23 : decode cX1_equalTo 23 = .ok (.ireturn, 1) := by decide +kernel
theorem dX1_equalTo_24 : decode cX1_equalTo 24 = .ok (.iconst 0, 1) := by decide +kernel
theorem dX1_equalTo_25 : decode cX1_equalTo 25 = .ok (.istore_n 2, 1) := by decide +kernel
theorem dX1_equalTo_26 : decode cX1_equalTo 26 = .ok (.iload_n 2, 1) := by decide +kernel
theorem dX1_equalTo_27 : decode cX1_equalTo 27 = .ok (.aload_n 0, 1) := by decide +kernel
theorem dX1_equalTo_28 : decode cX1_equalTo 28 = .ok (.getfield 24, 3) := by decide +kernel
theorem dX1_equalTo_31 : decode cX1_equalTo 31 = .ok (.if_icmp .ge 71, 3) := by decide +kernel
theorem dX1_equalTo_34 : decode cX1_equalTo 34 = .ok (.aload_n 0, 1) := by decide +kernel
theorem dX1_equalTo_35 : decode cX1_equalTo 35 = .ok (.getfield 9, 3) := by decide +kernel
theorem dX1_equalTo_38 : decode cX1_equalTo 38 = .ok (.iload_n 2, 1) := by decide +kernel
theorem dX1_equalTo_39 : decode cX1_equalTo 39 = .ok (.iaload, 1) := by decide +kernel
theorem dX1_equalTo_40 : decode cX1_equalTo 40 = .ok (.aload_n 1, 1) := by decide +kernel
theorem dX1_equalTo_41 : decode cX1_equalTo 41 = .ok (.getfield 9, 3) := by decide +kernel
theorem dX1_equalTo_44 : decode cX1_equalTo 44 = .ok (.iload_n 2, 1) := by decide +kernel
theorem dX1_equalTo_45 : decode cX1_equalTo 45 = .ok (.iaload, 1) := by decide +kernel
theorem dX1_equalTo_46 : decode cX1_equalTo 46 = .ok (.if_icmp .ne 48, 3) := by decide +kernel
theorem dX1_equalTo_49 : decode cX1_equalTo 49 = .ok (.aload_n 0, 1) := by decide +kernel
theorem dX1_equalTo_50 : decode cX1_equalTo 50 = .ok (.getfield 15, 3) := by decide +kernel
theorem dX1_equalTo_53 : decode cX1_equalTo 53 = .ok (.iload_n 2, 1) := by decide +kernel
theorem dX1_equalTo_54 : decode cX1_equalTo 54 = .ok (.iaload, 1) := by decide +kernel
theorem dX1_equalTo_55 : decode cX1_equalTo 55 = .ok (.aload_n 1, 1) := by decide +kernel
theorem dX1_equalTo_56 : decode cX1_equalTo 56 = .ok (.getfield 15, 3) := by decide +kernel
theorem dX1_equalTo_59 : decode cX1_equalTo 59 = .ok (.iload_n 2, 1) := by decide +kernel
theorem dX1_equalTo_60 : decode cX1_equalTo 60 = .ok (.iaload, 1) := by decide +kernel
theorem dX1_equalTo_61 : decode cX1_equalTo 61 = .ok (.if_icmp .ne 33, 3) := by decide +kernel
theorem dX1_equalTo_64 : decode cX1_equalTo 64 = .ok (.aload_n 0, 1) := by decide +kernel
theorem dX1_equalTo_65 : decode cX1_equalTo 65 = .ok (.getfield 18, 3) := by decide +kernel
theorem dX1_equalTo_68 : decode cX1_equalTo 68 = .ok (.iload_n 2, 1) := by decide +kernel
theorem dX1_equalTo_69 : decode cX1_equalTo 69 = .ok (.iaload, 1) := by decide +kernel
theorem dX1_equalTo_70 : decode cX1_equalTo 70 = .ok (.aload_n 1, 1) := by decide +kernel
theorem dX1_equalTo_71 : decode cX1_equalTo 71 = .ok (.getfield 18, 3) := by decide +kernel
theorem dX1_equalTo_74 : decode cX1_equalTo 74 = .ok (.iload_n 2, 1) := by decide +kernel
theorem dX1_equalTo_75 : decode cX1_equalTo 75 = .ok (.iaload, 1) := by decide +kernel
theorem dX1_equalTo_76 : decode cX1_equalTo 76 = .ok (.if_icmp .ne 18, 3) := by decide +kernel
theorem dX1_equalTo_79 : decode cX1_equalTo 79 = .ok (.aload_n 0, 1) := by decide +kernel
theorem dX1_equalTo_80 : decode cX1_equalTo 80 = .ok (.getfield 21, 3) := by decide +kernel
theorem dX1_equalTo_83 : decode cX1_equalTo 83 = .ok (.iload_n 2, 1) := by decide +kernel
theorem dX1_equalTo_84 : decode cX1_equalTo 84 = .ok (.iaload, 1) := by decide +kernel
theorem dX1_equalTo_85 : decode cX1_equalTo 85 = .ok (.aload_n 1, 1) := by decide +kernel
theorem dX1_equalTo_86 : decode cX1_equalTo 86 = .ok (.getfield 21, 3) := by decide +kernel
theorem dX1_equalTo_89 : decode cX1_equalTo 89 = .ok (.iload_n 2, 1) := by decide +kernel
theorem dX1_equalTo_90 : decode cX1_equalTo 90 = .ok (.iaload, 1) := by decide +kernel
theorem dX1_equalTo_91 : decode cX1_equalTo 91 = .ok (.if_icmp .eq 5, 3) := by decide +kernel
theorem dX1_equalTo_94 : decode cX1_equalTo 94 = .ok (.iconst 0, 1) := by decide +kernel
theorem dX1_equalTo_95 : decode cX1_equalTo 95 = .ok (.ireturn, 1) := by decide +kernel
theorem dX1_equalTo_96 : decode cX1_equalTo 96 = .ok (.iinc 2 1, 3) := by decide +kernel
theorem dX1_equalTo_99 : decode cX1_equalTo 99 = .ok (.goto (-73), 3) := by decide +kernel
theorem dX1_equalTo_102 : decode cX1_equalTo 102 = .ok (.iconst 1, 1) := by decide +kernel
theorem dX1_equalTo_103 : decode cX1_equalTo 103 = .ok (.ireturn, 1) := by decide +kernel
theorem dX0_init_0 : decode cX0_init 0 = .ok (.aload_n 0, 1) := by decide +kernel
theorem dX0_init_1 : decode cX0_init 1 = .ok (.invokespecial 1, 3) := by decide +kernel
theorem dX0_init_4 : decode cX0_init 4 = .ok (.aload_n 0, 1) := by decide +kernel
theorem dX0_init_5 : decode cX0_init 5 = .ok (.lload_n 1, 1) := by decide +kernel
theorem dX0_init_6 : decode cX0_init 6 = .ok (.putfield 7, 3) := by decide +kernel
theorem dX0_init_9 : decode cX0_init 9 = .ok (.return_, 1) := by decide +kernel
theorem dX0_startAt_0 : decode cX0_startAt 0 = .ok (.aload_n 0, 1) := by decide +kernel
theorem dX0_startAt_1 : decode cX0_startAt 1 = .ok (.lload_n 1, 1) := by decide +kernel
theorem dX0_startAt_2 : decode cX0_startAt 2 = .ok (.putfield 7, 3) := by decide +kernel
theorem dX0_startAt_5 : decode cX0_startAt 5 = .ok (.return_, 1) := by decide +kernel
theorem dX0_below_0 : decode cX0_below 0 = .ok (.aload_n 0, 1) := by decide +kernel
theorem dX0_below_1 : decode cX0_below 1 = .ok (.ldc2_w 13, 3) := by decide +kernel
theorem dX0_below_4 : decode cX0_below 4 = .ok (.aload_n 0, 1) := by decide +kernel
theorem dX0_below_5 : decode cX0_below 5 = .ok (.getfield 7, 3) := by decide +kernel
theorem dX0_below_8 : decode cX0_below 8 = .ok (.lmul, 1) := by decide +kernel
theorem dX0_below_9 : decode cX0_below 9 = .ok (.ldc2_w 15, 3) := by decide +kernel
theorem dX0_below_12 : decode cX0_below 12 = .ok (.ladd, 1) := by decide +kernel
theorem dX0_below_13 : decode cX0_below 13 = .ok (.putfield 7, 3) := by decide +kernel
theorem dX0_below_16 : decode cX0_below 16 = .ok (.aload_n 0, 1) := by decide +kernel
theorem dX0_below_17 : decode cX0_below 17 = .ok (.getfield 7, 3) := by decide +kernel
theorem dX0_below_20 : decode cX0_below 20 = .ok (.bipush 33, 2) := by decide +kernel
theorem dX0_below_22 : decode cX0_below 22 = .ok (.lushr, 1) := by decide +kernel
theorem dX0_below_23 : decode cX0_below 23 = .ok (.l2i, 1) := by decide +kernel
theorem dX0_below_24 : decode cX0_below 24 = .ok (.istore_n 2, 1) := by decide +kernel
theorem dX0_below_25 : decode cX0_below 25 = .ok (.iload_n 1, 1) := by decide +kernel
theorem dX0_below_26 : decode cX0_below 26 = .ok (.ifCond .le 9, 3) := by decide +kernel
theorem dX0_below_29 : decode cX0_below 29 = .ok (.iload_n 2, 1) := by decide +kernel
theorem dX0_below_30 : decode cX0_below 30 = .ok (.iload_n 1, 1) := by decide +kernel
theorem dX0_below_31 : decode cX0_below 31 = .ok (.irem, 1) := by decide +kernel
theorem dX0_below_32 : decode cX0_below 32 = .ok (.goto 4, 3) := by decide +kernel
theorem dX0_below_35 : decode cX0_below 35 = .ok (.iconst 0, 1) := by decide +kernel
theorem dX0_below_36 : decode cX0_below 36 = .ok (.ireturn, 1) := by decide +kernel
theorem dX3_init_0 : decode cX3_init 0 = .ok (.aload_n 0, 1) := by decide +kernel
theorem dX3_init_1 : decode cX3_init 1 = .ok (.invokespecial 3, 3) := by decide +kernel
theorem dX3_init_4 : decode cX3_init 4 = .ok (.aload_n 0, 1) := by decide +kernel
theorem dX3_init_5 : decode cX3_init 5 = .ok (.new 9, 3) := by decide +kernel
theorem dX3_init_8 : decode cX3_init 8 = .ok (.dup, 1) := by decide +kernel
theorem dX3_init_9 : decode cX3_init 9 = .ok (.invokespecial 11, 3) := by decide +kernel
theorem dX3_init_12 : decode cX3_init 12 = .ok (.putfield 12, 3) := by decide +kernel
theorem dX3_init_15 : decode cX3_init 15 = .ok (.aload_n 0, 1) := by decide +kernel
theorem dX3_init_16 : decode cX3_init 16 = .ok (.new 18, 3) := by decide +kernel
theorem dX3_init_19 : decode cX3_init 19 = .ok (.dup, 1) := by decide +kernel
theorem dX3_init_20 : decode cX3_init 20 = .ok (.invokespecial 20, 3) := by decide +kernel
theorem dX3_init_23 : decode cX3_init 23 = .ok (.putfield 21, 3) := by decide +kernel
theorem dX3_init_26 : decode cX3_init 26 = .ok (.aload_n 0, 1) := by decide +kernel
theorem dX3_init_27 : decode cX3_init 27 = .ok (.bipush 40, 2) := by decide +kernel
theorem dX3_init_29 : decode cX3_init 29 = .ok (.newarray .int, 2) := by decide +kernel
theorem dX3_init_31 : decode cX3_init 31 = .ok (.putfield 25, 3) := by decide +kernel
theorem dX3_init_34 : decode cX3_init 34 = .ok (.aload_n 0, 1) := by decide +kernel
theorem dX3_init_35 : decode cX3_init 35 = .ok (.iconst 0, 1) := by decide +kernel
theorem dX3_init_36 : decode cX3_init 36 = .ok (.putfield 29, 3) := by decide +kernel
theorem dX3_init_39 : decode cX3_init 39 = .ok (.return_, 1) := by decide +kernel
theorem dX3_takeAll_0 : decode cX3_takeAll 0 = .ok (.aload_n 0, 1) := by decide +kernel
theorem dX3_takeAll_1 : decode cX3_takeAll 1 = .ok (.aload_n 0, 1) := by decide +kernel
theorem dX3_takeAll_2 : decode cX3_takeAll 2 = .ok (.getfield 12, 3) := by decide +kernel
theorem dX3_takeAll_5 : decode cX3_takeAll 5 = .ok (.getfield 33, 3) := by decide +kernel
theorem dX3_takeAll_8 : decode cX3_takeAll 8 = .ok (.putfield 29, 3) := by decide +kernel
theorem dX3_takeAll_11 : decode cX3_takeAll 11 = .ok (.iconst 0, 1) := by decide +kernel
theorem dX3_takeAll_12 : decode cX3_takeAll 12 = .ok (.istore_n 1, 1) := by decide +kernel
theorem dX3_takeAll_13 : decode cX3_takeAll 13 = .ok (.iload_n 1, 1) := by decide +kernel
theorem dX3_takeAll_14 : decode cX3_takeAll 14 = .ok (.aload_n 0, 1) := by decide +kernel
theorem dX3_takeAll_15 : decode cX3_takeAll 15 = .ok (.getfield 29, 3) := by decide +kernel
theorem dX3_takeAll_18 : decode cX3_takeAll 18 = .ok (.if_icmp .ge 16, 3) := by decide +kernel
theorem dX3_takeAll_21 : decode cX3_takeAll 21 = .ok (.aload_n 0, 1) := by decide +kernel
theorem dX3_takeAll_22 : decode cX3_takeAll 22 = .ok (.getfield 25, 3) := by decide +kernel
theorem dX3_takeAll_25 : decode cX3_takeAll 25 = .ok (.iload_n 1, 1) := by decide +kernel
theorem dX3_takeAll_26 : decode cX3_takeAll 26 = .ok (.iload_n 1, 1) := by decide +kernel
theorem dX3_takeAll_27 : decode cX3_takeAll 27 = .ok (.iastore, 1) := by decide +kernel
theorem dX3_takeAll_28 : decode cX3_takeAll 28 = .ok (.iinc 1 1, 3) := by decide +kernel
theorem dX3_takeAll_31 : decode cX3_takeAll 31 = .ok (.goto (-18), 3) := by decide +kernel
theorem dX3_takeAll_34 : decode cX3_takeAll 34 = .ok (.return_, 1) := by decide +kernel
theorem dX3_numberAt_0 : decode cX3_numberAt 0 = .ok (.iload_n 1, 1) := by decide +kernel
theorem dX3_numberAt_1 : decode cX3_numberAt 1 = .ok (.ifCond .lt 20, 3) := by decide +kernel
theorem dX3_numberAt_4 : decode cX3_numberAt 4 = .ok (.iload_n 1, 1) := by decide +kernel
theorem dX3_numberAt_5 : decode cX3_numberAt 5 = .ok (.aload_n 0, 1) := by decide +kernel
theorem dX3_numberAt_6 : decode cX3_numberAt 6 = .ok (.getfield 29, 3) := by decide +kernel
theorem dX3_numberAt_9 : decode cX3_numberAt 9 = .ok (.if_icmp .ge 12, 3) := by decide +kernel
theorem dX3_numberAt_12 : decode cX3_numberAt 12 = .ok (.aload_n 0, 1) := by decide +kernel
theorem dX3_numberAt_13 : decode cX3_numberAt 13 = .ok (.getfield 25, 3) := by decide +kernel
theorem dX3_numberAt_16 : decode cX3_numberAt 16 = .ok (.iload_n 1, 1) := by decide +kernel
theorem dX3_numberAt_17 : decode cX3_numberAt 17 = .ok (.iaload, 1) := by decide +kernel
theorem dX3_numberAt_18 : decode cX3_numberAt 18 = .ok (.goto 4, 3) := by decide +kernel
theorem dX3_numberAt_21 : decode cX3_numberAt 21 = .ok (.iconst (-1), 1) := by decide +kernel
theorem dX3_numberAt_22 : decode cX3_numberAt 22 = .ok (.ireturn, 1) := by decide +kernel
theorem dX3_holds_0 : decode cX3_holds 0 = .ok (.iconst 0, 1) := by decide +kernel
theorem dX3_holds_1 : decode cX3_holds 1 = .ok (.istore_n 2, 1) := by decide +kernel
theorem dX3_holds_2 : decode cX3_holds 2 = .ok (.iload_n 2, 1) := by decide +kernel
theorem dX3_holds_3 : decode cX3_holds 3 = .ok (.aload_n 0, 1) := by decide +kernel
theorem dX3_holds_4 : decode cX3_holds 4 = .ok (.getfield 29, 3) := by decide +kernel
theorem dX3_holds_7 : decode cX3_holds 7 = .ok (.if_icmp .ge 21, 3) := by decide +kernel
theorem dX3_holds_10 : decode cX3_holds 10 = .ok (.aload_n 0, 1) := by decide +kernel
theorem dX3_holds_11 : decode cX3_holds 11 = .ok (.getfield 25, 3) := by decide +kernel
theorem dX3_holds_14 : decode cX3_holds 14 = .ok (.iload_n 2, 1) := by decide +kernel
theorem dX3_holds_15 : decode cX3_holds 15 = .ok (.iaload, 1) := by decide +kernel
theorem dX3_holds_16 : decode cX3_holds 16 = .ok (.iload_n 1, 1) := by decide +kernel
theorem dX3_holds_17 : decode cX3_holds 17 = .ok (.if_icmp .ne 5, 3) := by decide +kernel
theorem dX3_holds_20 : decode cX3_holds 20 = .ok (.iconst 1, 1) := by decide +kernel
theorem dX3_holds_21 : decode cX3_holds 21 = .ok (.ireturn, 1) := by decide +kernel
theorem dX3_holds_22 : decode cX3_holds 22 = .ok (.iinc 2 1, 3) := by decide +kernel
theorem dX3_holds_25 : decode cX3_holds 25 = .ok (.goto (-23), 3) := by decide +kernel
theorem dX3_holds_28 : decode cX3_holds 28 = .ok (.iconst 0, 1) := by decide +kernel
theorem dX3_holds_29 : decode cX3_holds 29 = .ok (.ireturn, 1) := by decide +kernel
theorem dX3_signature_0 : decode cX3_signature 0 = .ok (.aload_n 0, 1) := by decide +kernel
theorem dX3_signature_1 : decode cX3_signature 1 = .ok (.iconst 0, 1) := by decide +kernel
theorem dX3_signature_2 : decode cX3_signature 2 = .ok (.iconst 0, 1) := by decide +kernel
theorem dX3_signature_3 : decode cX3_signature 3 = .ok (.invokevirtual 34, 3) := by decide +kernel
theorem dX3_signature_6 : decode cX3_signature 6 = .ok (.ireturn, 1) := by decide +kernel
theorem dX3_signatureWithout_0 : decode cX3_signatureWithout 0 = .ok (.iconst 0, 1) := by decide +kernel
theorem dX3_signatureWithout_1 : decode cX3_signatureWithout 1 = .ok (.istore_n 3, 1) := by decide +kernel
theorem dX3_signatureWithout_2 : decode cX3_signatureWithout 2 = .ok (.iconst 0, 1) := by decide +kernel
theorem dX3_signatureWithout_3 : decode cX3_signatureWithout 3 = .ok (.istore 4, 2) := by decide +kernel
theorem dX3_signatureWithout_5 : decode cX3_signatureWithout 5 = .ok (.iconst 0, 1) := by decide +kernel
theorem dX3_signatureWithout_6 : decode cX3_signatureWithout 6 = .ok (.istore 5, 2) := by decide +kernel
theorem dX3_signatureWithout_8 : decode cX3_signatureWithout 8 = .ok (.iload 5, 2) := by decide +kernel
theorem dX3_signatureWithout_10 : decode cX3_signatureWithout 10 = .ok (.aload_n 0, 1) := by decide +kernel
theorem dX3_signatureWithout_11 : decode cX3_signatureWithout 11 = .ok (.getfield 29, 3) := by decide +kernel
theorem dX3_signatureWithout_14 : decode cX3_signatureWithout 14 = .ok (.if_icmp .ge 83, 3) := by decide +kernel
theorem dX3_signatureWithout_17 : decode cX3_signatureWithout 17 = .ok (.iload 5, 2) := by decide +kernel
theorem dX3_signatureWithout_19 : decode cX3_signatureWithout 19 = .ok (.iload_n 1, 1) := by decide +kernel
theorem dX3_signatureWithout_20 : decode cX3_signatureWithout 20 = .ok (.if_icmp .lt 9, 3) := by decide +kernel
theorem dX3_signatureWithout_23 : decode cX3_signatureWithout 23 = .ok (.iload 5, 2) := by decide +kernel
theorem dX3_signatureWithout_25 : decode cX3_signatureWithout 25 = .ok (.iload_n 2, 1) := by decide +kernel
theorem dX3_signatureWithout_26 : decode cX3_signatureWithout 26 = .ok (.if_icmp .lt 65, 3) := by decide +kernel
theorem dX3_signatureWithout_29 : decode cX3_signatureWithout 29 = .ok (.aload_n 0, 1) := by decide +kernel
theorem dX3_signatureWithout_30 : decode cX3_signatureWithout 30 = .ok (.getfield 25, 3) := by decide +kernel
theorem dX3_signatureWithout_33 : decode cX3_signatureWithout 33 = .ok (.iload 5, 2) := by decide +kernel
theorem dX3_signatureWithout_35 : decode cX3_signatureWithout 35 = .ok (.iaload, 1) := by decide +kernel
theorem dX3_signatureWithout_36 : decode cX3_signatureWithout 36 = .ok (.istore 6, 2) := by decide +kernel
theorem dX3_signatureWithout_38 : decode cX3_signatureWithout 38 = .ok (.iload_n 3, 1) := by decide +kernel
theorem dX3_signatureWithout_39 : decode cX3_signatureWithout 39 = .ok (.iconst 1, 1) := by decide +kernel
theorem dX3_signatureWithout_40 : decode cX3_signatureWithout 40 = .ok (.aload_n 0, 1) := by decide +kernel
theorem dX3_signatureWithout_41 : decode cX3_signatureWithout 41 = .ok (.getfield 12, 3) := by decide +kernel
theorem dX3_signatureWithout_44 : decode cX3_signatureWithout 44 = .ok (.getfield 38, 3) := by decide +kernel
theorem dX3_signatureWithout_47 : decode cX3_signatureWithout 47 = .ok (.iload 6, 2) := by decide +kernel
theorem dX3_signatureWithout_49 : decode cX3_signatureWithout 49 = .ok (.iaload, 1) := by decide +kernel
theorem dX3_signatureWithout_50 : decode cX3_signatureWithout 50 = .ok (.iconst 4, 1) := by decide +kernel
theorem dX3_signatureWithout_51 : decode cX3_signatureWithout 51 = .ok (.irem, 1) := by decide +kernel
theorem dX3_signatureWithout_52 : decode cX3_signatureWithout 52 = .ok (.ishl, 1) := by decide +kernel
theorem dX3_signatureWithout_53 : decode cX3_signatureWithout 53 = .ok (.ior, 1) := by decide +kernel
theorem dX3_signatureWithout_54 : decode cX3_signatureWithout 54 = .ok (.istore_n 3, 1) := by decide +kernel
theorem dX3_signatureWithout_55 : decode cX3_signatureWithout 55 = .ok (.iload_n 3, 1) := by decide +kernel
theorem dX3_signatureWithout_56 : decode cX3_signatureWithout 56 = .ok (.iload 6, 2) := by decide +kernel
theorem dX3_signatureWithout_58 : decode cX3_signatureWithout 58 = .ok (.aload_n 0, 1) := by decide +kernel
theorem dX3_signatureWithout_59 : decode cX3_signatureWithout 59 = .ok (.getfield 12, 3) := by decide +kernel
theorem dX3_signatureWithout_62 : decode cX3_signatureWithout 62 = .ok (.getfield 41, 3) := by decide +kernel
theorem dX3_signatureWithout_65 : decode cX3_signatureWithout 65 = .ok (.if_icmp .ne 8, 3) := by decide +kernel
theorem dX3_signatureWithout_68 : decode cX3_signatureWithout 68 = .ok (.bipush 16, 2) := by decide +kernel
theorem dX3_signatureWithout_70 : decode cX3_signatureWithout 70 = .ok (.goto 4, 3) := by decide +kernel
theorem dX3_signatureWithout_73 : decode cX3_signatureWithout 73 = .ok (.iconst 0, 1) := by decide +kernel
theorem dX3_signatureWithout_74 : decode cX3_signatureWithout 74 = .ok (.ior, 1) := by decide +kernel
theorem dX3_signatureWithout_75 : decode cX3_signatureWithout 75 = .ok (.istore_n 3, 1) := by decide +kernel
theorem dX3_signatureWithout_76 : decode cX3_signatureWithout 76 = .ok (.iload 4, 2) := by decide +kernel
theorem dX3_signatureWithout_78 : decode cX3_signatureWithout 78 = .ok (.aload_n 0, 1) := by decide +kernel
theorem dX3_signatureWithout_79 : decode cX3_signatureWithout 79 = .ok (.getfield 12, 3) := by decide +kernel
theorem dX3_signatureWithout_82 : decode cX3_signatureWithout 82 = .ok (.getfield 44, 3) := by decide +kernel
theorem dX3_signatureWithout_85 : decode cX3_signatureWithout 85 = .ok (.iload 6, 2) := by decide +kernel
theorem dX3_signatureWithout_87 : decode cX3_signatureWithout 87 = .ok (.iaload, 1) := by decide +kernel
theorem dX3_signatureWithout_88 : decode cX3_signatureWithout 88 = .ok (.iadd, 1) := by decide +kernel
theorem dX3_signatureWithout_89 : decode cX3_signatureWithout 89 = .ok (.istore 4, 2) := by decide +kernel
theorem dX3_signatureWithout_91 : decode cX3_signatureWithout 91 = .ok (.iinc 5 1, 3) := by decide +kernel
theorem dX3_signatureWithout_94 : decode cX3_signatureWithout 94 = .ok (.goto (-86), 3) := by decide +kernel
theorem dX3_signatureWithout_97 : decode cX3_signatureWithout 97 = .ok (.iload_n 3, 1) := by decide +kernel
theorem dX3_signatureWithout_98 : decode cX3_signatureWithout 98 = .ok (.iload 4, 2) := by decide +kernel
theorem dX3_signatureWithout_100 : decode cX3_signatureWithout 100 = .ok (.iconst 2, 1) := by decide +kernel
theorem dX3_signatureWithout_101 : decode cX3_signatureWithout 101 = .ok (.irem, 1) := by decide +kernel
theorem dX3_signatureWithout_102 : decode cX3_signatureWithout 102 = .ok (.ifCond .ne 7, 3) := by decide +kernel
theorem dX3_signatureWithout_105 : decode cX3_signatureWithout 105 = .ok (.iconst 0, 1) := by decide +kernel
theorem dX3_signatureWithout_106 : decode cX3_signatureWithout 106 = .ok (.goto 5, 3) := by decide +kernel
theorem dX3_signatureWithout_109 : decode cX3_signatureWithout 109 = .ok (.bipush 32, 2) := by decide +kernel
theorem dX3_signatureWithout_111 : decode cX3_signatureWithout 111 = .ok (.ior, 1) := by decide +kernel
theorem dX3_signatureWithout_112 : decode cX3_signatureWithout 112 = .ok (.ireturn, 1) := by decide +kernel
theorem dX3_canGo_0 : decode cX3_canGo 0 = .ok (.iload_n 2, 1) := by decide +kernel
theorem dX3_canGo_1 : decode cX3_canGo 1 = .ok (.iload_n 1, 1) := by decide +kernel
theorem dX3_canGo_2 : decode cX3_canGo 2 = .ok (.isub, 1) := by decide +kernel
theorem dX3_canGo_3 : decode cX3_canGo 3 = .ok (.aload_n 0, 1) := by decide +kernel
theorem dX3_canGo_4 : decode cX3_canGo 4 = .ok (.getfield 29, 3) := by decide +kernel
theorem dX3_canGo_7 : decode cX3_canGo 7 = .ok (.if_icmp .ge 23, 3) := by decide +kernel
theorem dX3_canGo_10 : decode cX3_canGo 10 = .ok (.aload_n 0, 1) := by decide +kernel
theorem dX3_canGo_11 : decode cX3_canGo 11 = .ok (.getfield 21, 3) := by decide +kernel
theorem dX3_canGo_14 : decode cX3_canGo 14 = .ok (.aload_n 0, 1) := by decide +kernel
theorem dX3_canGo_15 : decode cX3_canGo 15 = .ok (.iload_n 1, 1) := by decide +kernel
theorem dX3_canGo_16 : decode cX3_canGo 16 = .ok (.iload_n 2, 1) := by decide +kernel
theorem dX3_canGo_17 : decode cX3_canGo 17 = .ok (.invokevirtual 34, 3) := by decide +kernel
theorem dX3_canGo_20 : decode cX3_canGo 20 = .ok (.invokevirtual 47, 3) := by decide +kernel
theorem dX3_canGo_23 : decode cX3_canGo 23 = .ok (.ifCond .eq 7, 3) := by decide +kernel
theorem dX3_canGo_26 : decode cX3_canGo 26 = .ok (.iconst 1, 1) := by decide +kernel
theorem dX3_canGo_27 : decode cX3_canGo 27 = .ok (.goto 4, 3) := by decide +kernel
theorem dX3_canGo_30 : decode cX3_canGo 30 = .ok (.iconst 0, 1) := by decide +kernel
theorem dX3_canGo_31 : decode cX3_canGo 31 = .ok (.ireturn, 1) := by decide +kernel
theorem dX3_isMinimal_0 : decode cX3_isMinimal 0 = .ok (.aload_n 0, 1) := by decide +kernel
theorem dX3_isMinimal_1 : decode cX3_isMinimal 1 = .ok (.getfield 21, 3) := by decide +kernel
theorem dX3_isMinimal_4 : decode cX3_isMinimal 4 = .ok (.aload_n 0, 1) := by decide +kernel
theorem dX3_isMinimal_5 : decode cX3_isMinimal 5 = .ok (.invokevirtual 51, 3) := by decide +kernel
theorem dX3_isMinimal_8 : decode cX3_isMinimal 8 = .ok (.invokevirtual 47, 3) := by decide +kernel
theorem dX3_isMinimal_11 : decode cX3_isMinimal 11 = .ok (.ifCond .ne 5, 3) := by decide +kernel
theorem dX3_isMinimal_14 : decode cX3_isMinimal 14 = .ok (.iconst 0, 1) := by decide +kernel
theorem dX3_isMinimal_15 : decode cX3_isMinimal 15 = .ok (.ireturn, 1) := by decide +kernel
theorem dX3_isMinimal_16 : decode cX3_isMinimal 16 = .ok (.iconst 0, 1) := by decide +kernel
theorem dX3_isMinimal_17 : decode cX3_isMinimal 17 = .ok (.istore_n 1, 1) := by decide +kernel
theorem dX3_isMinimal_18 : decode cX3_isMinimal 18 = .ok (.iload_n 1, 1) := by decide +kernel
theorem dX3_isMinimal_19 : decode cX3_isMinimal 19 = .ok (.aload_n 0, 1) := by decide +kernel
theorem dX3_isMinimal_20 : decode cX3_isMinimal 20 = .ok (.getfield 29, 3) := by decide +kernel
theorem dX3_isMinimal_23 : decode cX3_isMinimal 23 = .ok (.if_icmp .ge 22, 3) := by decide +kernel
theorem dX3_isMinimal_26 : decode cX3_isMinimal 26 = .ok (.aload_n 0, 1) := by decide +kernel
theorem dX3_isMinimal_27 : decode cX3_isMinimal 27 = .ok (.iload_n 1, 1) := by decide +kernel
theorem dX3_isMinimal_28 : decode cX3_isMinimal 28 = .ok (.iload_n 1, 1) := by decide +kernel
theorem dX3_isMinimal_29 : decode cX3_isMinimal 29 = .ok (.iconst 1, 1) := by decide +kernel
theorem dX3_isMinimal_30 : decode cX3_isMinimal 30 = .ok (.iadd, 1) := by decide +kernel
theorem dX3_isMinimal_31 : decode cX3_isMinimal 31 = .ok (.invokevirtual 55, 3) := by decide +kernel
theorem dX3_isMinimal_34 : decode cX3_isMinimal 34 = .ok (.ifCond .eq 5, 3) := by decide +kernel
theorem dX3_isMinimal_37 : decode cX3_isMinimal 37 = .ok (.iconst 0, 1) := by decide +kernel
theorem dX3_isMinimal_38 : decode cX3_isMinimal 38 = .ok (.ireturn, 1) := by decide +kernel
theorem dX3_isMinimal_39 : decode cX3_isMinimal 39 = .ok (.iinc 1 1, 3) := by decide +kernel
theorem dX3_isMinimal_42 : decode cX3_isMinimal 42 = .ok (.goto (-24), 3) := by decide +kernel
theorem dX3_isMinimal_45 : decode cX3_isMinimal 45 = .ok (.iconst 1, 1) := by decide +kernel
theorem dX3_isMinimal_46 : decode cX3_isMinimal 46 = .ok (.ireturn, 1) := by decide +kernel
theorem dX3_shorten_0 : decode cX3_shorten 0 = .ok (.aload_n 0, 1) := by decide +kernel
theorem dX3_shorten_1 : decode cX3_shorten 1 = .ok (.getfield 21, 3) := by decide +kernel
theorem dX3_shorten_4 : decode cX3_shorten 4 = .ok (.aload_n 0, 1) := by decide +kernel
theorem dX3_shorten_5 : decode cX3_shorten 5 = .ok (.invokevirtual 51, 3) := by decide +kernel
theorem dX3_shorten_8 : decode cX3_shorten 8 = .ok (.invokevirtual 47, 3) := by decide +kernel
theorem dX3_shorten_11 : decode cX3_shorten 11 = .ok (.ifCond .ne 4, 3) := by decide +kernel
theorem dX3_shorten_14 : decode cX3_shorten 14 = .ok (.return_, 1) := by decide +kernel
theorem dX3_shorten_15 : decode cX3_shorten 15 = .ok (.aload_n 0, 1) := by decide +kernel
theorem dX3_shorten_16 : decode cX3_shorten 16 = .ok (.getfield 29, 3) := by decide +kernel
theorem dX3_shorten_19 : decode cX3_shorten 19 = .ok (.iconst 2, 1) := by decide +kernel
theorem dX3_shorten_20 : decode cX3_shorten 20 = .ok (.idiv, 1) := by decide +kernel
theorem dX3_shorten_21 : decode cX3_shorten 21 = .ok (.istore_n 1, 1) := by decide +kernel
theorem dX3_shorten_22 : decode cX3_shorten 22 = .ok (.iload_n 1, 1) := by decide +kernel
theorem dX3_shorten_23 : decode cX3_shorten 23 = .ok (.iconst 1, 1) := by decide +kernel
theorem dX3_shorten_24 : decode cX3_shorten 24 = .ok (.if_icmp .lt 45, 3) := by decide +kernel
theorem dX3_shorten_27 : decode cX3_shorten 27 = .ok (.aload_n 0, 1) := by decide +kernel
theorem dX3_shorten_28 : decode cX3_shorten 28 = .ok (.iload_n 1, 1) := by decide +kernel
theorem dX3_shorten_29 : decode cX3_shorten 29 = .ok (.invokevirtual 59, 3) := by decide +kernel
theorem dX3_shorten_32 : decode cX3_shorten 32 = .ok (.istore_n 2, 1) := by decide +kernel
theorem dX3_shorten_33 : decode cX3_shorten 33 = .ok (.iconst 0, 1) := by decide +kernel
theorem dX3_shorten_34 : decode cX3_shorten 34 = .ok (.istore_n 3, 1) := by decide +kernel
theorem dX3_shorten_35 : decode cX3_shorten 35 = .ok (.iload_n 3, 1) := by decide +kernel
theorem dX3_shorten_36 : decode cX3_shorten 36 = .ok (.bipush 40, 2) := by decide +kernel
theorem dX3_shorten_38 : decode cX3_shorten 38 = .ok (.if_icmp .ge 24, 3) := by decide +kernel
theorem dX3_shorten_41 : decode cX3_shorten 41 = .ok (.iload_n 1, 1) := by decide +kernel
theorem dX3_shorten_42 : decode cX3_shorten 42 = .ok (.iconst 1, 1) := by decide +kernel
theorem dX3_shorten_43 : decode cX3_shorten 43 = .ok (.if_icmp .ne 19, 3) := by decide +kernel
theorem dX3_shorten_46 : decode cX3_shorten 46 = .ok (.iload_n 2, 1) := by decide +kernel
theorem dX3_shorten_47 : decode cX3_shorten 47 = .ok (.ifCond .eq 15, 3) := by decide +kernel
theorem dX3_shorten_50 : decode cX3_shorten 50 = .ok (.aload_n 0, 1) := by decide +kernel
theorem dX3_shorten_51 : decode cX3_shorten 51 = .ok (.iconst 1, 1) := by decide +kernel
theorem dX3_shorten_52 : decode cX3_shorten 52 = .ok (.invokevirtual 59, 3) := by decide +kernel
theorem dX3_shorten_55 : decode cX3_shorten 55 = .ok (.istore_n 2, 1) := by decide +kernel
theorem dX3_shorten_56 : decode cX3_shorten 56 = .ok (.iinc 3 1, 3) := by decide +kernel
theorem dX3_shorten_59 : decode cX3_shorten 59 = .ok (.goto (-24), 3) := by decide +kernel
theorem dX3_shorten_62 : decode cX3_shorten 62 = .ok (.iload_n 1, 1) := by decide +kernel
theorem dX3_shorten_63 : decode cX3_shorten 63 = .ok (.iconst 2, 1) := by decide +kernel
theorem dX3_shorten_64 : decode cX3_shorten 64 = .ok (.idiv, 1) := by decide +kernel
theorem dX3_shorten_65 : decode cX3_shorten 65 = .ok (.istore_n 1, 1) := by decide +kernel
theorem dX3_shorten_66 : decode cX3_shorten 66 = .ok (.goto (-44), 3) := by decide +kernel
theorem dX3_shorten_69 : decode cX3_shorten 69 = .ok (.return_, 1) := by decide +kernel
theorem dX3_leaveOutRows_0 : decode cX3_leaveOutRows 0 = .ok (.iconst 0, 1) := by decide +kernel
theorem dX3_leaveOutRows_1 : decode cX3_leaveOutRows 1 = .ok (.istore_n 2, 1) := by decide +kernel
theorem dX3_leaveOutRows_2 : decode cX3_leaveOutRows 2 = .ok (.iconst 0, 1) := by decide +kernel
theorem dX3_leaveOutRows_3 : decode cX3_leaveOutRows 3 = .ok (.istore_n 3, 1) := by decide +kernel
theorem dX3_leaveOutRows_4 : decode cX3_leaveOutRows 4 = .ok (.iconst 0, 1) := by decide +kernel
theorem dX3_leaveOutRows_5 : decode cX3_leaveOutRows 5 = .ok (.istore 4, 2) := by decide +kernel
theorem dX3_leaveOutRows_7 : decode cX3_leaveOutRows 7 = .ok (.iload 4, 2) := by decide +kernel
theorem dX3_leaveOutRows_9 : decode cX3_leaveOutRows 9 = .ok (.bipush 40, 2) := by decide +kernel
theorem dX3_leaveOutRows_11 : decode cX3_leaveOutRows 11 = .ok (.if_icmp .ge 54, 3) := by decide +kernel
theorem dX3_leaveOutRows_14 : decode cX3_leaveOutRows 14 = .ok (.iload_n 3, 1) := by decide +kernel
theorem dX3_leaveOutRows_15 : decode cX3_leaveOutRows 15 = .ok (.aload_n 0, 1) := by decide +kernel
theorem dX3_leaveOutRows_16 : decode cX3_leaveOutRows 16 = .ok (.getfield 29, 3) := by decide +kernel
theorem dX3_leaveOutRows_19 : decode cX3_leaveOutRows 19 = .ok (.if_icmp .ge 46, 3) := by decide +kernel
theorem dX3_leaveOutRows_22 : decode cX3_leaveOutRows 22 = .ok (.iload_n 3, 1) := by decide +kernel
theorem dX3_leaveOutRows_23 : decode cX3_leaveOutRows 23 = .ok (.iload_n 1, 1) := by decide +kernel
theorem dX3_leaveOutRows_24 : decode cX3_leaveOutRows 24 = .ok (.iadd, 1) := by decide +kernel
theorem dX3_leaveOutRows_25 : decode cX3_leaveOutRows 25 = .ok (.aload_n 0, 1) := by decide +kernel
theorem dX3_leaveOutRows_26 : decode cX3_leaveOutRows 26 = .ok (.getfield 29, 3) := by decide +kernel
theorem dX3_leaveOutRows_29 : decode cX3_leaveOutRows 29 = .ok (.invokestatic 62, 3) := by decide +kernel
theorem dX3_leaveOutRows_32 : decode cX3_leaveOutRows 32 = .ok (.istore 5, 2) := by decide +kernel
theorem dX3_leaveOutRows_34 : decode cX3_leaveOutRows 34 = .ok (.aload_n 0, 1) := by decide +kernel
theorem dX3_leaveOutRows_35 : decode cX3_leaveOutRows 35 = .ok (.iload_n 3, 1) := by decide +kernel
theorem dX3_leaveOutRows_36 : decode cX3_leaveOutRows 36 = .ok (.iload 5, 2) := by decide +kernel
theorem dX3_leaveOutRows_38 : decode cX3_leaveOutRows 38 = .ok (.invokevirtual 55, 3) := by decide +kernel
theorem dX3_leaveOutRows_41 : decode cX3_leaveOutRows 41 = .ok (.ifCond .eq 15, 3) := by decide +kernel
theorem dX3_leaveOutRows_44 : decode cX3_leaveOutRows 44 = .ok (.aload_n 0, 1) := by decide +kernel
theorem dX3_leaveOutRows_45 : decode cX3_leaveOutRows 45 = .ok (.iload_n 3, 1) := by decide +kernel
theorem dX3_leaveOutRows_46 : decode cX3_leaveOutRows 46 = .ok (.iload 5, 2) := by decide +kernel
theorem dX3_leaveOutRows_48 : decode cX3_leaveOutRows 48 = .ok (.invokevirtual 67, 3) := by decide +kernel
theorem dX3_leaveOutRows_51 : decode cX3_leaveOutRows 51 = .ok (.iconst 1, 1) := by decide +kernel
theorem dX3_leaveOutRows_52 : decode cX3_leaveOutRows 52 = .ok (.istore_n 2, 1) := by decide +kernel
theorem dX3_leaveOutRows_53 : decode cX3_leaveOutRows 53 = .ok (.goto 6, 3) := by decide +kernel
theorem dX3_leaveOutRows_56 : decode cX3_leaveOutRows 56 = .ok (.iload 5, 2) := by decide +kernel
theorem dX3_leaveOutRows_58 : decode cX3_leaveOutRows 58 = .ok (.istore_n 3, 1) := by decide +kernel
theorem dX3_leaveOutRows_59 : decode cX3_leaveOutRows 59 = .ok (.iinc 4 1, 3) := by decide +kernel
theorem dX3_leaveOutRows_62 : decode cX3_leaveOutRows 62 = .ok (.goto (-55), 3) := by decide +kernel
theorem dX3_leaveOutRows_65 : decode cX3_leaveOutRows 65 = .ok (.iload_n 2, 1) := by decide +kernel
theorem dX3_leaveOutRows_66 : decode cX3_leaveOutRows 66 = .ok (.ireturn, 1) := by decide +kernel
theorem dX3_takeOut_0 : decode cX3_takeOut 0 = .ok (.iload_n 2, 1) := by decide +kernel
theorem dX3_takeOut_1 : decode cX3_takeOut 1 = .ok (.iload_n 1, 1) := by decide +kernel
theorem dX3_takeOut_2 : decode cX3_takeOut 2 = .ok (.isub, 1) := by decide +kernel
theorem dX3_takeOut_3 : decode cX3_takeOut 3 = .ok (.istore_n 3, 1) := by decide +kernel
theorem dX3_takeOut_4 : decode cX3_takeOut 4 = .ok (.iload_n 2, 1) := by decide +kernel
theorem dX3_takeOut_5 : decode cX3_takeOut 5 = .ok (.istore 4, 2) := by decide +kernel
theorem dX3_takeOut_7 : decode cX3_takeOut 7 = .ok (.iload 4, 2) := by decide +kernel
theorem dX3_takeOut_9 : decode cX3_takeOut 9 = .ok (.aload_n 0, 1) := by decide +kernel
theorem dX3_takeOut_10 : decode cX3_takeOut 10 = .ok (.getfield 29, 3) := by decide +kernel
theorem dX3_takeOut_13 : decode cX3_takeOut 13 = .ok (.if_icmp .ge 25, 3) := by decide +kernel
theorem dX3_takeOut_16 : decode cX3_takeOut 16 = .ok (.aload_n 0, 1) := by decide +kernel
theorem dX3_takeOut_17 : decode cX3_takeOut 17 = .ok (.getfield 25, 3) := by decide +kernel
theorem dX3_takeOut_20 : decode cX3_takeOut 20 = .ok (.iload 4, 2) := by decide +kernel
theorem dX3_takeOut_22 : decode cX3_takeOut 22 = .ok (.iload_n 3, 1) := by decide +kernel
theorem dX3_takeOut_23 : decode cX3_takeOut 23 = .ok (.isub, 1) := by decide +kernel
theorem dX3_takeOut_24 : decode cX3_takeOut 24 = .ok (.aload_n 0, 1) := by decide +kernel
theorem dX3_takeOut_25 : decode cX3_takeOut 25 = .ok (.getfield 25, 3) := by decide +kernel
theorem dX3_takeOut_28 : decode cX3_takeOut 28 = .ok (.iload 4, 2) := by decide +kernel
theorem dX3_takeOut_30 : decode cX3_takeOut 30 = .ok (.iaload, 1) := by decide +kernel
theorem dX3_takeOut_31 : decode cX3_takeOut 31 = .ok (.iastore, 1) := by decide +kernel
theorem dX3_takeOut_32 : decode cX3_takeOut 32 = .ok (.iinc 4 1, 3) := by decide +kernel
theorem dX3_takeOut_35 : decode cX3_takeOut 35 = .ok (.goto (-28), 3) := by decide +kernel
theorem dX3_takeOut_38 : decode cX3_takeOut 38 = .ok (.aload_n 0, 1) := by decide +kernel
theorem dX3_takeOut_39 : decode cX3_takeOut 39 = .ok (.dup, 1) := by decide +kernel
theorem dX3_takeOut_40 : decode cX3_takeOut 40 = .ok (.getfield 29, 3) := by decide +kernel
theorem dX3_takeOut_43 : decode cX3_takeOut 43 = .ok (.iload_n 3, 1) := by decide +kernel
theorem dX3_takeOut_44 : decode cX3_takeOut 44 = .ok (.isub, 1) := by decide +kernel
theorem dX3_takeOut_45 : decode cX3_takeOut 45 = .ok (.putfield 29, 3) := by decide +kernel
theorem dX3_takeOut_48 : decode cX3_takeOut 48 = .ok (.return_, 1) := by decide +kernel
theorem dX3_letterAt_0 : decode cX3_letterAt 0 = .ok (.iload_n 1, 1) := by decide +kernel
theorem dX3_letterAt_1 : decode cX3_letterAt 1 = .ok (.istore_n 2, 1) := by decide +kernel
theorem dX3_letterAt_2 : decode cX3_letterAt 2 = .ok (.iconst 0, 1) := by decide +kernel
theorem dX3_letterAt_3 : decode cX3_letterAt 3 = .ok (.istore_n 3, 1) := by decide +kernel
theorem dX3_letterAt_4 : decode cX3_letterAt 4 = .ok (.iload_n 3, 1) := by decide +kernel
theorem dX3_letterAt_5 : decode cX3_letterAt 5 = .ok (.aload_n 0, 1) := by decide +kernel
theorem dX3_letterAt_6 : decode cX3_letterAt 6 = .ok (.getfield 29, 3) := by decide +kernel
theorem dX3_letterAt_9 : decode cX3_letterAt 9 = .ok (.if_icmp .ge 48, 3) := by decide +kernel
theorem dX3_letterAt_12 : decode cX3_letterAt 12 = .ok (.iload_n 2, 1) := by decide +kernel
theorem dX3_letterAt_13 : decode cX3_letterAt 13 = .ok (.ifCond .lt 44, 3) := by decide +kernel
theorem dX3_letterAt_16 : decode cX3_letterAt 16 = .ok (.aload_n 0, 1) := by decide +kernel
theorem dX3_letterAt_17 : decode cX3_letterAt 17 = .ok (.aload_n 0, 1) := by decide +kernel
theorem dX3_letterAt_18 : decode cX3_letterAt 18 = .ok (.getfield 25, 3) := by decide +kernel
theorem dX3_letterAt_21 : decode cX3_letterAt 21 = .ok (.iload_n 3, 1) := by decide +kernel
theorem dX3_letterAt_22 : decode cX3_letterAt 22 = .ok (.iaload, 1) := by decide +kernel
theorem dX3_letterAt_23 : decode cX3_letterAt 23 = .ok (.invokevirtual 71, 3) := by decide +kernel
theorem dX3_letterAt_26 : decode cX3_letterAt 26 = .ok (.istore 4, 2) := by decide +kernel
theorem dX3_letterAt_28 : decode cX3_letterAt 28 = .ok (.iload_n 2, 1) := by decide +kernel
theorem dX3_letterAt_29 : decode cX3_letterAt 29 = .ok (.iload 4, 2) := by decide +kernel
theorem dX3_letterAt_31 : decode cX3_letterAt 31 = .ok (.if_icmp .ge 15, 3) := by decide +kernel
theorem dX3_letterAt_34 : decode cX3_letterAt 34 = .ok (.aload_n 0, 1) := by decide +kernel
theorem dX3_letterAt_35 : decode cX3_letterAt 35 = .ok (.aload_n 0, 1) := by decide +kernel
theorem dX3_letterAt_36 : decode cX3_letterAt 36 = .ok (.getfield 25, 3) := by decide +kernel
theorem dX3_letterAt_39 : decode cX3_letterAt 39 = .ok (.iload_n 3, 1) := by decide +kernel
theorem dX3_letterAt_40 : decode cX3_letterAt 40 = .ok (.iaload, 1) := by decide +kernel
theorem dX3_letterAt_41 : decode cX3_letterAt 41 = .ok (.iload_n 2, 1) := by decide +kernel
theorem dX3_letterAt_42 : decode cX3_letterAt 42 = .ok (.invokevirtual 75, 3) := by decide +kernel
theorem dX3_letterAt_45 : decode cX3_letterAt 45 = .ok (.ireturn, 1) := by decide +kernel
theorem dX3_letterAt_46 : decode cX3_letterAt 46 = .ok (.iload_n 2, 1) := by decide +kernel
theorem dX3_letterAt_47 : decode cX3_letterAt 47 = .ok (.iload 4, 2) := by decide +kernel
theorem dX3_letterAt_49 : decode cX3_letterAt 49 = .ok (.isub, 1) := by decide +kernel
theorem dX3_letterAt_50 : decode cX3_letterAt 50 = .ok (.istore_n 2, 1) := by decide +kernel
theorem dX3_letterAt_51 : decode cX3_letterAt 51 = .ok (.iinc 3 1, 3) := by decide +kernel
theorem dX3_letterAt_54 : decode cX3_letterAt 54 = .ok (.goto (-50), 3) := by decide +kernel
theorem dX3_letterAt_57 : decode cX3_letterAt 57 = .ok (.iconst (-1), 1) := by decide +kernel
theorem dX3_letterAt_58 : decode cX3_letterAt 58 = .ok (.ireturn, 1) := by decide +kernel
theorem dX3_lineLength_0 : decode cX3_lineLength 0 = .ok (.iconst 2, 1) := by decide +kernel
theorem dX3_lineLength_1 : decode cX3_lineLength 1 = .ok (.istore_n 2, 1) := by decide +kernel
theorem dX3_lineLength_2 : decode cX3_lineLength 2 = .ok (.iconst 1, 1) := by decide +kernel
theorem dX3_lineLength_3 : decode cX3_lineLength 3 = .ok (.istore_n 3, 1) := by decide +kernel
theorem dX3_lineLength_4 : decode cX3_lineLength 4 = .ok (.iload_n 3, 1) := by decide +kernel
theorem dX3_lineLength_5 : decode cX3_lineLength 5 = .ok (.iconst 3, 1) := by decide +kernel
theorem dX3_lineLength_6 : decode cX3_lineLength 6 = .ok (.if_icmp .gt 26, 3) := by decide +kernel
theorem dX3_lineLength_9 : decode cX3_lineLength 9 = .ok (.iload_n 2, 1) := by decide +kernel
theorem dX3_lineLength_10 : decode cX3_lineLength 10 = .ok (.iconst 1, 1) := by decide +kernel
theorem dX3_lineLength_11 : decode cX3_lineLength 11 = .ok (.aload_n 0, 1) := by decide +kernel
theorem dX3_lineLength_12 : decode cX3_lineLength 12 = .ok (.getfield 12, 3) := by decide +kernel
theorem dX3_lineLength_15 : decode cX3_lineLength 15 = .ok (.iload_n 1, 1) := by decide +kernel
theorem dX3_lineLength_16 : decode cX3_lineLength 16 = .ok (.iload_n 3, 1) := by decide +kernel
theorem dX3_lineLength_17 : decode cX3_lineLength 17 = .ok (.invokevirtual 78, 3) := by decide +kernel
theorem dX3_lineLength_20 : decode cX3_lineLength 20 = .ok (.invokestatic 81, 3) := by decide +kernel
theorem dX3_lineLength_23 : decode cX3_lineLength 23 = .ok (.iadd, 1) := by decide +kernel
theorem dX3_lineLength_24 : decode cX3_lineLength 24 = .ok (.iadd, 1) := by decide +kernel
theorem dX3_lineLength_25 : decode cX3_lineLength 25 = .ok (.istore_n 2, 1) := by decide +kernel
theorem dX3_lineLength_26 : decode cX3_lineLength 26 = .ok (.iinc 3 1, 3) := by decide +kernel
theorem dX3_lineLength_29 : decode cX3_lineLength 29 = .ok (.goto (-25), 3) := by decide +kernel
theorem dX3_lineLength_32 : decode cX3_lineLength 32 = .ok (.iload_n 2, 1) := by decide +kernel
theorem dX3_lineLength_33 : decode cX3_lineLength 33 = .ok (.ireturn, 1) := by decide +kernel
theorem dX3_letterOfLine_0 : decode cX3_letterOfLine 0 = .ok (.iload_n 2, 1) := by decide +kernel
theorem dX3_letterOfLine_1 : decode cX3_letterOfLine 1 = .ok (.ifCond .ne 16, 3) := by decide +kernel
theorem dX3_letterOfLine_4 : decode cX3_letterOfLine 4 = .ok (.bipush 97, 2) := by decide +kernel
theorem dX3_letterOfLine_6 : decode cX3_letterOfLine 6 = .ok (.aload_n 0, 1) := by decide +kernel
theorem dX3_letterOfLine_7 : decode cX3_letterOfLine 7 = .ok (.getfield 12, 3) := by decide +kernel
theorem dX3_letterOfLine_10 : decode cX3_letterOfLine 10 = .ok (.getfield 38, 3) := by decide +kernel
theorem dX3_letterOfLine_13 : decode cX3_letterOfLine 13 = .ok (.iload_n 1, 1) := by decide +kernel
theorem dX3_letterOfLine_14 : decode cX3_letterOfLine 14 = .ok (.iaload, 1) := by decide +kernel
theorem dX3_letterOfLine_15 : decode cX3_letterOfLine 15 = .ok (.iadd, 1) := by decide +kernel
theorem dX3_letterOfLine_16 : decode cX3_letterOfLine 16 = .ok (.ireturn, 1) := by decide +kernel
theorem dX3_letterOfLine_17 : decode cX3_letterOfLine 17 = .ok (.iload_n 2, 1) := by decide +kernel
theorem dX3_letterOfLine_18 : decode cX3_letterOfLine 18 = .ok (.iconst 1, 1) := by decide +kernel
theorem dX3_letterOfLine_19 : decode cX3_letterOfLine 19 = .ok (.isub, 1) := by decide +kernel
theorem dX3_letterOfLine_20 : decode cX3_letterOfLine 20 = .ok (.istore_n 3, 1) := by decide +kernel
theorem dX3_letterOfLine_21 : decode cX3_letterOfLine 21 = .ok (.iconst 1, 1) := by decide +kernel
theorem dX3_letterOfLine_22 : decode cX3_letterOfLine 22 = .ok (.istore 4, 2) := by decide +kernel
theorem dX3_letterOfLine_24 : decode cX3_letterOfLine 24 = .ok (.iload 4, 2) := by decide +kernel
theorem dX3_letterOfLine_26 : decode cX3_letterOfLine 26 = .ok (.iconst 3, 1) := by decide +kernel
theorem dX3_letterOfLine_27 : decode cX3_letterOfLine 27 = .ok (.if_icmp .gt 59, 3) := by decide +kernel
theorem dX3_letterOfLine_30 : decode cX3_letterOfLine 30 = .ok (.aload_n 0, 1) := by decide +kernel
theorem dX3_letterOfLine_31 : decode cX3_letterOfLine 31 = .ok (.getfield 12, 3) := by decide +kernel
theorem dX3_letterOfLine_34 : decode cX3_letterOfLine 34 = .ok (.iload_n 1, 1) := by decide +kernel
theorem dX3_letterOfLine_35 : decode cX3_letterOfLine 35 = .ok (.iload 4, 2) := by decide +kernel
theorem dX3_letterOfLine_37 : decode cX3_letterOfLine 37 = .ok (.invokevirtual 78, 3) := by decide +kernel
theorem dX3_letterOfLine_40 : decode cX3_letterOfLine 40 = .ok (.istore 5, 2) := by decide +kernel
theorem dX3_letterOfLine_42 : decode cX3_letterOfLine 42 = .ok (.iconst 1, 1) := by decide +kernel
theorem dX3_letterOfLine_43 : decode cX3_letterOfLine 43 = .ok (.iload 5, 2) := by decide +kernel
theorem dX3_letterOfLine_45 : decode cX3_letterOfLine 45 = .ok (.invokestatic 81, 3) := by decide +kernel
theorem dX3_letterOfLine_48 : decode cX3_letterOfLine 48 = .ok (.iadd, 1) := by decide +kernel
theorem dX3_letterOfLine_49 : decode cX3_letterOfLine 49 = .ok (.istore 6, 2) := by decide +kernel
theorem dX3_letterOfLine_51 : decode cX3_letterOfLine 51 = .ok (.iload_n 3, 1) := by decide +kernel
theorem dX3_letterOfLine_52 : decode cX3_letterOfLine 52 = .ok (.iload 6, 2) := by decide +kernel
theorem dX3_letterOfLine_54 : decode cX3_letterOfLine 54 = .ok (.if_icmp .ge 21, 3) := by decide +kernel
theorem dX3_letterOfLine_57 : decode cX3_letterOfLine 57 = .ok (.iload_n 3, 1) := by decide +kernel
theorem dX3_letterOfLine_58 : decode cX3_letterOfLine 58 = .ok (.ifCond .ne 8, 3) := by decide +kernel
theorem dX3_letterOfLine_61 : decode cX3_letterOfLine 61 = .ok (.bipush 32, 2) := by decide +kernel
theorem dX3_letterOfLine_63 : decode cX3_letterOfLine 63 = .ok (.goto 11, 3) := by decide +kernel
theorem dX3_letterOfLine_66 : decode cX3_letterOfLine 66 = .ok (.iload 5, 2) := by decide +kernel
theorem dX3_letterOfLine_68 : decode cX3_letterOfLine 68 = .ok (.iload_n 3, 1) := by decide +kernel
theorem dX3_letterOfLine_69 : decode cX3_letterOfLine 69 = .ok (.iconst 1, 1) := by decide +kernel
theorem dX3_letterOfLine_70 : decode cX3_letterOfLine 70 = .ok (.isub, 1) := by decide +kernel
theorem dX3_letterOfLine_71 : decode cX3_letterOfLine 71 = .ok (.invokestatic 86, 3) := by decide +kernel
theorem dX3_letterOfLine_74 : decode cX3_letterOfLine 74 = .ok (.ireturn, 1) := by decide +kernel
theorem dX3_letterOfLine_75 : decode cX3_letterOfLine 75 = .ok (.iload_n 3, 1) := by decide +kernel
theorem dX3_letterOfLine_76 : decode cX3_letterOfLine 76 = .ok (.iload 6, 2) := by decide +kernel
theorem dX3_letterOfLine_78 : decode cX3_letterOfLine 78 = .ok (.isub, 1) := by decide +kernel
theorem dX3_letterOfLine_79 : decode cX3_letterOfLine 79 = .ok (.istore_n 3, 1) := by decide +kernel
theorem dX3_letterOfLine_80 : decode cX3_letterOfLine 80 = .ok (.iinc 4 1, 3) := by decide +kernel
theorem dX3_letterOfLine_83 : decode cX3_letterOfLine 83 = .ok (.goto (-59), 3) := by decide +kernel
theorem dX3_letterOfLine_86 : decode cX3_letterOfLine 86 = .ok (.bipush 10, 2) := by decide +kernel
theorem dX3_letterOfLine_88 : decode cX3_letterOfLine 88 = .ok (.ireturn, 1) := by decide +kernel
theorem dX6_length_0 : decode cX6_length 0 = .ok (.iload_n 0, 1) := by decide +kernel
theorem dX6_length_1 : decode cX6_length 1 = .ok (.invokestatic 9, 3) := by decide +kernel
theorem dX6_length_4 : decode cX6_length 4 = .ok (.iload_n 0, 1) := by decide +kernel
theorem dX6_length_5 : decode cX6_length 5 = .ok (.ifCond .ge 7, 3) := by decide +kernel
theorem dX6_length_8 : decode cX6_length 8 = .ok (.iconst 1, 1) := by decide +kernel
theorem dX6_length_9 : decode cX6_length 9 = .ok (.goto 4, 3) := by decide +kernel
theorem dX6_length_12 : decode cX6_length 12 = .ok (.iconst 0, 1) := by decide +kernel
theorem dX6_length_13 : decode cX6_length 13 = .ok (.iadd, 1) := by decide +kernel
theorem dX6_length_14 : decode cX6_length 14 = .ok (.ireturn, 1) := by decide +kernel
theorem dX6_letterAt_0 : decode cX6_letterAt 0 = .ok (.iload_n 0, 1) := by decide +kernel
theorem dX6_letterAt_1 : decode cX6_letterAt 1 = .ok (.ifCond .ge 10, 3) := by decide +kernel
theorem dX6_letterAt_4 : decode cX6_letterAt 4 = .ok (.iload_n 1, 1) := by decide +kernel
theorem dX6_letterAt_5 : decode cX6_letterAt 5 = .ok (.ifCond .ne 6, 3) := by decide +kernel
theorem dX6_letterAt_8 : decode cX6_letterAt 8 = .ok (.bipush 45, 2) := by decide +kernel
theorem dX6_letterAt_10 : decode cX6_letterAt 10 = .ok (.ireturn, 1) := by decide +kernel
theorem dX6_letterAt_11 : decode cX6_letterAt 11 = .ok (.iload_n 0, 1) := by decide +kernel
theorem dX6_letterAt_12 : decode cX6_letterAt 12 = .ok (.istore_n 2, 1) := by decide +kernel
theorem dX6_letterAt_13 : decode cX6_letterAt 13 = .ok (.iload_n 0, 1) := by decide +kernel
theorem dX6_letterAt_14 : decode cX6_letterAt 14 = .ok (.invokestatic 15, 3) := by decide +kernel
theorem dX6_letterAt_17 : decode cX6_letterAt 17 = .ok (.iconst 1, 1) := by decide +kernel
theorem dX6_letterAt_18 : decode cX6_letterAt 18 = .ok (.isub, 1) := by decide +kernel
theorem dX6_letterAt_19 : decode cX6_letterAt 19 = .ok (.iload_n 1, 1) := by decide +kernel
theorem dX6_letterAt_20 : decode cX6_letterAt 20 = .ok (.isub, 1) := by decide +kernel
theorem dX6_letterAt_21 : decode cX6_letterAt 21 = .ok (.istore_n 3, 1) := by decide +kernel
theorem dX6_letterAt_22 : decode cX6_letterAt 22 = .ok (.iconst 0, 1) := by decide +kernel
theorem dX6_letterAt_23 : decode cX6_letterAt 23 = .ok (.istore 4, 2) := by decide +kernel
theorem dX6_letterAt_25 : decode cX6_letterAt 25 = .ok (.iload 4, 2) := by decide +kernel
theorem dX6_letterAt_27 : decode cX6_letterAt 27 = .ok (.iload_n 3, 1) := by decide +kernel
theorem dX6_letterAt_28 : decode cX6_letterAt 28 = .ok (.if_icmp .ge 21, 3) := by decide +kernel
theorem dX6_letterAt_31 : decode cX6_letterAt 31 = .ok (.iload 4, 2) := by decide +kernel
theorem dX6_letterAt_33 : decode cX6_letterAt 33 = .ok (.bipush 10, 2) := by decide +kernel
theorem dX6_letterAt_35 : decode cX6_letterAt 35 = .ok (.if_icmp .ge 14, 3) := by decide +kernel
theorem dX6_letterAt_38 : decode cX6_letterAt 38 = .ok (.iload_n 2, 1) := by decide +kernel
theorem dX6_letterAt_39 : decode cX6_letterAt 39 = .ok (.bipush 10, 2) := by decide +kernel
theorem dX6_letterAt_41 : decode cX6_letterAt 41 = .ok (.idiv, 1) := by decide +kernel
theorem dX6_letterAt_42 : decode cX6_letterAt 42 = .ok (.istore_n 2, 1) := by decide +kernel
theorem dX6_letterAt_43 : decode cX6_letterAt 43 = .ok (.iinc 4 1, 3) := by decide +kernel
theorem dX6_letterAt_46 : decode cX6_letterAt 46 = .ok (.goto (-21), 3) := by decide +kernel
theorem dX6_letterAt_49 : decode cX6_letterAt 49 = .ok (.bipush 48, 2) := by decide +kernel
theorem dX6_letterAt_51 : decode cX6_letterAt 51 = .ok (.iload_n 2, 1) := by decide +kernel
theorem dX6_letterAt_52 : decode cX6_letterAt 52 = .ok (.bipush 10, 2) := by decide +kernel
theorem dX6_letterAt_54 : decode cX6_letterAt 54 = .ok (.irem, 1) := by decide +kernel
theorem dX6_letterAt_55 : decode cX6_letterAt 55 = .ok (.invokestatic 18, 3) := by decide +kernel
theorem dX6_letterAt_58 : decode cX6_letterAt 58 = .ok (.iadd, 1) := by decide +kernel
theorem dX6_letterAt_59 : decode cX6_letterAt 59 = .ok (.ireturn, 1) := by decide +kernel
theorem dX6_digits_0 : decode cX6_digits 0 = .ok (.iconst 1, 1) := by decide +kernel
theorem dX6_digits_1 : decode cX6_digits 1 = .ok (.istore_n 1, 1) := by decide +kernel
theorem dX6_digits_2 : decode cX6_digits 2 = .ok (.iload_n 0, 1) := by decide +kernel
theorem dX6_digits_3 : decode cX6_digits 3 = .ok (.bipush 10, 2) := by decide +kernel
theorem dX6_digits_5 : decode cX6_digits 5 = .ok (.idiv, 1) := by decide +kernel
theorem dX6_digits_6 : decode cX6_digits 6 = .ok (.istore_n 2, 1) := by decide +kernel
theorem dX6_digits_7 : decode cX6_digits 7 = .ok (.iconst 0, 1) := by decide +kernel
theorem dX6_digits_8 : decode cX6_digits 8 = .ok (.istore_n 3, 1) := by decide +kernel
theorem dX6_digits_9 : decode cX6_digits 9 = .ok (.iload_n 3, 1) := by decide +kernel
theorem dX6_digits_10 : decode cX6_digits 10 = .ok (.bipush 10, 2) := by decide +kernel
theorem dX6_digits_12 : decode cX6_digits 12 = .ok (.if_icmp .ge 21, 3) := by decide +kernel
theorem dX6_digits_15 : decode cX6_digits 15 = .ok (.iload_n 2, 1) := by decide +kernel
theorem dX6_digits_16 : decode cX6_digits 16 = .ok (.ifCond .eq 17, 3) := by decide +kernel
theorem dX6_digits_19 : decode cX6_digits 19 = .ok (.iinc 1 1, 3) := by decide +kernel
theorem dX6_digits_22 : decode cX6_digits 22 = .ok (.iload_n 2, 1) := by decide +kernel
theorem dX6_digits_23 : decode cX6_digits 23 = .ok (.bipush 10, 2) := by decide +kernel
theorem dX6_digits_25 : decode cX6_digits 25 = .ok (.idiv, 1) := by decide +kernel
theorem dX6_digits_26 : decode cX6_digits 26 = .ok (.istore_n 2, 1) := by decide +kernel
theorem dX6_digits_27 : decode cX6_digits 27 = .ok (.iinc 3 1, 3) := by decide +kernel
theorem dX6_digits_30 : decode cX6_digits 30 = .ok (.goto (-21), 3) := by decide +kernel
theorem dX6_digits_33 : decode cX6_digits 33 = .ok (.iload_n 1, 1) := by decide +kernel
theorem dX6_digits_34 : decode cX6_digits 34 = .ok (.ireturn, 1) := by decide +kernel
theorem dX2_init_0 : decode cX2_init 0 = .ok (.aload_n 0, 1) := by decide +kernel
theorem dX2_init_1 : decode cX2_init 1 = .ok (.invokespecial 3, 3) := by decide +kernel
theorem dX2_init_4 : decode cX2_init 4 = .ok (.aload_n 0, 1) := by decide +kernel
theorem dX2_init_5 : decode cX2_init 5 = .ok (.bipush 64, 2) := by decide +kernel
theorem dX2_init_7 : decode cX2_init 7 = .ok (.newarray .boolean, 2) := by decide +kernel
theorem dX2_init_9 : decode cX2_init 9 = .ok (.putfield 9, 3) := by decide +kernel
theorem dX2_init_12 : decode cX2_init 12 = .ok (.return_, 1) := by decide +kernel
theorem dX2_say_0 : decode cX2_say 0 = .ok (.iload_n 1, 1) := by decide +kernel
theorem dX2_say_1 : decode cX2_say 1 = .ok (.invokestatic 15, 3) := by decide +kernel
theorem dX2_say_4 : decode cX2_say 4 = .ok (.ifCond .eq 10, 3) := by decide +kernel
theorem dX2_say_7 : decode cX2_say 7 = .ok (.aload_n 0, 1) := by decide +kernel
theorem dX2_say_8 : decode cX2_say 8 = .ok (.getfield 9, 3) := by decide +kernel
theorem dX2_say_11 : decode cX2_say 11 = .ok (.iload_n 1, 1) := by decide +kernel
theorem dX2_say_12 : decode cX2_say 12 = .ok (.iload_n 2, 1) := by decide +kernel
theorem dX2_say_13 : decode cX2_say 13 = .ok (.bastore, 1) := by decide +kernel
theorem dX2_say_14 : decode cX2_say 14 = .ok (.return_, 1) := by decide +kernel
theorem dX2_keeps_0 : decode cX2_keeps 0 = .ok (.iload_n 1, 1) := by decide +kernel
theorem dX2_keeps_1 : decode cX2_keeps 1 = .ok (.invokestatic 15, 3) := by decide +kernel
theorem dX2_keeps_4 : decode cX2_keeps 4 = .ok (.ifCond .eq 16, 3) := by decide +kernel
theorem dX2_keeps_7 : decode cX2_keeps 7 = .ok (.aload_n 0, 1) := by decide +kernel
theorem dX2_keeps_8 : decode cX2_keeps 8 = .ok (.getfield 9, 3) := by decide +kernel
theorem dX2_keeps_11 : decode cX2_keeps 11 = .ok (.iload_n 1, 1) := by decide +kernel
theorem dX2_keeps_12 : decode cX2_keeps 12 = .ok (.baload, 1) := by decide +kernel
theorem dX2_keeps_13 : decode cX2_keeps 13 = .ok (.ifCond .eq 7, 3) := by decide +kernel
theorem dX2_keeps_16 : decode cX2_keeps 16 = .ok (.iconst 1, 1) := by decide +kernel
theorem dX2_keeps_17 : decode cX2_keeps 17 = .ok (.goto 4, 3) := by decide +kernel
theorem dX2_keeps_20 : decode cX2_keeps 20 = .ok (.iconst 0, 1) := by decide +kernel
theorem dX2_keeps_21 : decode cX2_keeps 21 = .ok (.ireturn, 1) := by decide +kernel
theorem dX2_isSignature_0 : decode cX2_isSignature 0 = .ok (.iload_n 0, 1) := by decide +kernel
theorem dX2_isSignature_1 : decode cX2_isSignature 1 = .ok (.ifCond .lt 13, 3) := by decide +kernel
theorem dX2_isSignature_4 : decode cX2_isSignature 4 = .ok (.iload_n 0, 1) := by decide +kernel
theorem dX2_isSignature_5 : decode cX2_isSignature 5 = .ok (.bipush 64, 2) := by decide +kernel
theorem dX2_isSignature_7 : decode cX2_isSignature 7 = .ok (.if_icmp .ge 7, 3) := by decide +kernel
theorem dX2_isSignature_10 : decode cX2_isSignature 10 = .ok (.iconst 1, 1) := by decide +kernel
theorem dX2_isSignature_11 : decode cX2_isSignature 11 = .ok (.goto 4, 3) := by decide +kernel
theorem dX2_isSignature_14 : decode cX2_isSignature 14 = .ok (.iconst 0, 1) := by decide +kernel
theorem dX2_isSignature_15 : decode cX2_isSignature 15 = .ok (.ireturn, 1) := by decide +kernel
abbrev cX7_cell : ByteArray := method_2_code
abbrev yX7_cell : MethodName := ⟨RX7, "cell", "([II)I"⟩
def wX7_cell : List Cond := .code yX7_cell cX7_cell 2 (some .int) :: kq_T
theorem dX7_cell_0 : decode cX7_cell 0 = .ok (.iload_n 1, 1) := by decide +kernel
theorem dX7_cell_1 : decode cX7_cell 1 = .ok (.aload_n 0, 1) := by decide +kernel
theorem dX7_cell_2 : decode cX7_cell 2 = .ok (.arraylength, 1) := by decide +kernel
theorem dX7_cell_3 : decode cX7_cell 3 = .ok (.if_icmp .ge 9, 3) := by decide +kernel
theorem dX7_cell_6 : decode cX7_cell 6 = .ok (.aload_n 0, 1) := by decide +kernel
theorem dX7_cell_7 : decode cX7_cell 7 = .ok (.iload_n 1, 1) := by decide +kernel
theorem dX7_cell_8 : decode cX7_cell 8 = .ok (.iaload, 1) := by decide +kernel
theorem dX7_cell_9 : decode cX7_cell 9 = .ok (.goto 4, 3) := by decide +kernel
theorem dX7_cell_12 : decode cX7_cell 12 = .ok (.iconst 0, 1) := by decide +kernel
theorem dX7_cell_13 : decode cX7_cell 13 = .ok (.ireturn, 1) := by decide +kernel
theorem dX7_law_0 : decode code 0 = .ok (.new 7, 3) := by decide +kernel
theorem dX7_law_3 : decode code 3 = .ok (.dup, 1) := by decide +kernel
theorem dX7_law_4 : decode code 4 = .ok (.aload_n 0, 1) := by decide +kernel
theorem dX7_law_5 : decode code 5 = .ok (.iconst 0, 1) := by decide +kernel
theorem dX7_law_6 : decode code 6 = .ok (.invokestatic 9, 3) := by decide +kernel
theorem dX7_law_9 : decode code 9 = .ok (.i2l, 1) := by decide +kernel
theorem dX7_law_10 : decode code 10 = .ok (.invokespecial 15, 3) := by decide +kernel
theorem dX7_law_13 : decode code 13 = .ok (.astore_n 1, 1) := by decide +kernel
theorem dX7_law_14 : decode code 14 = .ok (.new 18, 3) := by decide +kernel
theorem dX7_law_17 : decode code 17 = .ok (.dup, 1) := by decide +kernel
theorem dX7_law_18 : decode code 18 = .ok (.aload_n 0, 1) := by decide +kernel
theorem dX7_law_19 : decode code 19 = .ok (.iconst 0, 1) := by decide +kernel
theorem dX7_law_20 : decode code 20 = .ok (.invokestatic 9, 3) := by decide +kernel
theorem dX7_law_23 : decode code 23 = .ok (.i2l, 1) := by decide +kernel
theorem dX7_law_24 : decode code 24 = .ok (.invokespecial 20, 3) := by decide +kernel
theorem dX7_law_27 : decode code 27 = .ok (.astore_n 2, 1) := by decide +kernel
theorem dX7_law_28 : decode code 28 = .ok (.iconst 1, 1) := by decide +kernel
theorem dX7_law_29 : decode code 29 = .ok (.istore_n 3, 1) := by decide +kernel
theorem dX7_law_30 : decode code 30 = .ok (.iload_n 3, 1) := by decide +kernel
theorem dX7_law_31 : decode code 31 = .ok (.aload_n 0, 1) := by decide +kernel
theorem dX7_law_32 : decode code 32 = .ok (.arraylength, 1) := by decide +kernel
theorem dX7_law_33 : decode code 33 = .ok (.iconst 5, 1) := by decide +kernel
theorem dX7_law_34 : decode code 34 = .ok (.isub, 1) := by decide +kernel
theorem dX7_law_35 : decode code 35 = .ok (.if_icmp .gt 365, 3) := by decide +kernel
theorem dX7_law_38 : decode code 38 = .ok (.aload_n 0, 1) := by decide +kernel
theorem dX7_law_39 : decode code 39 = .ok (.iload_n 3, 1) := by decide +kernel
theorem dX7_law_40 : decode code 40 = .ok (.iaload, 1) := by decide +kernel
theorem dX7_law_41 : decode code 41 = .ok (.bipush 15, 2) := by decide +kernel
theorem dX7_law_43 : decode code 43 = .ok (.iand, 1) := by decide +kernel
theorem dX7_law_44 : decode code 44 = .ok (.tableswitch 350 0 9 #[56, 89, 122, 145, 168, 215, 228, 251, 264, 277], 56) := by decide +kernel
theorem dX7_law_100 : decode code 100 = .ok (.aload_n 1, 1) := by decide +kernel
theorem dX7_law_101 : decode code 101 = .ok (.aload_n 0, 1) := by decide +kernel
theorem dX7_law_102 : decode code 102 = .ok (.iload_n 3, 1) := by decide +kernel
theorem dX7_law_103 : decode code 103 = .ok (.iconst 1, 1) := by decide +kernel
theorem dX7_law_104 : decode code 104 = .ok (.iadd, 1) := by decide +kernel
theorem dX7_law_105 : decode code 105 = .ok (.iaload, 1) := by decide +kernel
theorem dX7_law_106 : decode code 106 = .ok (.aload_n 0, 1) := by decide +kernel
theorem dX7_law_107 : decode code 107 = .ok (.iload_n 3, 1) := by decide +kernel
theorem dX7_law_108 : decode code 108 = .ok (.iconst 2, 1) := by decide +kernel
theorem dX7_law_109 : decode code 109 = .ok (.iadd, 1) := by decide +kernel
theorem dX7_law_110 : decode code 110 = .ok (.iaload, 1) := by decide +kernel
theorem dX7_law_111 : decode code 111 = .ok (.invokevirtual 21, 3) := by decide +kernel
theorem dX7_law_114 : decode code 114 = .ok (.pop, 1) := by decide +kernel
theorem dX7_law_115 : decode code 115 = .ok (.aload_n 2, 1) := by decide +kernel
theorem dX7_law_116 : decode code 116 = .ok (.aload_n 0, 1) := by decide +kernel
theorem dX7_law_117 : decode code 117 = .ok (.iload_n 3, 1) := by decide +kernel
theorem dX7_law_118 : decode code 118 = .ok (.iconst 1, 1) := by decide +kernel
theorem dX7_law_119 : decode code 119 = .ok (.iadd, 1) := by decide +kernel
theorem dX7_law_120 : decode code 120 = .ok (.iaload, 1) := by decide +kernel
theorem dX7_law_121 : decode code 121 = .ok (.aload_n 0, 1) := by decide +kernel
theorem dX7_law_122 : decode code 122 = .ok (.iload_n 3, 1) := by decide +kernel
theorem dX7_law_123 : decode code 123 = .ok (.iconst 2, 1) := by decide +kernel
theorem dX7_law_124 : decode code 124 = .ok (.iadd, 1) := by decide +kernel
theorem dX7_law_125 : decode code 125 = .ok (.iaload, 1) := by decide +kernel
theorem dX7_law_126 : decode code 126 = .ok (.invokevirtual 25, 3) := by decide +kernel
theorem dX7_law_129 : decode code 129 = .ok (.pop, 1) := by decide +kernel
theorem dX7_law_130 : decode code 130 = .ok (.goto 264, 3) := by decide +kernel
theorem dX7_law_133 : decode code 133 = .ok (.aload_n 1, 1) := by decide +kernel
theorem dX7_law_134 : decode code 134 = .ok (.aload_n 0, 1) := by decide +kernel
theorem dX7_law_135 : decode code 135 = .ok (.iload_n 3, 1) := by decide +kernel
theorem dX7_law_136 : decode code 136 = .ok (.iconst 1, 1) := by decide +kernel
theorem dX7_law_137 : decode code 137 = .ok (.iadd, 1) := by decide +kernel
theorem dX7_law_138 : decode code 138 = .ok (.iaload, 1) := by decide +kernel
theorem dX7_law_139 : decode code 139 = .ok (.aload_n 0, 1) := by decide +kernel
theorem dX7_law_140 : decode code 140 = .ok (.iload_n 3, 1) := by decide +kernel
theorem dX7_law_141 : decode code 141 = .ok (.iconst 2, 1) := by decide +kernel
theorem dX7_law_142 : decode code 142 = .ok (.iadd, 1) := by decide +kernel
theorem dX7_law_143 : decode code 143 = .ok (.iaload, 1) := by decide +kernel
theorem dX7_law_144 : decode code 144 = .ok (.invokevirtual 26, 3) := by decide +kernel
theorem dX7_law_147 : decode code 147 = .ok (.pop2, 1) := by decide +kernel
theorem dX7_law_148 : decode code 148 = .ok (.aload_n 2, 1) := by decide +kernel
theorem dX7_law_149 : decode code 149 = .ok (.aload_n 0, 1) := by decide +kernel
theorem dX7_law_150 : decode code 150 = .ok (.iload_n 3, 1) := by decide +kernel
theorem dX7_law_151 : decode code 151 = .ok (.iconst 1, 1) := by decide +kernel
theorem dX7_law_152 : decode code 152 = .ok (.iadd, 1) := by decide +kernel
theorem dX7_law_153 : decode code 153 = .ok (.iaload, 1) := by decide +kernel
theorem dX7_law_154 : decode code 154 = .ok (.aload_n 0, 1) := by decide +kernel
theorem dX7_law_155 : decode code 155 = .ok (.iload_n 3, 1) := by decide +kernel
theorem dX7_law_156 : decode code 156 = .ok (.iconst 2, 1) := by decide +kernel
theorem dX7_law_157 : decode code 157 = .ok (.iadd, 1) := by decide +kernel
theorem dX7_law_158 : decode code 158 = .ok (.iaload, 1) := by decide +kernel
theorem dX7_law_159 : decode code 159 = .ok (.invokevirtual 30, 3) := by decide +kernel
theorem dX7_law_162 : decode code 162 = .ok (.pop2, 1) := by decide +kernel
theorem dX7_law_163 : decode code 163 = .ok (.goto 231, 3) := by decide +kernel
theorem dX7_law_166 : decode code 166 = .ok (.aload_n 1, 1) := by decide +kernel
theorem dX7_law_167 : decode code 167 = .ok (.aload_n 0, 1) := by decide +kernel
theorem dX7_law_168 : decode code 168 = .ok (.iload_n 3, 1) := by decide +kernel
theorem dX7_law_169 : decode code 169 = .ok (.iconst 1, 1) := by decide +kernel
theorem dX7_law_170 : decode code 170 = .ok (.iadd, 1) := by decide +kernel
theorem dX7_law_171 : decode code 171 = .ok (.iaload, 1) := by decide +kernel
theorem dX7_law_172 : decode code 172 = .ok (.invokevirtual 31, 3) := by decide +kernel
theorem dX7_law_175 : decode code 175 = .ok (.aload_n 2, 1) := by decide +kernel
theorem dX7_law_176 : decode code 176 = .ok (.aload_n 0, 1) := by decide +kernel
theorem dX7_law_177 : decode code 177 = .ok (.iload_n 3, 1) := by decide +kernel
theorem dX7_law_178 : decode code 178 = .ok (.iconst 1, 1) := by decide +kernel
theorem dX7_law_179 : decode code 179 = .ok (.iadd, 1) := by decide +kernel
theorem dX7_law_180 : decode code 180 = .ok (.iaload, 1) := by decide +kernel
theorem dX7_law_181 : decode code 181 = .ok (.invokevirtual 35, 3) := by decide +kernel
theorem dX7_law_184 : decode code 184 = .ok (.if_icmp .eq 210, 3) := by decide +kernel
theorem dX7_law_187 : decode code 187 = .ok (.iconst 0, 1) := by decide +kernel
theorem dX7_law_188 : decode code 188 = .ok (.ireturn, 1) := by decide +kernel
theorem dX7_law_189 : decode code 189 = .ok (.aload_n 1, 1) := by decide +kernel
theorem dX7_law_190 : decode code 190 = .ok (.aload_n 0, 1) := by decide +kernel
theorem dX7_law_191 : decode code 191 = .ok (.iload_n 3, 1) := by decide +kernel
theorem dX7_law_192 : decode code 192 = .ok (.iconst 1, 1) := by decide +kernel
theorem dX7_law_193 : decode code 193 = .ok (.iadd, 1) := by decide +kernel
theorem dX7_law_194 : decode code 194 = .ok (.iaload, 1) := by decide +kernel
theorem dX7_law_195 : decode code 195 = .ok (.invokevirtual 36, 3) := by decide +kernel
theorem dX7_law_198 : decode code 198 = .ok (.pop, 1) := by decide +kernel
theorem dX7_law_199 : decode code 199 = .ok (.aload_n 2, 1) := by decide +kernel
theorem dX7_law_200 : decode code 200 = .ok (.aload_n 0, 1) := by decide +kernel
theorem dX7_law_201 : decode code 201 = .ok (.iload_n 3, 1) := by decide +kernel
theorem dX7_law_202 : decode code 202 = .ok (.iconst 1, 1) := by decide +kernel
theorem dX7_law_203 : decode code 203 = .ok (.iadd, 1) := by decide +kernel
theorem dX7_law_204 : decode code 204 = .ok (.iaload, 1) := by decide +kernel
theorem dX7_law_205 : decode code 205 = .ok (.invokevirtual 39, 3) := by decide +kernel
theorem dX7_law_208 : decode code 208 = .ok (.pop, 1) := by decide +kernel
theorem dX7_law_209 : decode code 209 = .ok (.goto 185, 3) := by decide +kernel
theorem dX7_law_212 : decode code 212 = .ok (.aload_n 1, 1) := by decide +kernel
theorem dX7_law_213 : decode code 213 = .ok (.aload_n 0, 1) := by decide +kernel
theorem dX7_law_214 : decode code 214 = .ok (.iload_n 3, 1) := by decide +kernel
theorem dX7_law_215 : decode code 215 = .ok (.iconst 1, 1) := by decide +kernel
theorem dX7_law_216 : decode code 216 = .ok (.iadd, 1) := by decide +kernel
theorem dX7_law_217 : decode code 217 = .ok (.iaload, 1) := by decide +kernel
theorem dX7_law_218 : decode code 218 = .ok (.aload_n 0, 1) := by decide +kernel
theorem dX7_law_219 : decode code 219 = .ok (.iload_n 3, 1) := by decide +kernel
theorem dX7_law_220 : decode code 220 = .ok (.iconst 2, 1) := by decide +kernel
theorem dX7_law_221 : decode code 221 = .ok (.iadd, 1) := by decide +kernel
theorem dX7_law_222 : decode code 222 = .ok (.iaload, 1) := by decide +kernel
theorem dX7_law_223 : decode code 223 = .ok (.ifCond .eq 7, 3) := by decide +kernel
theorem dX7_law_226 : decode code 226 = .ok (.iconst 1, 1) := by decide +kernel
theorem dX7_law_227 : decode code 227 = .ok (.goto 4, 3) := by decide +kernel
theorem dX7_law_230 : decode code 230 = .ok (.iconst 0, 1) := by decide +kernel
theorem dX7_law_231 : decode code 231 = .ok (.invokevirtual 40, 3) := by decide +kernel
theorem dX7_law_234 : decode code 234 = .ok (.aload_n 2, 1) := by decide +kernel
theorem dX7_law_235 : decode code 235 = .ok (.aload_n 0, 1) := by decide +kernel
theorem dX7_law_236 : decode code 236 = .ok (.iload_n 3, 1) := by decide +kernel
theorem dX7_law_237 : decode code 237 = .ok (.iconst 1, 1) := by decide +kernel
theorem dX7_law_238 : decode code 238 = .ok (.iadd, 1) := by decide +kernel
theorem dX7_law_239 : decode code 239 = .ok (.iaload, 1) := by decide +kernel
theorem dX7_law_240 : decode code 240 = .ok (.aload_n 0, 1) := by decide +kernel
theorem dX7_law_241 : decode code 241 = .ok (.iload_n 3, 1) := by decide +kernel
theorem dX7_law_242 : decode code 242 = .ok (.iconst 2, 1) := by decide +kernel
theorem dX7_law_243 : decode code 243 = .ok (.iadd, 1) := by decide +kernel
theorem dX7_law_244 : decode code 244 = .ok (.iaload, 1) := by decide +kernel
theorem dX7_law_245 : decode code 245 = .ok (.ifCond .eq 7, 3) := by decide +kernel
theorem dX7_law_248 : decode code 248 = .ok (.iconst 1, 1) := by decide +kernel
theorem dX7_law_249 : decode code 249 = .ok (.goto 4, 3) := by decide +kernel
theorem dX7_law_252 : decode code 252 = .ok (.iconst 0, 1) := by decide +kernel
theorem dX7_law_253 : decode code 253 = .ok (.invokevirtual 44, 3) := by decide +kernel
theorem dX7_law_256 : decode code 256 = .ok (.goto 138, 3) := by decide +kernel
theorem dX7_law_259 : decode code 259 = .ok (.aload_n 1, 1) := by decide +kernel
theorem dX7_law_260 : decode code 260 = .ok (.invokevirtual 45, 3) := by decide +kernel
theorem dX7_law_263 : decode code 263 = .ok (.pop, 1) := by decide +kernel
theorem dX7_law_264 : decode code 264 = .ok (.aload_n 2, 1) := by decide +kernel
theorem dX7_law_265 : decode code 265 = .ok (.invokevirtual 49, 3) := by decide +kernel
theorem dX7_law_268 : decode code 268 = .ok (.pop, 1) := by decide +kernel
theorem dX7_law_269 : decode code 269 = .ok (.goto 125, 3) := by decide +kernel
theorem dX7_law_272 : decode code 272 = .ok (.aload_n 1, 1) := by decide +kernel
theorem dX7_law_273 : decode code 273 = .ok (.aload_n 0, 1) := by decide +kernel
theorem dX7_law_274 : decode code 274 = .ok (.iload_n 3, 1) := by decide +kernel
theorem dX7_law_275 : decode code 275 = .ok (.iconst 1, 1) := by decide +kernel
theorem dX7_law_276 : decode code 276 = .ok (.iadd, 1) := by decide +kernel
theorem dX7_law_277 : decode code 277 = .ok (.iaload, 1) := by decide +kernel
theorem dX7_law_278 : decode code 278 = .ok (.invokevirtual 50, 3) := by decide +kernel
theorem dX7_law_281 : decode code 281 = .ok (.pop, 1) := by decide +kernel
theorem dX7_law_282 : decode code 282 = .ok (.aload_n 2, 1) := by decide +kernel
theorem dX7_law_283 : decode code 283 = .ok (.aload_n 0, 1) := by decide +kernel
theorem dX7_law_284 : decode code 284 = .ok (.iload_n 3, 1) := by decide +kernel
theorem dX7_law_285 : decode code 285 = .ok (.iconst 1, 1) := by decide +kernel
theorem dX7_law_286 : decode code 286 = .ok (.iadd, 1) := by decide +kernel
theorem dX7_law_287 : decode code 287 = .ok (.iaload, 1) := by decide +kernel
theorem dX7_law_288 : decode code 288 = .ok (.invokevirtual 53, 3) := by decide +kernel
theorem dX7_law_291 : decode code 291 = .ok (.pop, 1) := by decide +kernel
theorem dX7_law_292 : decode code 292 = .ok (.goto 102, 3) := by decide +kernel
theorem dX7_law_295 : decode code 295 = .ok (.aload_n 1, 1) := by decide +kernel
theorem dX7_law_296 : decode code 296 = .ok (.invokevirtual 54, 3) := by decide +kernel
theorem dX7_law_299 : decode code 299 = .ok (.pop, 1) := by decide +kernel
theorem dX7_law_300 : decode code 300 = .ok (.aload_n 2, 1) := by decide +kernel
theorem dX7_law_301 : decode code 301 = .ok (.invokevirtual 58, 3) := by decide +kernel
theorem dX7_law_304 : decode code 304 = .ok (.pop, 1) := by decide +kernel
theorem dX7_law_305 : decode code 305 = .ok (.goto 89, 3) := by decide +kernel
theorem dX7_law_308 : decode code 308 = .ok (.aload_n 1, 1) := by decide +kernel
theorem dX7_law_309 : decode code 309 = .ok (.invokevirtual 59, 3) := by decide +kernel
theorem dX7_law_312 : decode code 312 = .ok (.pop, 1) := by decide +kernel
theorem dX7_law_313 : decode code 313 = .ok (.aload_n 2, 1) := by decide +kernel
theorem dX7_law_314 : decode code 314 = .ok (.invokevirtual 62, 3) := by decide +kernel
theorem dX7_law_317 : decode code 317 = .ok (.pop, 1) := by decide +kernel
theorem dX7_law_318 : decode code 318 = .ok (.goto 76, 3) := by decide +kernel
theorem dX7_law_321 : decode code 321 = .ok (.aload_n 1, 1) := by decide +kernel
theorem dX7_law_322 : decode code 322 = .ok (.aload_n 0, 1) := by decide +kernel
theorem dX7_law_323 : decode code 323 = .ok (.iload_n 3, 1) := by decide +kernel
theorem dX7_law_324 : decode code 324 = .ok (.iconst 1, 1) := by decide +kernel
theorem dX7_law_325 : decode code 325 = .ok (.iadd, 1) := by decide +kernel
theorem dX7_law_326 : decode code 326 = .ok (.iaload, 1) := by decide +kernel
theorem dX7_law_327 : decode code 327 = .ok (.i2l, 1) := by decide +kernel
theorem dX7_law_328 : decode code 328 = .ok (.bipush 32, 2) := by decide +kernel
theorem dX7_law_330 : decode code 330 = .ok (.lshl, 1) := by decide +kernel
theorem dX7_law_331 : decode code 331 = .ok (.aload_n 0, 1) := by decide +kernel
theorem dX7_law_332 : decode code 332 = .ok (.iload_n 3, 1) := by decide +kernel
theorem dX7_law_333 : decode code 333 = .ok (.iconst 2, 1) := by decide +kernel
theorem dX7_law_334 : decode code 334 = .ok (.iadd, 1) := by decide +kernel
theorem dX7_law_335 : decode code 335 = .ok (.iaload, 1) := by decide +kernel
theorem dX7_law_336 : decode code 336 = .ok (.i2l, 1) := by decide +kernel
theorem dX7_law_337 : decode code 337 = .ok (.ldc2_w 63, 3) := by decide +kernel
theorem dX7_law_340 : decode code 340 = .ok (.land, 1) := by decide +kernel
theorem dX7_law_341 : decode code 341 = .ok (.lor, 1) := by decide +kernel
theorem dX7_law_342 : decode code 342 = .ok (.aload_n 0, 1) := by decide +kernel
theorem dX7_law_343 : decode code 343 = .ok (.iload_n 3, 1) := by decide +kernel
theorem dX7_law_344 : decode code 344 = .ok (.iconst 3, 1) := by decide +kernel
theorem dX7_law_345 : decode code 345 = .ok (.iadd, 1) := by decide +kernel
theorem dX7_law_346 : decode code 346 = .ok (.iaload, 1) := by decide +kernel
theorem dX7_law_347 : decode code 347 = .ok (.aload_n 0, 1) := by decide +kernel
theorem dX7_law_348 : decode code 348 = .ok (.iload_n 3, 1) := by decide +kernel
theorem dX7_law_349 : decode code 349 = .ok (.iconst 4, 1) := by decide +kernel
theorem dX7_law_350 : decode code 350 = .ok (.iadd, 1) := by decide +kernel
theorem dX7_law_351 : decode code 351 = .ok (.iaload, 1) := by decide +kernel
theorem dX7_law_352 : decode code 352 = .ok (.invokevirtual 65, 3) := by decide +kernel
theorem dX7_law_355 : decode code 355 = .ok (.pop, 1) := by decide +kernel
theorem dX7_law_356 : decode code 356 = .ok (.aload_n 2, 1) := by decide +kernel
theorem dX7_law_357 : decode code 357 = .ok (.aload_n 0, 1) := by decide +kernel
theorem dX7_law_358 : decode code 358 = .ok (.iload_n 3, 1) := by decide +kernel
theorem dX7_law_359 : decode code 359 = .ok (.iconst 1, 1) := by decide +kernel
theorem dX7_law_360 : decode code 360 = .ok (.iadd, 1) := by decide +kernel
theorem dX7_law_361 : decode code 361 = .ok (.iaload, 1) := by decide +kernel
theorem dX7_law_362 : decode code 362 = .ok (.i2l, 1) := by decide +kernel
theorem dX7_law_363 : decode code 363 = .ok (.bipush 32, 2) := by decide +kernel
theorem dX7_law_365 : decode code 365 = .ok (.lshl, 1) := by decide +kernel
theorem dX7_law_366 : decode code 366 = .ok (.aload_n 0, 1) := by decide +kernel
theorem dX7_law_367 : decode code 367 = .ok (.iload_n 3, 1) := by decide +kernel
theorem dX7_law_368 : decode code 368 = .ok (.iconst 2, 1) := by decide +kernel
theorem dX7_law_369 : decode code 369 = .ok (.iadd, 1) := by decide +kernel
theorem dX7_law_370 : decode code 370 = .ok (.iaload, 1) := by decide +kernel
theorem dX7_law_371 : decode code 371 = .ok (.i2l, 1) := by decide +kernel
theorem dX7_law_372 : decode code 372 = .ok (.ldc2_w 63, 3) := by decide +kernel
theorem dX7_law_375 : decode code 375 = .ok (.land, 1) := by decide +kernel
theorem dX7_law_376 : decode code 376 = .ok (.lor, 1) := by decide +kernel
theorem dX7_law_377 : decode code 377 = .ok (.aload_n 0, 1) := by decide +kernel
theorem dX7_law_378 : decode code 378 = .ok (.iload_n 3, 1) := by decide +kernel
theorem dX7_law_379 : decode code 379 = .ok (.iconst 3, 1) := by decide +kernel
theorem dX7_law_380 : decode code 380 = .ok (.iadd, 1) := by decide +kernel
theorem dX7_law_381 : decode code 381 = .ok (.iaload, 1) := by decide +kernel
theorem dX7_law_382 : decode code 382 = .ok (.aload_n 0, 1) := by decide +kernel
theorem dX7_law_383 : decode code 383 = .ok (.iload_n 3, 1) := by decide +kernel
theorem dX7_law_384 : decode code 384 = .ok (.iconst 4, 1) := by decide +kernel
theorem dX7_law_385 : decode code 385 = .ok (.iadd, 1) := by decide +kernel
theorem dX7_law_386 : decode code 386 = .ok (.iaload, 1) := by decide +kernel
theorem dX7_law_387 : decode code 387 = .ok (.invokevirtual 69, 3) := by decide +kernel
theorem dX7_law_390 : decode code 390 = .ok (.pop, 1) := by decide +kernel
theorem dX7_law_391 : decode code 391 = .ok (.goto 3, 3) := by decide +kernel
theorem dX7_law_394 : decode code 394 = .ok (.iinc 3 5, 3) := by decide +kernel
theorem dX7_law_397 : decode code 397 = .ok (.goto (-367), 3) := by decide +kernel
theorem dX7_law_400 : decode code 400 = .ok (.iconst 1, 1) := by decide +kernel
theorem dX7_law_401 : decode code 401 = .ok (.ireturn, 1) := by decide +kernel
