theorem dM_side_0 : decode bM_side 0 = .ok (.iload_n 0, 1) := by decide +kernel
theorem dM_side_1 : decode bM_side 1 = .ok (.iconst 1, 1) := by decide +kernel
theorem dM_side_2 : decode bM_side 2 = .ok (.if_icmp .ge (7), 3) := by decide +kernel
theorem dM_side_5 : decode bM_side 5 = .ok (.iconst 1, 1) := by decide +kernel
theorem dM_side_6 : decode bM_side 6 = .ok (.goto (17), 3) := by decide +kernel
theorem dM_side_9 : decode bM_side 9 = .ok (.iload_n 0, 1) := by decide +kernel
theorem dM_side_10 : decode bM_side 10 = .ok (.sipush (256), 3) := by decide +kernel
theorem dM_side_13 : decode bM_side 13 = .ok (.if_icmp .le (9), 3) := by decide +kernel
theorem dM_side_16 : decode bM_side 16 = .ok (.sipush (256), 3) := by decide +kernel
theorem dM_side_19 : decode bM_side 19 = .ok (.goto (4), 3) := by decide +kernel
theorem dM_side_22 : decode bM_side 22 = .ok (.iload_n 0, 1) := by decide +kernel
theorem dM_side_23 : decode bM_side 23 = .ok (.ireturn, 1) := by decide +kernel
theorem dM_columns_0 : decode bM_columns 0 = .ok (.aload_n 0, 1) := by decide +kernel
theorem dM_columns_1 : decode bM_columns 1 = .ok (.getfield 35, 3) := by decide +kernel
theorem dM_columns_4 : decode bM_columns 4 = .ok (.ireturn, 1) := by decide +kernel
theorem dM_rows_0 : decode bM_rows 0 = .ok (.aload_n 0, 1) := by decide +kernel
theorem dM_rows_1 : decode bM_rows 1 = .ok (.getfield 39, 3) := by decide +kernel
theorem dM_rows_4 : decode bM_rows 4 = .ok (.ireturn, 1) := by decide +kernel
theorem dM_isPlace_0 : decode bM_isPlace 0 = .ok (.iload_n 0, 1) := by decide +kernel
theorem dM_isPlace_1 : decode bM_isPlace 1 = .ok (.i2l, 1) := by decide +kernel
theorem dM_isPlace_2 : decode bM_isPlace 2 = .ok (.ldc2_w 42, 3) := by decide +kernel
theorem dM_isPlace_5 : decode bM_isPlace 5 = .ok (.lcmp, 1) := by decide +kernel
theorem dM_isPlace_6 : decode bM_isPlace 6 = .ok (.ifCond .lt (16), 3) := by decide +kernel
theorem dM_isPlace_9 : decode bM_isPlace 9 = .ok (.iload_n 0, 1) := by decide +kernel
theorem dM_isPlace_10 : decode bM_isPlace 10 = .ok (.i2l, 1) := by decide +kernel
theorem dM_isPlace_11 : decode bM_isPlace 11 = .ok (.ldc2_w 44, 3) := by decide +kernel
theorem dM_isPlace_14 : decode bM_isPlace 14 = .ok (.lcmp, 1) := by decide +kernel
theorem dM_isPlace_15 : decode bM_isPlace 15 = .ok (.ifCond .gt (7), 3) := by decide +kernel
theorem dM_isPlace_18 : decode bM_isPlace 18 = .ok (.iconst 1, 1) := by decide +kernel
theorem dM_isPlace_19 : decode bM_isPlace 19 = .ok (.goto (4), 3) := by decide +kernel
theorem dM_isPlace_22 : decode bM_isPlace 22 = .ok (.iconst 0, 1) := by decide +kernel
theorem dM_isPlace_23 : decode bM_isPlace 23 = .ok (.ireturn, 1) := by decide +kernel
theorem dM_put_0 : decode bM_put 0 = .ok (.aload_n 0, 1) := by decide +kernel
theorem dM_put_1 : decode bM_put 1 = .ok (.getfield 46, 3) := by decide +kernel
theorem dM_put_4 : decode bM_put 4 = .ok (.sipush (4096), 3) := by decide +kernel
theorem dM_put_7 : decode bM_put 7 = .ok (.if_icmp .ne (6), 3) := by decide +kernel
theorem dM_put_10 : decode bM_put 10 = .ok (.bipush (-3), 2) := by decide +kernel
theorem dM_put_12 : decode bM_put 12 = .ok (.ireturn, 1) := by decide +kernel
theorem dM_put_13 : decode bM_put 13 = .ok (.aload_n 0, 1) := by decide +kernel
theorem dM_put_14 : decode bM_put 14 = .ok (.getfield 18, 3) := by decide +kernel
theorem dM_put_17 : decode bM_put 17 = .ok (.aload_n 0, 1) := by decide +kernel
theorem dM_put_18 : decode bM_put 18 = .ok (.getfield 46, 3) := by decide +kernel
theorem dM_put_21 : decode bM_put 21 = .ok (.iload_n 1, 1) := by decide +kernel
theorem dM_put_22 : decode bM_put 22 = .ok (.iastore, 1) := by decide +kernel
theorem dM_put_23 : decode bM_put 23 = .ok (.aload_n 0, 1) := by decide +kernel
theorem dM_put_24 : decode bM_put 24 = .ok (.getfield 22, 3) := by decide +kernel
theorem dM_put_27 : decode bM_put 27 = .ok (.aload_n 0, 1) := by decide +kernel
theorem dM_put_28 : decode bM_put 28 = .ok (.getfield 46, 3) := by decide +kernel
theorem dM_put_31 : decode bM_put 31 = .ok (.iload_n 2, 1) := by decide +kernel
theorem dM_put_32 : decode bM_put 32 = .ok (.iastore, 1) := by decide +kernel
theorem dM_put_33 : decode bM_put 33 = .ok (.aload_n 0, 1) := by decide +kernel
theorem dM_put_34 : decode bM_put 34 = .ok (.getfield 25, 3) := by decide +kernel
theorem dM_put_37 : decode bM_put 37 = .ok (.aload_n 0, 1) := by decide +kernel
theorem dM_put_38 : decode bM_put 38 = .ok (.getfield 46, 3) := by decide +kernel
theorem dM_put_41 : decode bM_put 41 = .ok (.iload_n 3, 1) := by decide +kernel
theorem dM_put_42 : decode bM_put 42 = .ok (.iastore, 1) := by decide +kernel
theorem dM_put_43 : decode bM_put 43 = .ok (.aload_n 0, 1) := by decide +kernel
theorem dM_put_44 : decode bM_put 44 = .ok (.dup, 1) := by decide +kernel
theorem dM_put_45 : decode bM_put 45 = .ok (.getfield 46, 3) := by decide +kernel
theorem dM_put_48 : decode bM_put 48 = .ok (.iconst 1, 1) := by decide +kernel
theorem dM_put_49 : decode bM_put 49 = .ok (.iadd, 1) := by decide +kernel
theorem dM_put_50 : decode bM_put 50 = .ok (.putfield 46, 3) := by decide +kernel
theorem dM_put_53 : decode bM_put 53 = .ok (.aload_n 0, 1) := by decide +kernel
theorem dM_put_54 : decode bM_put 54 = .ok (.getfield 46, 3) := by decide +kernel
theorem dM_put_57 : decode bM_put 57 = .ok (.ireturn, 1) := by decide +kernel
theorem dM_move_0 : decode bM_move 0 = .ok (.iload_n 1, 1) := by decide +kernel
theorem dM_move_1 : decode bM_move 1 = .ok (.invokestatic 49, 3) := by decide +kernel
theorem dM_move_4 : decode bM_move 4 = .ok (.ifCond .eq (23), 3) := by decide +kernel
theorem dM_move_7 : decode bM_move 7 = .ok (.iload_n 2, 1) := by decide +kernel
theorem dM_move_8 : decode bM_move 8 = .ok (.invokestatic 49, 3) := by decide +kernel
theorem dM_move_11 : decode bM_move 11 = .ok (.ifCond .eq (16), 3) := by decide +kernel
theorem dM_move_14 : decode bM_move 14 = .ok (.aload_n 0, 1) := by decide +kernel
theorem dM_move_15 : decode bM_move 15 = .ok (.iload_n 1, 1) := by decide +kernel
theorem dM_move_16 : decode bM_move 16 = .ok (.iload_n 2, 1) := by decide +kernel
theorem dM_move_17 : decode bM_move 17 = .ok (.aload_n 0, 1) := by decide +kernel
theorem dM_move_18 : decode bM_move 18 = .ok (.getfield 46, 3) := by decide +kernel
theorem dM_move_21 : decode bM_move 21 = .ok (.invokevirtual 53, 3) := by decide +kernel
theorem dM_move_24 : decode bM_move 24 = .ok (.goto (4), 3) := by decide +kernel
theorem dM_move_27 : decode bM_move 27 = .ok (.iconst (-1), 1) := by decide +kernel
theorem dM_move_28 : decode bM_move 28 = .ok (.ireturn, 1) := by decide +kernel
theorem dM_line_0 : decode bM_line 0 = .ok (.iload_n 1, 1) := by decide +kernel
theorem dM_line_1 : decode bM_line 1 = .ok (.invokestatic 49, 3) := by decide +kernel
theorem dM_line_4 : decode bM_line 4 = .ok (.ifCond .eq (10), 3) := by decide +kernel
theorem dM_line_7 : decode bM_line 7 = .ok (.iload_n 2, 1) := by decide +kernel
theorem dM_line_8 : decode bM_line 8 = .ok (.invokestatic 49, 3) := by decide +kernel
theorem dM_line_11 : decode bM_line 11 = .ok (.ifCond .ne (5), 3) := by decide +kernel
theorem dM_line_14 : decode bM_line 14 = .ok (.iconst (-1), 1) := by decide +kernel
theorem dM_line_15 : decode bM_line 15 = .ok (.ireturn, 1) := by decide +kernel
theorem dM_line_16 : decode bM_line 16 = .ok (.aload_n 0, 1) := by decide +kernel
theorem dM_line_17 : decode bM_line 17 = .ok (.getfield 46, 3) := by decide +kernel
theorem dM_line_20 : decode bM_line 20 = .ok (.ifCond .ne (8), 3) := by decide +kernel
theorem dM_line_23 : decode bM_line 23 = .ok (.bipush (-2), 2) := by decide +kernel
theorem dM_line_25 : decode bM_line 25 = .ok (.goto (20), 3) := by decide +kernel
theorem dM_line_28 : decode bM_line 28 = .ok (.aload_n 0, 1) := by decide +kernel
theorem dM_line_29 : decode bM_line 29 = .ok (.iload_n 1, 1) := by decide +kernel
theorem dM_line_30 : decode bM_line 30 = .ok (.iload_n 2, 1) := by decide +kernel
theorem dM_line_31 : decode bM_line 31 = .ok (.aload_n 0, 1) := by decide +kernel
theorem dM_line_32 : decode bM_line 32 = .ok (.getfield 25, 3) := by decide +kernel
theorem dM_line_35 : decode bM_line 35 = .ok (.aload_n 0, 1) := by decide +kernel
theorem dM_line_36 : decode bM_line 36 = .ok (.getfield 46, 3) := by decide +kernel
theorem dM_line_39 : decode bM_line 39 = .ok (.iconst 1, 1) := by decide +kernel
theorem dM_line_40 : decode bM_line 40 = .ok (.isub, 1) := by decide +kernel
theorem dM_line_41 : decode bM_line 41 = .ok (.iaload, 1) := by decide +kernel
theorem dM_line_42 : decode bM_line 42 = .ok (.invokevirtual 53, 3) := by decide +kernel
theorem dM_line_45 : decode bM_line 45 = .ok (.ireturn, 1) := by decide +kernel
theorem dM_clear_0 : decode bM_clear 0 = .ok (.aload_n 0, 1) := by decide +kernel
theorem dM_clear_1 : decode bM_clear 1 = .ok (.getfield 46, 3) := by decide +kernel
theorem dM_clear_4 : decode bM_clear 4 = .ok (.istore_n 1, 1) := by decide +kernel
theorem dM_clear_5 : decode bM_clear 5 = .ok (.aload_n 0, 1) := by decide +kernel
theorem dM_clear_6 : decode bM_clear 6 = .ok (.iconst 0, 1) := by decide +kernel
theorem dM_clear_7 : decode bM_clear 7 = .ok (.putfield 46, 3) := by decide +kernel
theorem dM_clear_10 : decode bM_clear 10 = .ok (.iload_n 1, 1) := by decide +kernel
theorem dM_clear_11 : decode bM_clear 11 = .ok (.ireturn, 1) := by decide +kernel
theorem dM_next_0 : decode bM_next 0 = .ok (.iload_n 1, 1) := by decide +kernel
theorem dM_next_1 : decode bM_next 1 = .ok (.iconst 1, 1) := by decide +kernel
theorem dM_next_2 : decode bM_next 2 = .ok (.iadd, 1) := by decide +kernel
theorem dM_next_3 : decode bM_next 3 = .ok (.aload_n 0, 1) := by decide +kernel
theorem dM_next_4 : decode bM_next 4 = .ok (.getfield 46, 3) := by decide +kernel
theorem dM_next_7 : decode bM_next 7 = .ok (.if_icmp .ge (26), 3) := by decide +kernel
theorem dM_next_10 : decode bM_next 10 = .ok (.aload_n 0, 1) := by decide +kernel
theorem dM_next_11 : decode bM_next 11 = .ok (.getfield 25, 3) := by decide +kernel
theorem dM_next_14 : decode bM_next 14 = .ok (.iload_n 1, 1) := by decide +kernel
theorem dM_next_15 : decode bM_next 15 = .ok (.iconst 1, 1) := by decide +kernel
theorem dM_next_16 : decode bM_next 16 = .ok (.iadd, 1) := by decide +kernel
theorem dM_next_17 : decode bM_next 17 = .ok (.iaload, 1) := by decide +kernel
theorem dM_next_18 : decode bM_next 18 = .ok (.aload_n 0, 1) := by decide +kernel
theorem dM_next_19 : decode bM_next 19 = .ok (.getfield 25, 3) := by decide +kernel
theorem dM_next_22 : decode bM_next 22 = .ok (.iload_n 1, 1) := by decide +kernel
theorem dM_next_23 : decode bM_next 23 = .ok (.iaload, 1) := by decide +kernel
theorem dM_next_24 : decode bM_next 24 = .ok (.if_icmp .ne (9), 3) := by decide +kernel
theorem dM_next_27 : decode bM_next 27 = .ok (.iload_n 1, 1) := by decide +kernel
theorem dM_next_28 : decode bM_next 28 = .ok (.iconst 1, 1) := by decide +kernel
theorem dM_next_29 : decode bM_next 29 = .ok (.iadd, 1) := by decide +kernel
theorem dM_next_30 : decode bM_next 30 = .ok (.goto (9), 3) := by decide +kernel
theorem dM_next_33 : decode bM_next 33 = .ok (.aload_n 0, 1) := by decide +kernel
theorem dM_next_34 : decode bM_next 34 = .ok (.getfield 25, 3) := by decide +kernel
theorem dM_next_37 : decode bM_next 37 = .ok (.iload_n 1, 1) := by decide +kernel
theorem dM_next_38 : decode bM_next 38 = .ok (.iaload, 1) := by decide +kernel
theorem dM_next_39 : decode bM_next 39 = .ok (.ireturn, 1) := by decide +kernel
theorem dM_centre_0 : decode bM_centre 0 = .ok (.ldc2_w 57, 3) := by decide +kernel
theorem dM_centre_3 : decode bM_centre 3 = .ok (.iload_n 0, 1) := by decide +kernel
theorem dM_centre_4 : decode bM_centre 4 = .ok (.i2l, 1) := by decide +kernel
theorem dM_centre_5 : decode bM_centre 5 = .ok (.lmul, 1) := by decide +kernel
theorem dM_centre_6 : decode bM_centre 6 = .ok (.ldc2_w 59, 3) := by decide +kernel
theorem dM_centre_9 : decode bM_centre 9 = .ok (.ladd, 1) := by decide +kernel
theorem dM_centre_10 : decode bM_centre 10 = .ok (.lreturn, 1) := by decide +kernel
theorem dM_meet_0 : decode bM_meet 0 = .ok (.iload_n 1, 1) := by decide +kernel
theorem dM_meet_1 : decode bM_meet 1 = .ok (.invokestatic 61, 3) := by decide +kernel
theorem dM_meet_4 : decode bM_meet 4 = .ok (.lstore_n 2, 1) := by decide +kernel
theorem dM_meet_5 : decode bM_meet 5 = .ok (.aload_n 0, 1) := by decide +kernel
theorem dM_meet_6 : decode bM_meet 6 = .ok (.iconst 0, 1) := by decide +kernel
theorem dM_meet_7 : decode bM_meet 7 = .ok (.putfield 65, 3) := by decide +kernel
theorem dM_meet_10 : decode bM_meet 10 = .ok (.iconst 0, 1) := by decide +kernel
theorem dM_meet_11 : decode bM_meet 11 = .ok (.istore 4, 2) := by decide +kernel
theorem dM_meet_13 : decode bM_meet 13 = .ok (.iload 4, 2) := by decide +kernel
theorem dM_meet_15 : decode bM_meet 15 = .ok (.aload_n 0, 1) := by decide +kernel
theorem dM_meet_16 : decode bM_meet 16 = .ok (.getfield 46, 3) := by decide +kernel
theorem dM_meet_19 : decode bM_meet 19 = .ok (.if_icmp .ge (81), 3) := by decide +kernel
theorem dM_meet_22 : decode bM_meet 22 = .ok (.aload_n 0, 1) := by decide +kernel
theorem dM_meet_23 : decode bM_meet 23 = .ok (.getfield 22, 3) := by decide +kernel
theorem dM_meet_26 : decode bM_meet 26 = .ok (.iload 4, 2) := by decide +kernel
theorem dM_meet_28 : decode bM_meet 28 = .ok (.iaload, 1) := by decide +kernel
theorem dM_meet_29 : decode bM_meet 29 = .ok (.i2l, 1) := by decide +kernel
theorem dM_meet_30 : decode bM_meet 30 = .ok (.lload_n 2, 1) := by decide +kernel
theorem dM_meet_31 : decode bM_meet 31 = .ok (.lcmp, 1) := by decide +kernel
theorem dM_meet_32 : decode bM_meet 32 = .ok (.ifCond .gt (7), 3) := by decide +kernel
theorem dM_meet_35 : decode bM_meet 35 = .ok (.iconst 1, 1) := by decide +kernel
theorem dM_meet_36 : decode bM_meet 36 = .ok (.goto (4), 3) := by decide +kernel
theorem dM_meet_39 : decode bM_meet 39 = .ok (.iconst 0, 1) := by decide +kernel
theorem dM_meet_40 : decode bM_meet 40 = .ok (.istore 5, 2) := by decide +kernel
theorem dM_meet_42 : decode bM_meet 42 = .ok (.aload_n 0, 1) := by decide +kernel
theorem dM_meet_43 : decode bM_meet 43 = .ok (.getfield 22, 3) := by decide +kernel
theorem dM_meet_46 : decode bM_meet 46 = .ok (.aload_n 0, 1) := by decide +kernel
theorem dM_meet_47 : decode bM_meet 47 = .ok (.iload 4, 2) := by decide +kernel
theorem dM_meet_49 : decode bM_meet 49 = .ok (.invokevirtual 68, 3) := by decide +kernel
theorem dM_meet_52 : decode bM_meet 52 = .ok (.iaload, 1) := by decide +kernel
theorem dM_meet_53 : decode bM_meet 53 = .ok (.i2l, 1) := by decide +kernel
theorem dM_meet_54 : decode bM_meet 54 = .ok (.lload_n 2, 1) := by decide +kernel
theorem dM_meet_55 : decode bM_meet 55 = .ok (.lcmp, 1) := by decide +kernel
theorem dM_meet_56 : decode bM_meet 56 = .ok (.ifCond .gt (7), 3) := by decide +kernel
theorem dM_meet_59 : decode bM_meet 59 = .ok (.iconst 1, 1) := by decide +kernel
theorem dM_meet_60 : decode bM_meet 60 = .ok (.goto (4), 3) := by decide +kernel
theorem dM_meet_63 : decode bM_meet 63 = .ok (.iconst 0, 1) := by decide +kernel
theorem dM_meet_64 : decode bM_meet 64 = .ok (.istore 6, 2) := by decide +kernel
theorem dM_meet_66 : decode bM_meet 66 = .ok (.iload 5, 2) := by decide +kernel
theorem dM_meet_68 : decode bM_meet 68 = .ok (.iload 6, 2) := by decide +kernel
theorem dM_meet_70 : decode bM_meet 70 = .ok (.if_icmp .eq (24), 3) := by decide +kernel
theorem dM_meet_73 : decode bM_meet 73 = .ok (.aload_n 0, 1) := by decide +kernel
theorem dM_meet_74 : decode bM_meet 74 = .ok (.getfield 28, 3) := by decide +kernel
theorem dM_meet_77 : decode bM_meet 77 = .ok (.aload_n 0, 1) := by decide +kernel
theorem dM_meet_78 : decode bM_meet 78 = .ok (.getfield 65, 3) := by decide +kernel
theorem dM_meet_81 : decode bM_meet 81 = .ok (.iload 4, 2) := by decide +kernel
theorem dM_meet_83 : decode bM_meet 83 = .ok (.iastore, 1) := by decide +kernel
theorem dM_meet_84 : decode bM_meet 84 = .ok (.aload_n 0, 1) := by decide +kernel
theorem dM_meet_85 : decode bM_meet 85 = .ok (.dup, 1) := by decide +kernel
theorem dM_meet_86 : decode bM_meet 86 = .ok (.getfield 65, 3) := by decide +kernel
theorem dM_meet_89 : decode bM_meet 89 = .ok (.iconst 1, 1) := by decide +kernel
theorem dM_meet_90 : decode bM_meet 90 = .ok (.iadd, 1) := by decide +kernel
theorem dM_meet_91 : decode bM_meet 91 = .ok (.putfield 65, 3) := by decide +kernel
theorem dM_meet_94 : decode bM_meet 94 = .ok (.iinc 4 (1), 3) := by decide +kernel
theorem dM_meet_97 : decode bM_meet 97 = .ok (.goto (-84), 3) := by decide +kernel
theorem dM_meet_100 : decode bM_meet 100 = .ok (.return_, 1) := by decide +kernel
theorem dM_isLeft_0 : decode bM_isLeft 0 = .ok (.aload_n 0, 1) := by decide +kernel
theorem dM_isLeft_1 : decode bM_isLeft 1 = .ok (.iload_n 1, 1) := by decide +kernel
theorem dM_isLeft_2 : decode bM_isLeft 2 = .ok (.invokevirtual 68, 3) := by decide +kernel
theorem dM_isLeft_5 : decode bM_isLeft 5 = .ok (.istore 6, 2) := by decide +kernel
theorem dM_isLeft_7 : decode bM_isLeft 7 = .ok (.aload_n 0, 1) := by decide +kernel
theorem dM_isLeft_8 : decode bM_isLeft 8 = .ok (.getfield 18, 3) := by decide +kernel
theorem dM_isLeft_11 : decode bM_isLeft 11 = .ok (.iload 6, 2) := by decide +kernel
theorem dM_isLeft_13 : decode bM_isLeft 13 = .ok (.iaload, 1) := by decide +kernel
theorem dM_isLeft_14 : decode bM_isLeft 14 = .ok (.i2l, 1) := by decide +kernel
theorem dM_isLeft_15 : decode bM_isLeft 15 = .ok (.aload_n 0, 1) := by decide +kernel
theorem dM_isLeft_16 : decode bM_isLeft 16 = .ok (.getfield 18, 3) := by decide +kernel
theorem dM_isLeft_19 : decode bM_isLeft 19 = .ok (.iload_n 1, 1) := by decide +kernel
theorem dM_isLeft_20 : decode bM_isLeft 20 = .ok (.iaload, 1) := by decide +kernel
theorem dM_isLeft_21 : decode bM_isLeft 21 = .ok (.i2l, 1) := by decide +kernel
theorem dM_isLeft_22 : decode bM_isLeft 22 = .ok (.lsub, 1) := by decide +kernel
theorem dM_isLeft_23 : decode bM_isLeft 23 = .ok (.lload 4, 2) := by decide +kernel
theorem dM_isLeft_25 : decode bM_isLeft 25 = .ok (.aload_n 0, 1) := by decide +kernel
theorem dM_isLeft_26 : decode bM_isLeft 26 = .ok (.getfield 22, 3) := by decide +kernel
theorem dM_isLeft_29 : decode bM_isLeft 29 = .ok (.iload_n 1, 1) := by decide +kernel
theorem dM_isLeft_30 : decode bM_isLeft 30 = .ok (.iaload, 1) := by decide +kernel
theorem dM_isLeft_31 : decode bM_isLeft 31 = .ok (.i2l, 1) := by decide +kernel
theorem dM_isLeft_32 : decode bM_isLeft 32 = .ok (.lsub, 1) := by decide +kernel
theorem dM_isLeft_33 : decode bM_isLeft 33 = .ok (.lmul, 1) := by decide +kernel
theorem dM_isLeft_34 : decode bM_isLeft 34 = .ok (.lstore 7, 2) := by decide +kernel
theorem dM_isLeft_36 : decode bM_isLeft 36 = .ok (.lload_n 2, 1) := by decide +kernel
theorem dM_isLeft_37 : decode bM_isLeft 37 = .ok (.aload_n 0, 1) := by decide +kernel
theorem dM_isLeft_38 : decode bM_isLeft 38 = .ok (.getfield 18, 3) := by decide +kernel
theorem dM_isLeft_41 : decode bM_isLeft 41 = .ok (.iload_n 1, 1) := by decide +kernel
theorem dM_isLeft_42 : decode bM_isLeft 42 = .ok (.iaload, 1) := by decide +kernel
theorem dM_isLeft_43 : decode bM_isLeft 43 = .ok (.i2l, 1) := by decide +kernel
theorem dM_isLeft_44 : decode bM_isLeft 44 = .ok (.lsub, 1) := by decide +kernel
theorem dM_isLeft_45 : decode bM_isLeft 45 = .ok (.aload_n 0, 1) := by decide +kernel
theorem dM_isLeft_46 : decode bM_isLeft 46 = .ok (.getfield 22, 3) := by decide +kernel
theorem dM_isLeft_49 : decode bM_isLeft 49 = .ok (.iload 6, 2) := by decide +kernel
theorem dM_isLeft_51 : decode bM_isLeft 51 = .ok (.iaload, 1) := by decide +kernel
theorem dM_isLeft_52 : decode bM_isLeft 52 = .ok (.i2l, 1) := by decide +kernel
theorem dM_isLeft_53 : decode bM_isLeft 53 = .ok (.aload_n 0, 1) := by decide +kernel
theorem dM_isLeft_54 : decode bM_isLeft 54 = .ok (.getfield 22, 3) := by decide +kernel
theorem dM_isLeft_57 : decode bM_isLeft 57 = .ok (.iload_n 1, 1) := by decide +kernel
theorem dM_isLeft_58 : decode bM_isLeft 58 = .ok (.iaload, 1) := by decide +kernel
theorem dM_isLeft_59 : decode bM_isLeft 59 = .ok (.i2l, 1) := by decide +kernel
theorem dM_isLeft_60 : decode bM_isLeft 60 = .ok (.lsub, 1) := by decide +kernel
theorem dM_isLeft_61 : decode bM_isLeft 61 = .ok (.lmul, 1) := by decide +kernel
theorem dM_isLeft_62 : decode bM_isLeft 62 = .ok (.lstore 9, 2) := by decide +kernel
theorem dM_isLeft_64 : decode bM_isLeft 64 = .ok (.aload_n 0, 1) := by decide +kernel
theorem dM_isLeft_65 : decode bM_isLeft 65 = .ok (.getfield 22, 3) := by decide +kernel
theorem dM_isLeft_68 : decode bM_isLeft 68 = .ok (.iload 6, 2) := by decide +kernel
theorem dM_isLeft_70 : decode bM_isLeft 70 = .ok (.iaload, 1) := by decide +kernel
theorem dM_isLeft_71 : decode bM_isLeft 71 = .ok (.aload_n 0, 1) := by decide +kernel
theorem dM_isLeft_72 : decode bM_isLeft 72 = .ok (.getfield 22, 3) := by decide +kernel
theorem dM_isLeft_75 : decode bM_isLeft 75 = .ok (.iload_n 1, 1) := by decide +kernel
theorem dM_isLeft_76 : decode bM_isLeft 76 = .ok (.iaload, 1) := by decide +kernel
theorem dM_isLeft_77 : decode bM_isLeft 77 = .ok (.if_icmp .le (19), 3) := by decide +kernel
theorem dM_isLeft_80 : decode bM_isLeft 80 = .ok (.lload 7, 2) := by decide +kernel
theorem dM_isLeft_82 : decode bM_isLeft 82 = .ok (.lload 9, 2) := by decide +kernel
theorem dM_isLeft_84 : decode bM_isLeft 84 = .ok (.lcmp, 1) := by decide +kernel
theorem dM_isLeft_85 : decode bM_isLeft 85 = .ok (.ifCond .gt (7), 3) := by decide +kernel
theorem dM_isLeft_88 : decode bM_isLeft 88 = .ok (.iconst 1, 1) := by decide +kernel
theorem dM_isLeft_89 : decode bM_isLeft 89 = .ok (.goto (20), 3) := by decide +kernel
theorem dM_isLeft_92 : decode bM_isLeft 92 = .ok (.iconst 0, 1) := by decide +kernel
theorem dM_isLeft_93 : decode bM_isLeft 93 = .ok (.goto (16), 3) := by decide +kernel
theorem dM_isLeft_96 : decode bM_isLeft 96 = .ok (.lload 7, 2) := by decide +kernel
theorem dM_isLeft_98 : decode bM_isLeft 98 = .ok (.lload 9, 2) := by decide +kernel
theorem dM_isLeft_100 : decode bM_isLeft 100 = .ok (.lcmp, 1) := by decide +kernel
theorem dM_isLeft_101 : decode bM_isLeft 101 = .ok (.ifCond .lt (7), 3) := by decide +kernel
theorem dM_isLeft_104 : decode bM_isLeft 104 = .ok (.iconst 1, 1) := by decide +kernel
theorem dM_isLeft_105 : decode bM_isLeft 105 = .ok (.goto (4), 3) := by decide +kernel
theorem dM_isLeft_108 : decode bM_isLeft 108 = .ok (.iconst 0, 1) := by decide +kernel
theorem dM_isLeft_109 : decode bM_isLeft 109 = .ok (.ireturn, 1) := by decide +kernel
theorem dM_windings_0 : decode bM_windings 0 = .ok (.iconst 0, 1) := by decide +kernel
theorem dM_windings_1 : decode bM_windings 1 = .ok (.istore_n 3, 1) := by decide +kernel
theorem dM_windings_2 : decode bM_windings 2 = .ok (.iconst 0, 1) := by decide +kernel
theorem dM_windings_3 : decode bM_windings 3 = .ok (.istore 4, 2) := by decide +kernel
theorem dM_windings_5 : decode bM_windings 5 = .ok (.iload 4, 2) := by decide +kernel
theorem dM_windings_7 : decode bM_windings 7 = .ok (.aload_n 0, 1) := by decide +kernel
theorem dM_windings_8 : decode bM_windings 8 = .ok (.getfield 65, 3) := by decide +kernel
theorem dM_windings_11 : decode bM_windings 11 = .ok (.if_icmp .ge (64), 3) := by decide +kernel
theorem dM_windings_14 : decode bM_windings 14 = .ok (.aload_n 0, 1) := by decide +kernel
theorem dM_windings_15 : decode bM_windings 15 = .ok (.getfield 28, 3) := by decide +kernel
theorem dM_windings_18 : decode bM_windings 18 = .ok (.iload 4, 2) := by decide +kernel
theorem dM_windings_20 : decode bM_windings 20 = .ok (.iaload, 1) := by decide +kernel
theorem dM_windings_21 : decode bM_windings 21 = .ok (.istore 5, 2) := by decide +kernel
theorem dM_windings_23 : decode bM_windings 23 = .ok (.aload_n 0, 1) := by decide +kernel
theorem dM_windings_24 : decode bM_windings 24 = .ok (.iload 5, 2) := by decide +kernel
theorem dM_windings_26 : decode bM_windings 26 = .ok (.iload_n 1, 1) := by decide +kernel
theorem dM_windings_27 : decode bM_windings 27 = .ok (.invokestatic 61, 3) := by decide +kernel
theorem dM_windings_30 : decode bM_windings 30 = .ok (.iload_n 2, 1) := by decide +kernel
theorem dM_windings_31 : decode bM_windings 31 = .ok (.invokestatic 61, 3) := by decide +kernel
theorem dM_windings_34 : decode bM_windings 34 = .ok (.invokevirtual 71, 3) := by decide +kernel
theorem dM_windings_37 : decode bM_windings 37 = .ok (.ifCond .eq (32), 3) := by decide +kernel
theorem dM_windings_40 : decode bM_windings 40 = .ok (.iload_n 3, 1) := by decide +kernel
theorem dM_windings_41 : decode bM_windings 41 = .ok (.aload_n 0, 1) := by decide +kernel
theorem dM_windings_42 : decode bM_windings 42 = .ok (.getfield 22, 3) := by decide +kernel
theorem dM_windings_45 : decode bM_windings 45 = .ok (.aload_n 0, 1) := by decide +kernel
theorem dM_windings_46 : decode bM_windings 46 = .ok (.iload 5, 2) := by decide +kernel
theorem dM_windings_48 : decode bM_windings 48 = .ok (.invokevirtual 68, 3) := by decide +kernel
theorem dM_windings_51 : decode bM_windings 51 = .ok (.iaload, 1) := by decide +kernel
theorem dM_windings_52 : decode bM_windings 52 = .ok (.aload_n 0, 1) := by decide +kernel
theorem dM_windings_53 : decode bM_windings 53 = .ok (.getfield 22, 3) := by decide +kernel
theorem dM_windings_56 : decode bM_windings 56 = .ok (.iload 5, 2) := by decide +kernel
theorem dM_windings_58 : decode bM_windings 58 = .ok (.iaload, 1) := by decide +kernel
theorem dM_windings_59 : decode bM_windings 59 = .ok (.if_icmp .le (7), 3) := by decide +kernel
theorem dM_windings_62 : decode bM_windings 62 = .ok (.iconst 1, 1) := by decide +kernel
theorem dM_windings_63 : decode bM_windings 63 = .ok (.goto (4), 3) := by decide +kernel
theorem dM_windings_66 : decode bM_windings 66 = .ok (.iconst (-1), 1) := by decide +kernel
theorem dM_windings_67 : decode bM_windings 67 = .ok (.iadd, 1) := by decide +kernel
theorem dM_windings_68 : decode bM_windings 68 = .ok (.istore_n 3, 1) := by decide +kernel
theorem dM_windings_69 : decode bM_windings 69 = .ok (.iinc 4 (1), 3) := by decide +kernel
theorem dM_windings_72 : decode bM_windings 72 = .ok (.goto (-67), 3) := by decide +kernel
theorem dM_windings_75 : decode bM_windings 75 = .ok (.iload_n 3, 1) := by decide +kernel
theorem dM_windings_76 : decode bM_windings 76 = .ok (.ireturn, 1) := by decide +kernel
theorem dM_isPixel_0 : decode bM_isPixel 0 = .ok (.iload_n 1, 1) := by decide +kernel
theorem dM_isPixel_1 : decode bM_isPixel 1 = .ok (.ifCond .lt (27), 3) := by decide +kernel
theorem dM_isPixel_4 : decode bM_isPixel 4 = .ok (.iload_n 1, 1) := by decide +kernel
theorem dM_isPixel_5 : decode bM_isPixel 5 = .ok (.aload_n 0, 1) := by decide +kernel
theorem dM_isPixel_6 : decode bM_isPixel 6 = .ok (.getfield 35, 3) := by decide +kernel
theorem dM_isPixel_9 : decode bM_isPixel 9 = .ok (.if_icmp .ge (19), 3) := by decide +kernel
theorem dM_isPixel_12 : decode bM_isPixel 12 = .ok (.iload_n 2, 1) := by decide +kernel
theorem dM_isPixel_13 : decode bM_isPixel 13 = .ok (.ifCond .lt (15), 3) := by decide +kernel
theorem dM_isPixel_16 : decode bM_isPixel 16 = .ok (.iload_n 2, 1) := by decide +kernel
theorem dM_isPixel_17 : decode bM_isPixel 17 = .ok (.aload_n 0, 1) := by decide +kernel
theorem dM_isPixel_18 : decode bM_isPixel 18 = .ok (.getfield 39, 3) := by decide +kernel
theorem dM_isPixel_21 : decode bM_isPixel 21 = .ok (.if_icmp .ge (7), 3) := by decide +kernel
theorem dM_isPixel_24 : decode bM_isPixel 24 = .ok (.iconst 1, 1) := by decide +kernel
theorem dM_isPixel_25 : decode bM_isPixel 25 = .ok (.goto (4), 3) := by decide +kernel
theorem dM_isPixel_28 : decode bM_isPixel 28 = .ok (.iconst 0, 1) := by decide +kernel
theorem dM_isPixel_29 : decode bM_isPixel 29 = .ok (.ireturn, 1) := by decide +kernel
theorem dM_at_0 : decode bM_at 0 = .ok (.sipush (256), 3) := by decide +kernel
theorem dM_at_3 : decode bM_at 3 = .ok (.iload_n 1, 1) := by decide +kernel
theorem dM_at_4 : decode bM_at 4 = .ok (.imul, 1) := by decide +kernel
theorem dM_at_5 : decode bM_at 5 = .ok (.iload_n 0, 1) := by decide +kernel
theorem dM_at_6 : decode bM_at 6 = .ok (.iadd, 1) := by decide +kernel
theorem dM_at_7 : decode bM_at 7 = .ok (.ireturn, 1) := by decide +kernel
theorem dM_winding_0 : decode bM_winding 0 = .ok (.aload_n 0, 1) := by decide +kernel
theorem dM_winding_1 : decode bM_winding 1 = .ok (.iload_n 1, 1) := by decide +kernel
theorem dM_winding_2 : decode bM_winding 2 = .ok (.iload_n 2, 1) := by decide +kernel
theorem dM_winding_3 : decode bM_winding 3 = .ok (.invokevirtual 75, 3) := by decide +kernel
theorem dM_winding_6 : decode bM_winding 6 = .ok (.ifCond .ne (5), 3) := by decide +kernel
theorem dM_winding_9 : decode bM_winding 9 = .ok (.iconst 0, 1) := by decide +kernel
theorem dM_winding_10 : decode bM_winding 10 = .ok (.ireturn, 1) := by decide +kernel
theorem dM_winding_11 : decode bM_winding 11 = .ok (.aload_n 0, 1) := by decide +kernel
theorem dM_winding_12 : decode bM_winding 12 = .ok (.iload_n 2, 1) := by decide +kernel
theorem dM_winding_13 : decode bM_winding 13 = .ok (.invokevirtual 79, 3) := by decide +kernel
theorem dM_winding_16 : decode bM_winding 16 = .ok (.aload_n 0, 1) := by decide +kernel
theorem dM_winding_17 : decode bM_winding 17 = .ok (.iload_n 1, 1) := by decide +kernel
theorem dM_winding_18 : decode bM_winding 18 = .ok (.iload_n 2, 1) := by decide +kernel
theorem dM_winding_19 : decode bM_winding 19 = .ok (.invokevirtual 83, 3) := by decide +kernel
theorem dM_winding_22 : decode bM_winding 22 = .ok (.ireturn, 1) := by decide +kernel
theorem dM_isInside_0 : decode bM_isInside 0 = .ok (.iload_n 1, 1) := by decide +kernel
theorem dM_isInside_1 : decode bM_isInside 1 = .ok (.ifCond .ne (15), 3) := by decide +kernel
theorem dM_isInside_4 : decode bM_isInside 4 = .ok (.iload_n 0, 1) := by decide +kernel
theorem dM_isInside_5 : decode bM_isInside 5 = .ok (.ifCond .eq (7), 3) := by decide +kernel
theorem dM_isInside_8 : decode bM_isInside 8 = .ok (.iconst 1, 1) := by decide +kernel
theorem dM_isInside_9 : decode bM_isInside 9 = .ok (.goto (18), 3) := by decide +kernel
theorem dM_isInside_12 : decode bM_isInside 12 = .ok (.iconst 0, 1) := by decide +kernel
theorem dM_isInside_13 : decode bM_isInside 13 = .ok (.goto (14), 3) := by decide +kernel
theorem dM_isInside_16 : decode bM_isInside 16 = .ok (.iload_n 0, 1) := by decide +kernel
theorem dM_isInside_17 : decode bM_isInside 17 = .ok (.iconst 2, 1) := by decide +kernel
theorem dM_isInside_18 : decode bM_isInside 18 = .ok (.irem, 1) := by decide +kernel
theorem dM_isInside_19 : decode bM_isInside 19 = .ok (.ifCond .eq (7), 3) := by decide +kernel
theorem dM_isInside_22 : decode bM_isInside 22 = .ok (.iconst 1, 1) := by decide +kernel
theorem dM_isInside_23 : decode bM_isInside 23 = .ok (.goto (4), 3) := by decide +kernel
theorem dM_isInside_26 : decode bM_isInside 26 = .ok (.iconst 0, 1) := by decide +kernel
theorem dM_isInside_27 : decode bM_isInside 27 = .ok (.ireturn, 1) := by decide +kernel
theorem dM_isOpen_0 : decode bM_isOpen 0 = .ok (.aload_n 0, 1) := by decide +kernel
theorem dM_isOpen_1 : decode bM_isOpen 1 = .ok (.getfield 14, 3) := by decide +kernel
theorem dM_isOpen_4 : decode bM_isOpen 4 = .ok (.iload_n 1, 1) := by decide +kernel
theorem dM_isOpen_5 : decode bM_isOpen 5 = .ok (.saload, 1) := by decide +kernel
theorem dM_isOpen_6 : decode bM_isOpen 6 = .ok (.iload_n 2, 1) := by decide +kernel
theorem dM_isOpen_7 : decode bM_isOpen 7 = .ok (.ishr, 1) := by decide +kernel
theorem dM_isOpen_8 : decode bM_isOpen 8 = .ok (.iconst 1, 1) := by decide +kernel
theorem dM_isOpen_9 : decode bM_isOpen 9 = .ok (.iand, 1) := by decide +kernel
theorem dM_isOpen_10 : decode bM_isOpen 10 = .ok (.iconst 1, 1) := by decide +kernel
theorem dM_isOpen_11 : decode bM_isOpen 11 = .ok (.if_icmp .ne (7), 3) := by decide +kernel
theorem dM_isOpen_14 : decode bM_isOpen 14 = .ok (.iconst 1, 1) := by decide +kernel
theorem dM_isOpen_15 : decode bM_isOpen 15 = .ok (.goto (4), 3) := by decide +kernel
theorem dM_isOpen_18 : decode bM_isOpen 18 = .ok (.iconst 0, 1) := by decide +kernel
theorem dM_isOpen_19 : decode bM_isOpen 19 = .ok (.ireturn, 1) := by decide +kernel
theorem dM_setOpen_0 : decode bM_setOpen 0 = .ok (.aload_n 0, 1) := by decide +kernel
theorem dM_setOpen_1 : decode bM_setOpen 1 = .ok (.getfield 14, 3) := by decide +kernel
theorem dM_setOpen_4 : decode bM_setOpen 4 = .ok (.iload_n 1, 1) := by decide +kernel
theorem dM_setOpen_5 : decode bM_setOpen 5 = .ok (.saload, 1) := by decide +kernel
theorem dM_setOpen_6 : decode bM_setOpen 6 = .ok (.iconst 1, 1) := by decide +kernel
theorem dM_setOpen_7 : decode bM_setOpen 7 = .ok (.iload_n 2, 1) := by decide +kernel
theorem dM_setOpen_8 : decode bM_setOpen 8 = .ok (.ishl, 1) := by decide +kernel
theorem dM_setOpen_9 : decode bM_setOpen 9 = .ok (.iconst (-1), 1) := by decide +kernel
theorem dM_setOpen_10 : decode bM_setOpen 10 = .ok (.ixor, 1) := by decide +kernel
theorem dM_setOpen_11 : decode bM_setOpen 11 = .ok (.iand, 1) := by decide +kernel
theorem dM_setOpen_12 : decode bM_setOpen 12 = .ok (.istore 4, 2) := by decide +kernel
theorem dM_setOpen_14 : decode bM_setOpen 14 = .ok (.aload_n 0, 1) := by decide +kernel
theorem dM_setOpen_15 : decode bM_setOpen 15 = .ok (.getfield 14, 3) := by decide +kernel
theorem dM_setOpen_18 : decode bM_setOpen 18 = .ok (.iload_n 1, 1) := by decide +kernel
theorem dM_setOpen_19 : decode bM_setOpen 19 = .ok (.iload_n 3, 1) := by decide +kernel
theorem dM_setOpen_20 : decode bM_setOpen 20 = .ok (.ifCond .eq (12), 3) := by decide +kernel
theorem dM_setOpen_23 : decode bM_setOpen 23 = .ok (.iload 4, 2) := by decide +kernel
theorem dM_setOpen_25 : decode bM_setOpen 25 = .ok (.iconst 1, 1) := by decide +kernel
theorem dM_setOpen_26 : decode bM_setOpen 26 = .ok (.iload_n 2, 1) := by decide +kernel
theorem dM_setOpen_27 : decode bM_setOpen 27 = .ok (.ishl, 1) := by decide +kernel
theorem dM_setOpen_28 : decode bM_setOpen 28 = .ok (.ior, 1) := by decide +kernel
theorem dM_setOpen_29 : decode bM_setOpen 29 = .ok (.goto (5), 3) := by decide +kernel
theorem dM_setOpen_32 : decode bM_setOpen 32 = .ok (.iload 4, 2) := by decide +kernel
theorem dM_setOpen_34 : decode bM_setOpen 34 = .ok (.i2s, 1) := by decide +kernel
theorem dM_setOpen_35 : decode bM_setOpen 35 = .ok (.sastore, 1) := by decide +kernel
theorem dM_setOpen_36 : decode bM_setOpen 36 = .ok (.return_, 1) := by decide +kernel
theorem dM_runsOf_0 : decode bM_runsOf 0 = .ok (.iconst 0, 1) := by decide +kernel
theorem dM_runsOf_1 : decode bM_runsOf 1 = .ok (.istore_n 2, 1) := by decide +kernel
theorem dM_runsOf_2 : decode bM_runsOf 2 = .ok (.iconst 0, 1) := by decide +kernel
theorem dM_runsOf_3 : decode bM_runsOf 3 = .ok (.istore_n 3, 1) := by decide +kernel
theorem dM_runsOf_4 : decode bM_runsOf 4 = .ok (.iload_n 3, 1) := by decide +kernel
theorem dM_runsOf_5 : decode bM_runsOf 5 = .ok (.aload_n 0, 1) := by decide +kernel
theorem dM_runsOf_6 : decode bM_runsOf 6 = .ok (.getfield 39, 3) := by decide +kernel
theorem dM_runsOf_9 : decode bM_runsOf 9 = .ok (.if_icmp .ge (65), 3) := by decide +kernel
theorem dM_runsOf_12 : decode bM_runsOf 12 = .ok (.iconst 0, 1) := by decide +kernel
theorem dM_runsOf_13 : decode bM_runsOf 13 = .ok (.istore 4, 2) := by decide +kernel
theorem dM_runsOf_15 : decode bM_runsOf 15 = .ok (.iload 4, 2) := by decide +kernel
theorem dM_runsOf_17 : decode bM_runsOf 17 = .ok (.aload_n 0, 1) := by decide +kernel
theorem dM_runsOf_18 : decode bM_runsOf 18 = .ok (.getfield 35, 3) := by decide +kernel
theorem dM_runsOf_21 : decode bM_runsOf 21 = .ok (.if_icmp .ge (47), 3) := by decide +kernel
theorem dM_runsOf_24 : decode bM_runsOf 24 = .ok (.aload_n 0, 1) := by decide +kernel
theorem dM_runsOf_25 : decode bM_runsOf 25 = .ok (.iload 4, 2) := by decide +kernel
theorem dM_runsOf_27 : decode bM_runsOf 27 = .ok (.iload_n 3, 1) := by decide +kernel
theorem dM_runsOf_28 : decode bM_runsOf 28 = .ok (.invokestatic 87, 3) := by decide +kernel
theorem dM_runsOf_31 : decode bM_runsOf 31 = .ok (.iload_n 1, 1) := by decide +kernel
theorem dM_runsOf_32 : decode bM_runsOf 32 = .ok (.invokevirtual 90, 3) := by decide +kernel
theorem dM_runsOf_35 : decode bM_runsOf 35 = .ok (.ifCond .eq (27), 3) := by decide +kernel
theorem dM_runsOf_38 : decode bM_runsOf 38 = .ok (.iload 4, 2) := by decide +kernel
theorem dM_runsOf_40 : decode bM_runsOf 40 = .ok (.ifCond .eq (19), 3) := by decide +kernel
theorem dM_runsOf_43 : decode bM_runsOf 43 = .ok (.aload_n 0, 1) := by decide +kernel
theorem dM_runsOf_44 : decode bM_runsOf 44 = .ok (.iload 4, 2) := by decide +kernel
theorem dM_runsOf_46 : decode bM_runsOf 46 = .ok (.iconst 1, 1) := by decide +kernel
theorem dM_runsOf_47 : decode bM_runsOf 47 = .ok (.isub, 1) := by decide +kernel
theorem dM_runsOf_48 : decode bM_runsOf 48 = .ok (.iload_n 3, 1) := by decide +kernel
theorem dM_runsOf_49 : decode bM_runsOf 49 = .ok (.invokestatic 87, 3) := by decide +kernel
theorem dM_runsOf_52 : decode bM_runsOf 52 = .ok (.iload_n 1, 1) := by decide +kernel
theorem dM_runsOf_53 : decode bM_runsOf 53 = .ok (.invokevirtual 90, 3) := by decide +kernel
theorem dM_runsOf_56 : decode bM_runsOf 56 = .ok (.ifCond .ne (6), 3) := by decide +kernel
theorem dM_runsOf_59 : decode bM_runsOf 59 = .ok (.iinc 2 (1), 3) := by decide +kernel
theorem dM_runsOf_62 : decode bM_runsOf 62 = .ok (.iinc 4 (1), 3) := by decide +kernel
theorem dM_runsOf_65 : decode bM_runsOf 65 = .ok (.goto (-50), 3) := by decide +kernel
theorem dM_runsOf_68 : decode bM_runsOf 68 = .ok (.iinc 3 (1), 3) := by decide +kernel
theorem dM_runsOf_71 : decode bM_runsOf 71 = .ok (.goto (-67), 3) := by decide +kernel
theorem dM_runsOf_74 : decode bM_runsOf 74 = .ok (.iload_n 2, 1) := by decide +kernel
theorem dM_runsOf_75 : decode bM_runsOf 75 = .ok (.ireturn, 1) := by decide +kernel
theorem dM_runsTo_0 : decode bM_runsTo 0 = .ok (.iconst 0, 1) := by decide +kernel
theorem dM_runsTo_1 : decode bM_runsTo 1 = .ok (.istore_n 2, 1) := by decide +kernel
theorem dM_runsTo_2 : decode bM_runsTo 2 = .ok (.iconst 0, 1) := by decide +kernel
theorem dM_runsTo_3 : decode bM_runsTo 3 = .ok (.istore_n 3, 1) := by decide +kernel
theorem dM_runsTo_4 : decode bM_runsTo 4 = .ok (.iload_n 3, 1) := by decide +kernel
theorem dM_runsTo_5 : decode bM_runsTo 5 = .ok (.iload_n 1, 1) := by decide +kernel
theorem dM_runsTo_6 : decode bM_runsTo 6 = .ok (.if_icmp .ge (17), 3) := by decide +kernel
theorem dM_runsTo_9 : decode bM_runsTo 9 = .ok (.iload_n 2, 1) := by decide +kernel
theorem dM_runsTo_10 : decode bM_runsTo 10 = .ok (.aload_n 0, 1) := by decide +kernel
theorem dM_runsTo_11 : decode bM_runsTo 11 = .ok (.iload_n 3, 1) := by decide +kernel
theorem dM_runsTo_12 : decode bM_runsTo 12 = .ok (.invokevirtual 93, 3) := by decide +kernel
theorem dM_runsTo_15 : decode bM_runsTo 15 = .ok (.iadd, 1) := by decide +kernel
theorem dM_runsTo_16 : decode bM_runsTo 16 = .ok (.istore_n 2, 1) := by decide +kernel
theorem dM_runsTo_17 : decode bM_runsTo 17 = .ok (.iinc 3 (1), 3) := by decide +kernel
theorem dM_runsTo_20 : decode bM_runsTo 20 = .ok (.goto (-16), 3) := by decide +kernel
theorem dM_runsTo_23 : decode bM_runsTo 23 = .ok (.iload_n 2, 1) := by decide +kernel
theorem dM_runsTo_24 : decode bM_runsTo 24 = .ok (.ireturn, 1) := by decide +kernel
theorem dM_pixels_0 : decode bM_pixels 0 = .ok (.iconst 0, 1) := by decide +kernel
theorem dM_pixels_1 : decode bM_pixels 1 = .ok (.istore_n 1, 1) := by decide +kernel
theorem dM_pixels_2 : decode bM_pixels 2 = .ok (.iconst 0, 1) := by decide +kernel
theorem dM_pixels_3 : decode bM_pixels 3 = .ok (.istore_n 2, 1) := by decide +kernel
theorem dM_pixels_4 : decode bM_pixels 4 = .ok (.iload_n 2, 1) := by decide +kernel
theorem dM_pixels_5 : decode bM_pixels 5 = .ok (.aload_n 0, 1) := by decide +kernel
theorem dM_pixels_6 : decode bM_pixels 6 = .ok (.getfield 39, 3) := by decide +kernel
theorem dM_pixels_9 : decode bM_pixels 9 = .ok (.if_icmp .ge (49), 3) := by decide +kernel
theorem dM_pixels_12 : decode bM_pixels 12 = .ok (.iconst 0, 1) := by decide +kernel
theorem dM_pixels_13 : decode bM_pixels 13 = .ok (.istore_n 3, 1) := by decide +kernel
theorem dM_pixels_14 : decode bM_pixels 14 = .ok (.iload_n 3, 1) := by decide +kernel
theorem dM_pixels_15 : decode bM_pixels 15 = .ok (.aload_n 0, 1) := by decide +kernel
theorem dM_pixels_16 : decode bM_pixels 16 = .ok (.getfield 35, 3) := by decide +kernel
theorem dM_pixels_19 : decode bM_pixels 19 = .ok (.if_icmp .ge (33), 3) := by decide +kernel
theorem dM_pixels_22 : decode bM_pixels 22 = .ok (.iload_n 1, 1) := by decide +kernel
theorem dM_pixels_23 : decode bM_pixels 23 = .ok (.aload_n 0, 1) := by decide +kernel
theorem dM_pixels_24 : decode bM_pixels 24 = .ok (.iload_n 3, 1) := by decide +kernel
theorem dM_pixels_25 : decode bM_pixels 25 = .ok (.iload_n 2, 1) := by decide +kernel
theorem dM_pixels_26 : decode bM_pixels 26 = .ok (.invokestatic 87, 3) := by decide +kernel
theorem dM_pixels_29 : decode bM_pixels 29 = .ok (.aload_n 0, 1) := by decide +kernel
theorem dM_pixels_30 : decode bM_pixels 30 = .ok (.getfield 96, 3) := by decide +kernel
theorem dM_pixels_33 : decode bM_pixels 33 = .ok (.invokevirtual 90, 3) := by decide +kernel
theorem dM_pixels_36 : decode bM_pixels 36 = .ok (.ifCond .eq (7), 3) := by decide +kernel
theorem dM_pixels_39 : decode bM_pixels 39 = .ok (.iconst 1, 1) := by decide +kernel
theorem dM_pixels_40 : decode bM_pixels 40 = .ok (.goto (4), 3) := by decide +kernel
theorem dM_pixels_43 : decode bM_pixels 43 = .ok (.iconst 0, 1) := by decide +kernel
theorem dM_pixels_44 : decode bM_pixels 44 = .ok (.iadd, 1) := by decide +kernel
theorem dM_pixels_45 : decode bM_pixels 45 = .ok (.istore_n 1, 1) := by decide +kernel
theorem dM_pixels_46 : decode bM_pixels 46 = .ok (.iinc 3 (1), 3) := by decide +kernel
theorem dM_pixels_49 : decode bM_pixels 49 = .ok (.goto (-35), 3) := by decide +kernel
theorem dM_pixels_52 : decode bM_pixels 52 = .ok (.iinc 2 (1), 3) := by decide +kernel
theorem dM_pixels_55 : decode bM_pixels 55 = .ok (.goto (-51), 3) := by decide +kernel
theorem dM_pixels_58 : decode bM_pixels 58 = .ok (.iload_n 1, 1) := by decide +kernel
theorem dM_pixels_59 : decode bM_pixels 59 = .ok (.ireturn, 1) := by decide +kernel
theorem dM_runs_0 : decode bM_runs 0 = .ok (.aload_n 0, 1) := by decide +kernel
theorem dM_runs_1 : decode bM_runs 1 = .ok (.aload_n 0, 1) := by decide +kernel
theorem dM_runs_2 : decode bM_runs 2 = .ok (.getfield 96, 3) := by decide +kernel
theorem dM_runs_5 : decode bM_runs 5 = .ok (.iconst 1, 1) := by decide +kernel
theorem dM_runs_6 : decode bM_runs 6 = .ok (.iadd, 1) := by decide +kernel
theorem dM_runs_7 : decode bM_runs 7 = .ok (.invokevirtual 106, 3) := by decide +kernel
theorem dM_runs_10 : decode bM_runs 10 = .ok (.ireturn, 1) := by decide +kernel
theorem dM_gray_0 : decode bM_gray 0 = .ok (.aload_n 0, 1) := by decide +kernel
theorem dM_gray_1 : decode bM_gray 1 = .ok (.iload_n 1, 1) := by decide +kernel
theorem dM_gray_2 : decode bM_gray 2 = .ok (.iload_n 2, 1) := by decide +kernel
theorem dM_gray_3 : decode bM_gray 3 = .ok (.invokevirtual 75, 3) := by decide +kernel
theorem dM_gray_6 : decode bM_gray 6 = .ok (.ifCond .eq (20), 3) := by decide +kernel
theorem dM_gray_9 : decode bM_gray 9 = .ok (.aload_n 0, 1) := by decide +kernel
theorem dM_gray_10 : decode bM_gray 10 = .ok (.getfield 8, 3) := by decide +kernel
theorem dM_gray_13 : decode bM_gray 13 = .ok (.iload_n 1, 1) := by decide +kernel
theorem dM_gray_14 : decode bM_gray 14 = .ok (.iload_n 2, 1) := by decide +kernel
theorem dM_gray_15 : decode bM_gray 15 = .ok (.invokestatic 87, 3) := by decide +kernel
theorem dM_gray_18 : decode bM_gray 18 = .ok (.baload, 1) := by decide +kernel
theorem dM_gray_19 : decode bM_gray 19 = .ok (.sipush (255), 3) := by decide +kernel
theorem dM_gray_22 : decode bM_gray 22 = .ok (.iand, 1) := by decide +kernel
theorem dM_gray_23 : decode bM_gray 23 = .ok (.goto (4), 3) := by decide +kernel
theorem dM_gray_26 : decode bM_gray 26 = .ok (.iconst (-1), 1) := by decide +kernel
theorem dM_gray_27 : decode bM_gray 27 = .ok (.ireturn, 1) := by decide +kernel
theorem dM_open_0 : decode bM_open 0 = .ok (.aload_n 0, 1) := by decide +kernel
theorem dM_open_1 : decode bM_open 1 = .ok (.iload_n 1, 1) := by decide +kernel
theorem dM_open_2 : decode bM_open 2 = .ok (.iload_n 2, 1) := by decide +kernel
theorem dM_open_3 : decode bM_open 3 = .ok (.invokevirtual 75, 3) := by decide +kernel
theorem dM_open_6 : decode bM_open 6 = .ok (.ifCond .ne (5), 3) := by decide +kernel
theorem dM_open_9 : decode bM_open 9 = .ok (.iconst (-1), 1) := by decide +kernel
theorem dM_open_10 : decode bM_open 10 = .ok (.ireturn, 1) := by decide +kernel
theorem dM_open_11 : decode bM_open 11 = .ok (.aload_n 0, 1) := by decide +kernel
theorem dM_open_12 : decode bM_open 12 = .ok (.iload_n 1, 1) := by decide +kernel
theorem dM_open_13 : decode bM_open 13 = .ok (.iload_n 2, 1) := by decide +kernel
theorem dM_open_14 : decode bM_open 14 = .ok (.invokestatic 87, 3) := by decide +kernel
theorem dM_open_17 : decode bM_open 17 = .ok (.aload_n 0, 1) := by decide +kernel
theorem dM_open_18 : decode bM_open 18 = .ok (.getfield 96, 3) := by decide +kernel
theorem dM_open_21 : decode bM_open 21 = .ok (.invokevirtual 90, 3) := by decide +kernel
theorem dM_open_24 : decode bM_open 24 = .ok (.ifCond .eq (7), 3) := by decide +kernel
theorem dM_open_27 : decode bM_open 27 = .ok (.iconst 1, 1) := by decide +kernel
theorem dM_open_28 : decode bM_open 28 = .ok (.goto (4), 3) := by decide +kernel
theorem dM_open_31 : decode bM_open 31 = .ok (.iconst 0, 1) := by decide +kernel
theorem dM_open_32 : decode bM_open 32 = .ok (.ireturn, 1) := by decide +kernel
theorem dM_count_0 : decode bM_count 0 = .ok (.iload_n 1, 1) := by decide +kernel
theorem dM_count_1 : decode bM_count 1 = .ok (.ifCond .lt (11), 3) := by decide +kernel
theorem dM_count_4 : decode bM_count 4 = .ok (.iload_n 1, 1) := by decide +kernel
theorem dM_count_5 : decode bM_count 5 = .ok (.aload_n 0, 1) := by decide +kernel
theorem dM_count_6 : decode bM_count 6 = .ok (.getfield 39, 3) := by decide +kernel
theorem dM_count_9 : decode bM_count 9 = .ok (.if_icmp .lt (5), 3) := by decide +kernel
theorem dM_count_12 : decode bM_count 12 = .ok (.iconst (-1), 1) := by decide +kernel
theorem dM_count_13 : decode bM_count 13 = .ok (.ireturn, 1) := by decide +kernel
theorem dM_count_14 : decode bM_count 14 = .ok (.iconst 0, 1) := by decide +kernel
theorem dM_count_15 : decode bM_count 15 = .ok (.istore_n 3, 1) := by decide +kernel
theorem dM_count_16 : decode bM_count 16 = .ok (.iconst 0, 1) := by decide +kernel
theorem dM_count_17 : decode bM_count 17 = .ok (.istore 4, 2) := by decide +kernel
theorem dM_count_19 : decode bM_count 19 = .ok (.iload 4, 2) := by decide +kernel
theorem dM_count_21 : decode bM_count 21 = .ok (.aload_n 0, 1) := by decide +kernel
theorem dM_count_22 : decode bM_count 22 = .ok (.getfield 35, 3) := by decide +kernel
theorem dM_count_25 : decode bM_count 25 = .ok (.if_icmp .ge (36), 3) := by decide +kernel
theorem dM_count_28 : decode bM_count 28 = .ok (.iload_n 3, 1) := by decide +kernel
theorem dM_count_29 : decode bM_count 29 = .ok (.aload_n 0, 1) := by decide +kernel
theorem dM_count_30 : decode bM_count 30 = .ok (.getfield 8, 3) := by decide +kernel
theorem dM_count_33 : decode bM_count 33 = .ok (.iload 4, 2) := by decide +kernel
theorem dM_count_35 : decode bM_count 35 = .ok (.iload_n 1, 1) := by decide +kernel
theorem dM_count_36 : decode bM_count 36 = .ok (.invokestatic 87, 3) := by decide +kernel
theorem dM_count_39 : decode bM_count 39 = .ok (.baload, 1) := by decide +kernel
theorem dM_count_40 : decode bM_count 40 = .ok (.sipush (255), 3) := by decide +kernel
theorem dM_count_43 : decode bM_count 43 = .ok (.iand, 1) := by decide +kernel
theorem dM_count_44 : decode bM_count 44 = .ok (.iload_n 2, 1) := by decide +kernel
theorem dM_count_45 : decode bM_count 45 = .ok (.if_icmp .ne (7), 3) := by decide +kernel
theorem dM_count_48 : decode bM_count 48 = .ok (.iconst 1, 1) := by decide +kernel
theorem dM_count_49 : decode bM_count 49 = .ok (.goto (4), 3) := by decide +kernel
theorem dM_count_52 : decode bM_count 52 = .ok (.iconst 0, 1) := by decide +kernel
theorem dM_count_53 : decode bM_count 53 = .ok (.iadd, 1) := by decide +kernel
theorem dM_count_54 : decode bM_count 54 = .ok (.istore_n 3, 1) := by decide +kernel
theorem dM_count_55 : decode bM_count 55 = .ok (.iinc 4 (1), 3) := by decide +kernel
theorem dM_count_58 : decode bM_count 58 = .ok (.goto (-39), 3) := by decide +kernel
theorem dM_count_61 : decode bM_count 61 = .ok (.iload_n 3, 1) := by decide +kernel
theorem dM_count_62 : decode bM_count 62 = .ok (.ireturn, 1) := by decide +kernel
theorem dM_flood_0 : decode bM_flood 0 = .ok (.iload_n 1, 1) := by decide +kernel
theorem dM_flood_1 : decode bM_flood 1 = .ok (.ifCond .lt (10), 3) := by decide +kernel
theorem dM_flood_4 : decode bM_flood 4 = .ok (.iload_n 1, 1) := by decide +kernel
theorem dM_flood_5 : decode bM_flood 5 = .ok (.sipush (255), 3) := by decide +kernel
theorem dM_flood_8 : decode bM_flood 8 = .ok (.if_icmp .le (5), 3) := by decide +kernel
theorem dM_flood_11 : decode bM_flood 11 = .ok (.iconst (-1), 1) := by decide +kernel
theorem dM_flood_12 : decode bM_flood 12 = .ok (.ireturn, 1) := by decide +kernel
theorem dM_flood_13 : decode bM_flood 13 = .ok (.iconst 0, 1) := by decide +kernel
theorem dM_flood_14 : decode bM_flood 14 = .ok (.istore_n 2, 1) := by decide +kernel
theorem dM_flood_15 : decode bM_flood 15 = .ok (.iconst 0, 1) := by decide +kernel
theorem dM_flood_16 : decode bM_flood 16 = .ok (.istore_n 3, 1) := by decide +kernel
theorem dM_flood_17 : decode bM_flood 17 = .ok (.iload_n 3, 1) := by decide +kernel
theorem dM_flood_18 : decode bM_flood 18 = .ok (.aload_n 0, 1) := by decide +kernel
theorem dM_flood_19 : decode bM_flood 19 = .ok (.getfield 39, 3) := by decide +kernel
theorem dM_flood_22 : decode bM_flood 22 = .ok (.if_icmp .ge (63), 3) := by decide +kernel
theorem dM_flood_25 : decode bM_flood 25 = .ok (.iconst 0, 1) := by decide +kernel
theorem dM_flood_26 : decode bM_flood 26 = .ok (.istore 4, 2) := by decide +kernel
theorem dM_flood_28 : decode bM_flood 28 = .ok (.iload 4, 2) := by decide +kernel
theorem dM_flood_30 : decode bM_flood 30 = .ok (.aload_n 0, 1) := by decide +kernel
theorem dM_flood_31 : decode bM_flood 31 = .ok (.getfield 35, 3) := by decide +kernel
theorem dM_flood_34 : decode bM_flood 34 = .ok (.if_icmp .ge (45), 3) := by decide +kernel
theorem dM_flood_37 : decode bM_flood 37 = .ok (.aload_n 0, 1) := by decide +kernel
theorem dM_flood_38 : decode bM_flood 38 = .ok (.iload 4, 2) := by decide +kernel
theorem dM_flood_40 : decode bM_flood 40 = .ok (.iload_n 3, 1) := by decide +kernel
theorem dM_flood_41 : decode bM_flood 41 = .ok (.invokestatic 87, 3) := by decide +kernel
theorem dM_flood_44 : decode bM_flood 44 = .ok (.aload_n 0, 1) := by decide +kernel
theorem dM_flood_45 : decode bM_flood 45 = .ok (.getfield 96, 3) := by decide +kernel
theorem dM_flood_48 : decode bM_flood 48 = .ok (.invokevirtual 90, 3) := by decide +kernel
theorem dM_flood_51 : decode bM_flood 51 = .ok (.ifCond .ne (6), 3) := by decide +kernel
theorem dM_flood_54 : decode bM_flood 54 = .ok (.goto (19), 3) := by decide +kernel
theorem dM_flood_57 : decode bM_flood 57 = .ok (.aload_n 0, 1) := by decide +kernel
theorem dM_flood_58 : decode bM_flood 58 = .ok (.getfield 8, 3) := by decide +kernel
theorem dM_flood_61 : decode bM_flood 61 = .ok (.iload 4, 2) := by decide +kernel
theorem dM_flood_63 : decode bM_flood 63 = .ok (.iload_n 3, 1) := by decide +kernel
theorem dM_flood_64 : decode bM_flood 64 = .ok (.invokestatic 87, 3) := by decide +kernel
theorem dM_flood_67 : decode bM_flood 67 = .ok (.iload_n 1, 1) := by decide +kernel
theorem dM_flood_68 : decode bM_flood 68 = .ok (.i2b, 1) := by decide +kernel
theorem dM_flood_69 : decode bM_flood 69 = .ok (.bastore, 1) := by decide +kernel
theorem dM_flood_70 : decode bM_flood 70 = .ok (.iinc 2 (1), 3) := by decide +kernel
theorem dM_flood_73 : decode bM_flood 73 = .ok (.iinc 4 (1), 3) := by decide +kernel
theorem dM_flood_76 : decode bM_flood 76 = .ok (.goto (-48), 3) := by decide +kernel
theorem dM_flood_79 : decode bM_flood 79 = .ok (.iinc 3 (1), 3) := by decide +kernel
theorem dM_flood_82 : decode bM_flood 82 = .ok (.goto (-65), 3) := by decide +kernel
theorem dM_flood_85 : decode bM_flood 85 = .ok (.iload_n 2, 1) := by decide +kernel
theorem dM_flood_86 : decode bM_flood 86 = .ok (.ireturn, 1) := by decide +kernel
theorem dM_fill_0 : decode bM_fill 0 = .ok (.iload_n 1, 1) := by decide +kernel
theorem dM_fill_1 : decode bM_fill 1 = .ok (.ifCond .lt (19), 3) := by decide +kernel
theorem dM_fill_4 : decode bM_fill 4 = .ok (.iload_n 1, 1) := by decide +kernel
theorem dM_fill_5 : decode bM_fill 5 = .ok (.iconst 1, 1) := by decide +kernel
theorem dM_fill_6 : decode bM_fill 6 = .ok (.if_icmp .gt (14), 3) := by decide +kernel
theorem dM_fill_9 : decode bM_fill 9 = .ok (.iload_n 2, 1) := by decide +kernel
theorem dM_fill_10 : decode bM_fill 10 = .ok (.ifCond .lt (10), 3) := by decide +kernel
theorem dM_fill_13 : decode bM_fill 13 = .ok (.iload_n 2, 1) := by decide +kernel
theorem dM_fill_14 : decode bM_fill 14 = .ok (.sipush (255), 3) := by decide +kernel
theorem dM_fill_17 : decode bM_fill 17 = .ok (.if_icmp .le (5), 3) := by decide +kernel
theorem dM_fill_20 : decode bM_fill 20 = .ok (.iconst (-1), 1) := by decide +kernel
theorem dM_fill_21 : decode bM_fill 21 = .ok (.ireturn, 1) := by decide +kernel
theorem dM_fill_22 : decode bM_fill 22 = .ok (.iconst 0, 1) := by decide +kernel
theorem dM_fill_23 : decode bM_fill 23 = .ok (.istore_n 3, 1) := by decide +kernel
theorem dM_fill_24 : decode bM_fill 24 = .ok (.iconst 0, 1) := by decide +kernel
theorem dM_fill_25 : decode bM_fill 25 = .ok (.istore 4, 2) := by decide +kernel
theorem dM_fill_27 : decode bM_fill 27 = .ok (.iload 4, 2) := by decide +kernel
theorem dM_fill_29 : decode bM_fill 29 = .ok (.aload_n 0, 1) := by decide +kernel
theorem dM_fill_30 : decode bM_fill 30 = .ok (.getfield 39, 3) := by decide +kernel
theorem dM_fill_33 : decode bM_fill 33 = .ok (.if_icmp .ge (86), 3) := by decide +kernel
theorem dM_fill_36 : decode bM_fill 36 = .ok (.aload_n 0, 1) := by decide +kernel
theorem dM_fill_37 : decode bM_fill 37 = .ok (.iload 4, 2) := by decide +kernel
theorem dM_fill_39 : decode bM_fill 39 = .ok (.invokevirtual 79, 3) := by decide +kernel
theorem dM_fill_42 : decode bM_fill 42 = .ok (.iconst 0, 1) := by decide +kernel
theorem dM_fill_43 : decode bM_fill 43 = .ok (.istore 5, 2) := by decide +kernel
theorem dM_fill_45 : decode bM_fill 45 = .ok (.iload 5, 2) := by decide +kernel
theorem dM_fill_47 : decode bM_fill 47 = .ok (.aload_n 0, 1) := by decide +kernel
theorem dM_fill_48 : decode bM_fill 48 = .ok (.getfield 35, 3) := by decide +kernel
theorem dM_fill_51 : decode bM_fill 51 = .ok (.if_icmp .ge (62), 3) := by decide +kernel
theorem dM_fill_54 : decode bM_fill 54 = .ok (.aload_n 0, 1) := by decide +kernel
theorem dM_fill_55 : decode bM_fill 55 = .ok (.iload 5, 2) := by decide +kernel
theorem dM_fill_57 : decode bM_fill 57 = .ok (.iload 4, 2) := by decide +kernel
theorem dM_fill_59 : decode bM_fill 59 = .ok (.invokestatic 87, 3) := by decide +kernel
theorem dM_fill_62 : decode bM_fill 62 = .ok (.aload_n 0, 1) := by decide +kernel
theorem dM_fill_63 : decode bM_fill 63 = .ok (.getfield 96, 3) := by decide +kernel
theorem dM_fill_66 : decode bM_fill 66 = .ok (.invokevirtual 90, 3) := by decide +kernel
theorem dM_fill_69 : decode bM_fill 69 = .ok (.ifCond .eq (38), 3) := by decide +kernel
theorem dM_fill_72 : decode bM_fill 72 = .ok (.aload_n 0, 1) := by decide +kernel
theorem dM_fill_73 : decode bM_fill 73 = .ok (.iload 5, 2) := by decide +kernel
theorem dM_fill_75 : decode bM_fill 75 = .ok (.iload 4, 2) := by decide +kernel
theorem dM_fill_77 : decode bM_fill 77 = .ok (.invokevirtual 83, 3) := by decide +kernel
theorem dM_fill_80 : decode bM_fill 80 = .ok (.iload_n 1, 1) := by decide +kernel
theorem dM_fill_81 : decode bM_fill 81 = .ok (.invokestatic 99, 3) := by decide +kernel
theorem dM_fill_84 : decode bM_fill 84 = .ok (.ifCond .ne (6), 3) := by decide +kernel
theorem dM_fill_87 : decode bM_fill 87 = .ok (.goto (20), 3) := by decide +kernel
theorem dM_fill_90 : decode bM_fill 90 = .ok (.aload_n 0, 1) := by decide +kernel
theorem dM_fill_91 : decode bM_fill 91 = .ok (.getfield 8, 3) := by decide +kernel
theorem dM_fill_94 : decode bM_fill 94 = .ok (.iload 5, 2) := by decide +kernel
theorem dM_fill_96 : decode bM_fill 96 = .ok (.iload 4, 2) := by decide +kernel
theorem dM_fill_98 : decode bM_fill 98 = .ok (.invokestatic 87, 3) := by decide +kernel
theorem dM_fill_101 : decode bM_fill 101 = .ok (.iload_n 2, 1) := by decide +kernel
theorem dM_fill_102 : decode bM_fill 102 = .ok (.i2b, 1) := by decide +kernel
theorem dM_fill_103 : decode bM_fill 103 = .ok (.bastore, 1) := by decide +kernel
theorem dM_fill_104 : decode bM_fill 104 = .ok (.iinc 3 (1), 3) := by decide +kernel
theorem dM_fill_107 : decode bM_fill 107 = .ok (.iinc 5 (1), 3) := by decide +kernel
theorem dM_fill_110 : decode bM_fill 110 = .ok (.goto (-65), 3) := by decide +kernel
theorem dM_fill_113 : decode bM_fill 113 = .ok (.iinc 4 (1), 3) := by decide +kernel
theorem dM_fill_116 : decode bM_fill 116 = .ok (.goto (-89), 3) := by decide +kernel
theorem dM_fill_119 : decode bM_fill 119 = .ok (.iload_n 3, 1) := by decide +kernel
theorem dM_fill_120 : decode bM_fill 120 = .ok (.ireturn, 1) := by decide +kernel
theorem dM_restore_0 : decode bM_restore 0 = .ok (.aload_n 0, 1) := by decide +kernel
theorem dM_restore_1 : decode bM_restore 1 = .ok (.getfield 96, 3) := by decide +kernel
theorem dM_restore_4 : decode bM_restore 4 = .ok (.ifCond .ne (6), 3) := by decide +kernel
theorem dM_restore_7 : decode bM_restore 7 = .ok (.bipush (-2), 2) := by decide +kernel
theorem dM_restore_9 : decode bM_restore 9 = .ok (.ireturn, 1) := by decide +kernel
theorem dM_restore_10 : decode bM_restore 10 = .ok (.aload_n 0, 1) := by decide +kernel
theorem dM_restore_11 : decode bM_restore 11 = .ok (.dup, 1) := by decide +kernel
theorem dM_restore_12 : decode bM_restore 12 = .ok (.getfield 96, 3) := by decide +kernel
theorem dM_restore_15 : decode bM_restore 15 = .ok (.iconst 1, 1) := by decide +kernel
theorem dM_restore_16 : decode bM_restore 16 = .ok (.isub, 1) := by decide +kernel
theorem dM_restore_17 : decode bM_restore 17 = .ok (.putfield 96, 3) := by decide +kernel
theorem dM_restore_20 : decode bM_restore 20 = .ok (.aload_n 0, 1) := by decide +kernel
theorem dM_restore_21 : decode bM_restore 21 = .ok (.getfield 96, 3) := by decide +kernel
theorem dM_restore_24 : decode bM_restore 24 = .ok (.ireturn, 1) := by decide +kernel
theorem dM_save_0 : decode bM_save 0 = .ok (.aload_n 0, 1) := by decide +kernel
theorem dM_save_1 : decode bM_save 1 = .ok (.getfield 96, 3) := by decide +kernel
theorem dM_save_4 : decode bM_save 4 = .ok (.bipush (12), 2) := by decide +kernel
theorem dM_save_6 : decode bM_save 6 = .ok (.if_icmp .eq (28), 3) := by decide +kernel
theorem dM_save_9 : decode bM_save 9 = .ok (.aload_n 0, 1) := by decide +kernel
theorem dM_save_10 : decode bM_save 10 = .ok (.aload_n 0, 1) := by decide +kernel
theorem dM_save_11 : decode bM_save 11 = .ok (.getfield 96, 3) := by decide +kernel
theorem dM_save_14 : decode bM_save 14 = .ok (.iconst 1, 1) := by decide +kernel
theorem dM_save_15 : decode bM_save 15 = .ok (.iadd, 1) := by decide +kernel
theorem dM_save_16 : decode bM_save 16 = .ok (.invokevirtual 106, 3) := by decide +kernel
theorem dM_save_19 : decode bM_save 19 = .ok (.aload_n 0, 1) := by decide +kernel
theorem dM_save_20 : decode bM_save 20 = .ok (.aload_n 0, 1) := by decide +kernel
theorem dM_save_21 : decode bM_save 21 = .ok (.getfield 96, 3) := by decide +kernel
theorem dM_save_24 : decode bM_save 24 = .ok (.invokevirtual 93, 3) := by decide +kernel
theorem dM_save_27 : decode bM_save 27 = .ok (.iadd, 1) := by decide +kernel
theorem dM_save_28 : decode bM_save 28 = .ok (.sipush (24000), 3) := by decide +kernel
theorem dM_save_31 : decode bM_save 31 = .ok (.if_icmp .le (6), 3) := by decide +kernel
theorem dM_save_34 : decode bM_save 34 = .ok (.bipush (-3), 2) := by decide +kernel
theorem dM_save_36 : decode bM_save 36 = .ok (.ireturn, 1) := by decide +kernel
theorem dM_save_37 : decode bM_save 37 = .ok (.iconst 0, 1) := by decide +kernel
theorem dM_save_38 : decode bM_save 38 = .ok (.istore_n 1, 1) := by decide +kernel
theorem dM_save_39 : decode bM_save 39 = .ok (.iload_n 1, 1) := by decide +kernel
theorem dM_save_40 : decode bM_save 40 = .ok (.ldc 7, 2) := by decide +kernel
theorem dM_save_42 : decode bM_save 42 = .ok (.if_icmp .ge (29), 3) := by decide +kernel
theorem dM_save_45 : decode bM_save 45 = .ok (.aload_n 0, 1) := by decide +kernel
theorem dM_save_46 : decode bM_save 46 = .ok (.iload_n 1, 1) := by decide +kernel
theorem dM_save_47 : decode bM_save 47 = .ok (.aload_n 0, 1) := by decide +kernel
theorem dM_save_48 : decode bM_save 48 = .ok (.getfield 96, 3) := by decide +kernel
theorem dM_save_51 : decode bM_save 51 = .ok (.iconst 1, 1) := by decide +kernel
theorem dM_save_52 : decode bM_save 52 = .ok (.iadd, 1) := by decide +kernel
theorem dM_save_53 : decode bM_save 53 = .ok (.aload_n 0, 1) := by decide +kernel
theorem dM_save_54 : decode bM_save 54 = .ok (.iload_n 1, 1) := by decide +kernel
theorem dM_save_55 : decode bM_save 55 = .ok (.aload_n 0, 1) := by decide +kernel
theorem dM_save_56 : decode bM_save 56 = .ok (.getfield 96, 3) := by decide +kernel
theorem dM_save_59 : decode bM_save 59 = .ok (.invokevirtual 90, 3) := by decide +kernel
theorem dM_save_62 : decode bM_save 62 = .ok (.invokevirtual 102, 3) := by decide +kernel
theorem dM_save_65 : decode bM_save 65 = .ok (.iinc 1 (1), 3) := by decide +kernel
theorem dM_save_68 : decode bM_save 68 = .ok (.goto (-29), 3) := by decide +kernel
theorem dM_save_71 : decode bM_save 71 = .ok (.aload_n 0, 1) := by decide +kernel
theorem dM_save_72 : decode bM_save 72 = .ok (.dup, 1) := by decide +kernel
theorem dM_save_73 : decode bM_save 73 = .ok (.getfield 96, 3) := by decide +kernel
theorem dM_save_76 : decode bM_save 76 = .ok (.iconst 1, 1) := by decide +kernel
theorem dM_save_77 : decode bM_save 77 = .ok (.iadd, 1) := by decide +kernel
theorem dM_save_78 : decode bM_save 78 = .ok (.putfield 96, 3) := by decide +kernel
theorem dM_save_81 : decode bM_save 81 = .ok (.aload_n 0, 1) := by decide +kernel
theorem dM_save_82 : decode bM_save 82 = .ok (.getfield 96, 3) := by decide +kernel
theorem dM_save_85 : decode bM_save 85 = .ok (.ireturn, 1) := by decide +kernel
theorem dM_clip_0 : decode bM_clip 0 = .ok (.iload_n 1, 1) := by decide +kernel
theorem dM_clip_1 : decode bM_clip 1 = .ok (.ifCond .lt (8), 3) := by decide +kernel
theorem dM_clip_4 : decode bM_clip 4 = .ok (.iload_n 1, 1) := by decide +kernel
theorem dM_clip_5 : decode bM_clip 5 = .ok (.iconst 1, 1) := by decide +kernel
theorem dM_clip_6 : decode bM_clip 6 = .ok (.if_icmp .le (5), 3) := by decide +kernel
theorem dM_clip_9 : decode bM_clip 9 = .ok (.iconst (-1), 1) := by decide +kernel
theorem dM_clip_10 : decode bM_clip 10 = .ok (.ireturn, 1) := by decide +kernel
theorem dM_clip_11 : decode bM_clip 11 = .ok (.iconst 0, 1) := by decide +kernel
theorem dM_clip_12 : decode bM_clip 12 = .ok (.istore_n 2, 1) := by decide +kernel
theorem dM_clip_13 : decode bM_clip 13 = .ok (.iload_n 2, 1) := by decide +kernel
theorem dM_clip_14 : decode bM_clip 14 = .ok (.aload_n 0, 1) := by decide +kernel
theorem dM_clip_15 : decode bM_clip 15 = .ok (.getfield 39, 3) := by decide +kernel
theorem dM_clip_18 : decode bM_clip 18 = .ok (.if_icmp .ge (79), 3) := by decide +kernel
theorem dM_clip_21 : decode bM_clip 21 = .ok (.aload_n 0, 1) := by decide +kernel
theorem dM_clip_22 : decode bM_clip 22 = .ok (.iload_n 2, 1) := by decide +kernel
theorem dM_clip_23 : decode bM_clip 23 = .ok (.invokevirtual 79, 3) := by decide +kernel
theorem dM_clip_26 : decode bM_clip 26 = .ok (.iconst 0, 1) := by decide +kernel
theorem dM_clip_27 : decode bM_clip 27 = .ok (.istore_n 3, 1) := by decide +kernel
theorem dM_clip_28 : decode bM_clip 28 = .ok (.iload_n 3, 1) := by decide +kernel
theorem dM_clip_29 : decode bM_clip 29 = .ok (.aload_n 0, 1) := by decide +kernel
theorem dM_clip_30 : decode bM_clip 30 = .ok (.getfield 35, 3) := by decide +kernel
theorem dM_clip_33 : decode bM_clip 33 = .ok (.if_icmp .ge (58), 3) := by decide +kernel
theorem dM_clip_36 : decode bM_clip 36 = .ok (.aload_n 0, 1) := by decide +kernel
theorem dM_clip_37 : decode bM_clip 37 = .ok (.iload_n 3, 1) := by decide +kernel
theorem dM_clip_38 : decode bM_clip 38 = .ok (.iload_n 2, 1) := by decide +kernel
theorem dM_clip_39 : decode bM_clip 39 = .ok (.invokestatic 87, 3) := by decide +kernel
theorem dM_clip_42 : decode bM_clip 42 = .ok (.aload_n 0, 1) := by decide +kernel
theorem dM_clip_43 : decode bM_clip 43 = .ok (.getfield 96, 3) := by decide +kernel
theorem dM_clip_46 : decode bM_clip 46 = .ok (.iconst 1, 1) := by decide +kernel
theorem dM_clip_47 : decode bM_clip 47 = .ok (.iadd, 1) := by decide +kernel
theorem dM_clip_48 : decode bM_clip 48 = .ok (.aload_n 0, 1) := by decide +kernel
theorem dM_clip_49 : decode bM_clip 49 = .ok (.iload_n 3, 1) := by decide +kernel
theorem dM_clip_50 : decode bM_clip 50 = .ok (.iload_n 2, 1) := by decide +kernel
theorem dM_clip_51 : decode bM_clip 51 = .ok (.invokestatic 87, 3) := by decide +kernel
theorem dM_clip_54 : decode bM_clip 54 = .ok (.aload_n 0, 1) := by decide +kernel
theorem dM_clip_55 : decode bM_clip 55 = .ok (.getfield 96, 3) := by decide +kernel
theorem dM_clip_58 : decode bM_clip 58 = .ok (.invokevirtual 90, 3) := by decide +kernel
theorem dM_clip_61 : decode bM_clip 61 = .ok (.ifCond .eq (20), 3) := by decide +kernel
theorem dM_clip_64 : decode bM_clip 64 = .ok (.aload_n 0, 1) := by decide +kernel
theorem dM_clip_65 : decode bM_clip 65 = .ok (.iload_n 3, 1) := by decide +kernel
theorem dM_clip_66 : decode bM_clip 66 = .ok (.iload_n 2, 1) := by decide +kernel
theorem dM_clip_67 : decode bM_clip 67 = .ok (.invokevirtual 83, 3) := by decide +kernel
theorem dM_clip_70 : decode bM_clip 70 = .ok (.iload_n 1, 1) := by decide +kernel
theorem dM_clip_71 : decode bM_clip 71 = .ok (.invokestatic 99, 3) := by decide +kernel
theorem dM_clip_74 : decode bM_clip 74 = .ok (.ifCond .eq (7), 3) := by decide +kernel
theorem dM_clip_77 : decode bM_clip 77 = .ok (.iconst 1, 1) := by decide +kernel
theorem dM_clip_78 : decode bM_clip 78 = .ok (.goto (4), 3) := by decide +kernel
theorem dM_clip_81 : decode bM_clip 81 = .ok (.iconst 0, 1) := by decide +kernel
theorem dM_clip_82 : decode bM_clip 82 = .ok (.invokevirtual 102, 3) := by decide +kernel
theorem dM_clip_85 : decode bM_clip 85 = .ok (.iinc 3 (1), 3) := by decide +kernel
theorem dM_clip_88 : decode bM_clip 88 = .ok (.goto (-60), 3) := by decide +kernel
theorem dM_clip_91 : decode bM_clip 91 = .ok (.iinc 2 (1), 3) := by decide +kernel
theorem dM_clip_94 : decode bM_clip 94 = .ok (.goto (-81), 3) := by decide +kernel
theorem dM_clip_97 : decode bM_clip 97 = .ok (.aload_n 0, 1) := by decide +kernel
theorem dM_clip_98 : decode bM_clip 98 = .ok (.aload_n 0, 1) := by decide +kernel
theorem dM_clip_99 : decode bM_clip 99 = .ok (.getfield 96, 3) := by decide +kernel
theorem dM_clip_102 : decode bM_clip 102 = .ok (.invokevirtual 106, 3) := by decide +kernel
theorem dM_clip_105 : decode bM_clip 105 = .ok (.aload_n 0, 1) := by decide +kernel
theorem dM_clip_106 : decode bM_clip 106 = .ok (.aload_n 0, 1) := by decide +kernel
theorem dM_clip_107 : decode bM_clip 107 = .ok (.getfield 96, 3) := by decide +kernel
theorem dM_clip_110 : decode bM_clip 110 = .ok (.iconst 1, 1) := by decide +kernel
theorem dM_clip_111 : decode bM_clip 111 = .ok (.iadd, 1) := by decide +kernel
theorem dM_clip_112 : decode bM_clip 112 = .ok (.invokevirtual 93, 3) := by decide +kernel
theorem dM_clip_115 : decode bM_clip 115 = .ok (.iadd, 1) := by decide +kernel
theorem dM_clip_116 : decode bM_clip 116 = .ok (.sipush (24000), 3) := by decide +kernel
theorem dM_clip_119 : decode bM_clip 119 = .ok (.if_icmp .le (6), 3) := by decide +kernel
theorem dM_clip_122 : decode bM_clip 122 = .ok (.bipush (-3), 2) := by decide +kernel
theorem dM_clip_124 : decode bM_clip 124 = .ok (.ireturn, 1) := by decide +kernel
theorem dM_clip_125 : decode bM_clip 125 = .ok (.iconst 0, 1) := by decide +kernel
theorem dM_clip_126 : decode bM_clip 126 = .ok (.istore_n 2, 1) := by decide +kernel
theorem dM_clip_127 : decode bM_clip 127 = .ok (.iload_n 2, 1) := by decide +kernel
theorem dM_clip_128 : decode bM_clip 128 = .ok (.aload_n 0, 1) := by decide +kernel
theorem dM_clip_129 : decode bM_clip 129 = .ok (.getfield 39, 3) := by decide +kernel
theorem dM_clip_132 : decode bM_clip 132 = .ok (.if_icmp .ge (53), 3) := by decide +kernel
theorem dM_clip_135 : decode bM_clip 135 = .ok (.iconst 0, 1) := by decide +kernel
theorem dM_clip_136 : decode bM_clip 136 = .ok (.istore_n 3, 1) := by decide +kernel
theorem dM_clip_137 : decode bM_clip 137 = .ok (.iload_n 3, 1) := by decide +kernel
theorem dM_clip_138 : decode bM_clip 138 = .ok (.aload_n 0, 1) := by decide +kernel
theorem dM_clip_139 : decode bM_clip 139 = .ok (.getfield 35, 3) := by decide +kernel
theorem dM_clip_142 : decode bM_clip 142 = .ok (.if_icmp .ge (37), 3) := by decide +kernel
theorem dM_clip_145 : decode bM_clip 145 = .ok (.aload_n 0, 1) := by decide +kernel
theorem dM_clip_146 : decode bM_clip 146 = .ok (.iload_n 3, 1) := by decide +kernel
theorem dM_clip_147 : decode bM_clip 147 = .ok (.iload_n 2, 1) := by decide +kernel
theorem dM_clip_148 : decode bM_clip 148 = .ok (.invokestatic 87, 3) := by decide +kernel
theorem dM_clip_151 : decode bM_clip 151 = .ok (.aload_n 0, 1) := by decide +kernel
theorem dM_clip_152 : decode bM_clip 152 = .ok (.getfield 96, 3) := by decide +kernel
theorem dM_clip_155 : decode bM_clip 155 = .ok (.aload_n 0, 1) := by decide +kernel
theorem dM_clip_156 : decode bM_clip 156 = .ok (.iload_n 3, 1) := by decide +kernel
theorem dM_clip_157 : decode bM_clip 157 = .ok (.iload_n 2, 1) := by decide +kernel
theorem dM_clip_158 : decode bM_clip 158 = .ok (.invokestatic 87, 3) := by decide +kernel
theorem dM_clip_161 : decode bM_clip 161 = .ok (.aload_n 0, 1) := by decide +kernel
theorem dM_clip_162 : decode bM_clip 162 = .ok (.getfield 96, 3) := by decide +kernel
theorem dM_clip_165 : decode bM_clip 165 = .ok (.iconst 1, 1) := by decide +kernel
theorem dM_clip_166 : decode bM_clip 166 = .ok (.iadd, 1) := by decide +kernel
theorem dM_clip_167 : decode bM_clip 167 = .ok (.invokevirtual 90, 3) := by decide +kernel
theorem dM_clip_170 : decode bM_clip 170 = .ok (.invokevirtual 102, 3) := by decide +kernel
theorem dM_clip_173 : decode bM_clip 173 = .ok (.iinc 3 (1), 3) := by decide +kernel
theorem dM_clip_176 : decode bM_clip 176 = .ok (.goto (-39), 3) := by decide +kernel
theorem dM_clip_179 : decode bM_clip 179 = .ok (.iinc 2 (1), 3) := by decide +kernel
theorem dM_clip_182 : decode bM_clip 182 = .ok (.goto (-55), 3) := by decide +kernel
theorem dM_clip_185 : decode bM_clip 185 = .ok (.aload_n 0, 1) := by decide +kernel
theorem dM_clip_186 : decode bM_clip 186 = .ok (.invokevirtual 109, 3) := by decide +kernel
theorem dM_clip_189 : decode bM_clip 189 = .ok (.ireturn, 1) := by decide +kernel
theorem dM_init_0 : decode bM_init 0 = .ok (.aload_n 0, 1) := by decide +kernel
theorem dM_init_1 : decode bM_init 1 = .ok (.invokespecial 1, 3) := by decide +kernel
theorem dM_init_4 : decode bM_init 4 = .ok (.aload_n 0, 1) := by decide +kernel
theorem dM_init_5 : decode bM_init 5 = .ok (.ldc 7, 2) := by decide +kernel
theorem dM_init_7 : decode bM_init 7 = .ok (.newarray .byte, 2) := by decide +kernel
theorem dM_init_9 : decode bM_init 9 = .ok (.putfield 8, 3) := by decide +kernel
theorem dM_init_12 : decode bM_init 12 = .ok (.aload_n 0, 1) := by decide +kernel
theorem dM_init_13 : decode bM_init 13 = .ok (.ldc 7, 2) := by decide +kernel
theorem dM_init_15 : decode bM_init 15 = .ok (.newarray .short, 2) := by decide +kernel
theorem dM_init_17 : decode bM_init 17 = .ok (.putfield 14, 3) := by decide +kernel
theorem dM_init_20 : decode bM_init 20 = .ok (.aload_n 0, 1) := by decide +kernel
theorem dM_init_21 : decode bM_init 21 = .ok (.sipush (4096), 3) := by decide +kernel
theorem dM_init_24 : decode bM_init 24 = .ok (.newarray .int, 2) := by decide +kernel
theorem dM_init_26 : decode bM_init 26 = .ok (.putfield 18, 3) := by decide +kernel
theorem dM_init_29 : decode bM_init 29 = .ok (.aload_n 0, 1) := by decide +kernel
theorem dM_init_30 : decode bM_init 30 = .ok (.sipush (4096), 3) := by decide +kernel
theorem dM_init_33 : decode bM_init 33 = .ok (.newarray .int, 2) := by decide +kernel
theorem dM_init_35 : decode bM_init 35 = .ok (.putfield 22, 3) := by decide +kernel
theorem dM_init_38 : decode bM_init 38 = .ok (.aload_n 0, 1) := by decide +kernel
theorem dM_init_39 : decode bM_init 39 = .ok (.sipush (4096), 3) := by decide +kernel
theorem dM_init_42 : decode bM_init 42 = .ok (.newarray .int, 2) := by decide +kernel
theorem dM_init_44 : decode bM_init 44 = .ok (.putfield 25, 3) := by decide +kernel
theorem dM_init_47 : decode bM_init 47 = .ok (.aload_n 0, 1) := by decide +kernel
theorem dM_init_48 : decode bM_init 48 = .ok (.sipush (4096), 3) := by decide +kernel
theorem dM_init_51 : decode bM_init 51 = .ok (.newarray .int, 2) := by decide +kernel
theorem dM_init_53 : decode bM_init 53 = .ok (.putfield 28, 3) := by decide +kernel
theorem dM_init_56 : decode bM_init 56 = .ok (.aload_n 0, 1) := by decide +kernel
theorem dM_init_57 : decode bM_init 57 = .ok (.iload_n 1, 1) := by decide +kernel
theorem dM_init_58 : decode bM_init 58 = .ok (.invokestatic 31, 3) := by decide +kernel
theorem dM_init_61 : decode bM_init 61 = .ok (.putfield 35, 3) := by decide +kernel
theorem dM_init_64 : decode bM_init 64 = .ok (.aload_n 0, 1) := by decide +kernel
theorem dM_init_65 : decode bM_init 65 = .ok (.iload_n 2, 1) := by decide +kernel
theorem dM_init_66 : decode bM_init 66 = .ok (.invokestatic 31, 3) := by decide +kernel
theorem dM_init_69 : decode bM_init 69 = .ok (.putfield 39, 3) := by decide +kernel
theorem dM_init_72 : decode bM_init 72 = .ok (.iconst 0, 1) := by decide +kernel
theorem dM_init_73 : decode bM_init 73 = .ok (.istore_n 3, 1) := by decide +kernel
theorem dM_init_74 : decode bM_init 74 = .ok (.iload_n 3, 1) := by decide +kernel
theorem dM_init_75 : decode bM_init 75 = .ok (.ldc 7, 2) := by decide +kernel
theorem dM_init_77 : decode bM_init 77 = .ok (.if_icmp .ge (23), 3) := by decide +kernel
theorem dM_init_80 : decode bM_init 80 = .ok (.aload_n 0, 1) := by decide +kernel
theorem dM_init_81 : decode bM_init 81 = .ok (.getfield 8, 3) := by decide +kernel
theorem dM_init_84 : decode bM_init 84 = .ok (.iload_n 3, 1) := by decide +kernel
theorem dM_init_85 : decode bM_init 85 = .ok (.iconst (-1), 1) := by decide +kernel
theorem dM_init_86 : decode bM_init 86 = .ok (.bastore, 1) := by decide +kernel
theorem dM_init_87 : decode bM_init 87 = .ok (.aload_n 0, 1) := by decide +kernel
theorem dM_init_88 : decode bM_init 88 = .ok (.getfield 14, 3) := by decide +kernel
theorem dM_init_91 : decode bM_init 91 = .ok (.iload_n 3, 1) := by decide +kernel
theorem dM_init_92 : decode bM_init 92 = .ok (.iconst 1, 1) := by decide +kernel
theorem dM_init_93 : decode bM_init 93 = .ok (.sastore, 1) := by decide +kernel
theorem dM_init_94 : decode bM_init 94 = .ok (.iinc 3 (1), 3) := by decide +kernel
theorem dM_init_97 : decode bM_init 97 = .ok (.goto (-23), 3) := by decide +kernel
theorem dM_init_100 : decode bM_init 100 = .ok (.return_, 1) := by decide +kernel
