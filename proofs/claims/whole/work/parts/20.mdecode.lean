theorem dM_side_0 : decode bM_side 0 = .ok (.iload_n 0, 1) := by decide +kernel
theorem dM_side_1 : decode bM_side 1 = .ok (.iconst 1, 1) := by decide +kernel
theorem dM_side_2 : decode bM_side 2 = .ok (.if_icmp .ge (7), 3) := by decide +kernel
theorem dM_side_5 : decode bM_side 5 = .ok (.iconst 1, 1) := by decide +kernel
theorem dM_side_6 : decode bM_side 6 = .ok (.goto (17), 3) := by decide +kernel
theorem dM_side_9 : decode bM_side 9 = .ok (.iload_n 0, 1) := by decide +kernel
theorem dM_side_10 : decode bM_side 10 = .ok (.sipush (256), 3) := by decide +kernel
theorem dM_side_13 : decode bM_side 13 = .ok (.if_icmp .le (9), 3) := by decide +kernel
theorem dM_side_16 : decode bM_side 16 = .ok (.sipush (256), 3) := by decide +kernel
theorem dM_side_19 : decode bM_side 19 = .ok (.goto (4), 3) := by decide +kernel
theorem dM_side_22 : decode bM_side 22 = .ok (.iload_n 0, 1) := by decide +kernel
theorem dM_side_23 : decode bM_side 23 = .ok (.ireturn, 1) := by decide +kernel
theorem dM_columns_0 : decode bM_columns 0 = .ok (.aload_n 0, 1) := by decide +kernel
theorem dM_columns_1 : decode bM_columns 1 = .ok (.getfield 35, 3) := by decide +kernel
theorem dM_columns_4 : decode bM_columns 4 = .ok (.ireturn, 1) := by decide +kernel
theorem dM_rows_0 : decode bM_rows 0 = .ok (.aload_n 0, 1) := by decide +kernel
theorem dM_rows_1 : decode bM_rows 1 = .ok (.getfield 39, 3) := by decide +kernel
theorem dM_rows_4 : decode bM_rows 4 = .ok (.ireturn, 1) := by decide +kernel
theorem dM_isPlace_0 : decode bM_isPlace 0 = .ok (.iload_n 0, 1) := by decide +kernel
theorem dM_isPlace_1 : decode bM_isPlace 1 = .ok (.i2l, 1) := by decide +kernel
theorem dM_isPlace_2 : decode bM_isPlace 2 = .ok (.ldc2_w 42, 3) := by decide +kernel
theorem dM_isPlace_5 : decode bM_isPlace 5 = .ok (.lcmp, 1) := by decide +kernel
theorem dM_isPlace_6 : decode bM_isPlace 6 = .ok (.ifCond .lt (16), 3) := by decide +kernel
theorem dM_isPlace_9 : decode bM_isPlace 9 = .ok (.iload_n 0, 1) := by decide +kernel
theorem dM_isPlace_10 : decode bM_isPlace 10 = .ok (.i2l, 1) := by decide +kernel
theorem dM_isPlace_11 : decode bM_isPlace 11 = .ok (.ldc2_w 44, 3) := by decide +kernel
theorem dM_isPlace_14 : decode bM_isPlace 14 = .ok (.lcmp, 1) := by decide +kernel
theorem dM_isPlace_15 : decode bM_isPlace 15 = .ok (.ifCond .gt (7), 3) := by decide +kernel
theorem dM_isPlace_18 : decode bM_isPlace 18 = .ok (.iconst 1, 1) := by decide +kernel
theorem dM_isPlace_19 : decode bM_isPlace 19 = .ok (.goto (4), 3) := by decide +kernel
theorem dM_isPlace_22 : decode bM_isPlace 22 = .ok (.iconst 0, 1) := by decide +kernel
theorem dM_isPlace_23 : decode bM_isPlace 23 = .ok (.ireturn, 1) := by decide +kernel
theorem dM_put_0 : decode bM_put 0 = .ok (.aload_n 0, 1) := by decide +kernel
theorem dM_put_1 : decode bM_put 1 = .ok (.getfield 46, 3) := by decide +kernel
theorem dM_put_4 : decode bM_put 4 = .ok (.sipush (4096), 3) := by decide +kernel
theorem dM_put_7 : decode bM_put 7 = .ok (.if_icmp .ne (6), 3) := by decide +kernel
theorem dM_put_10 : decode bM_put 10 = .ok (.bipush (-3), 2) := by decide +kernel
theorem dM_put_12 : decode bM_put 12 = .ok (.ireturn, 1) := by decide +kernel
theorem dM_put_13 : decode bM_put 13 = .ok (.aload_n 0, 1) := by decide +kernel
theorem dM_put_14 : decode bM_put 14 = .ok (.getfield 18, 3) := by decide +kernel
theorem dM_put_17 : decode bM_put 17 = .ok (.aload_n 0, 1) := by decide +kernel
theorem dM_put_18 : decode bM_put 18 = .ok (.getfield 46, 3) := by decide +kernel
theorem dM_put_21 : decode bM_put 21 = .ok (.iload_n 1, 1) := by decide +kernel
theorem dM_put_22 : decode bM_put 22 = .ok (.iastore, 1) := by decide +kernel
theorem dM_put_23 : decode bM_put 23 = .ok (.aload_n 0, 1) := by decide +kernel
theorem dM_put_24 : decode bM_put 24 = .ok (.getfield 22, 3) := by decide +kernel
theorem dM_put_27 : decode bM_put 27 = .ok (.aload_n 0, 1) := by decide +kernel
theorem dM_put_28 : decode bM_put 28 = .ok (.getfield 46, 3) := by decide +kernel
theorem dM_put_31 : decode bM_put 31 = .ok (.iload_n 2, 1) := by decide +kernel
theorem dM_put_32 : decode bM_put 32 = .ok (.iastore, 1) := by decide +kernel
theorem dM_put_33 : decode bM_put 33 = .ok (.aload_n 0, 1) := by decide +kernel
theorem dM_put_34 : decode bM_put 34 = .ok (.getfield 25, 3) := by decide +kernel
theorem dM_put_37 : decode bM_put 37 = .ok (.aload_n 0, 1) := by decide +kernel
theorem dM_put_38 : decode bM_put 38 = .ok (.getfield 46, 3) := by decide +kernel
theorem dM_put_41 : decode bM_put 41 = .ok (.iload_n 3, 1) := by decide +kernel
theorem dM_put_42 : decode bM_put 42 = .ok (.iastore, 1) := by decide +kernel
theorem dM_put_43 : decode bM_put 43 = .ok (.aload_n 0, 1) := by decide +kernel
theorem dM_put_44 : decode bM_put 44 = .ok (.dup, 1) := by decide +kernel
theorem dM_put_45 : decode bM_put 45 = .ok (.getfield 46, 3) := by decide +kernel
theorem dM_put_48 : decode bM_put 48 = .ok (.iconst 1, 1) := by decide +kernel
theorem dM_put_49 : decode bM_put 49 = .ok (.iadd, 1) := by decide +kernel
theorem dM_put_50 : decode bM_put 50 = .ok (.putfield 46, 3) := by decide +kernel
theorem dM_put_53 : decode bM_put 53 = .ok (.aload_n 0, 1) := by decide +kernel
theorem dM_put_54 : decode bM_put 54 = .ok (.getfield 46, 3) := by decide +kernel
theorem dM_put_57 : decode bM_put 57 = .ok (.ireturn, 1) := by decide +kernel
theorem dM_move_0 : decode bM_move 0 = .ok (.iload_n 1, 1) := by decide +kernel
theorem dM_move_1 : decode bM_move 1 = .ok (.invokestatic 49, 3) := by decide +kernel
theorem dM_move_4 : decode bM_move 4 = .ok (.ifCond .eq (23), 3) := by decide +kernel
theorem dM_move_7 : decode bM_move 7 = .ok (.iload_n 2, 1) := by decide +kernel
theorem dM_move_8 : decode bM_move 8 = .ok (.invokestatic 49, 3) := by decide +kernel
theorem dM_move_11 : decode bM_move 11 = .ok (.ifCond .eq (16), 3) := by decide +kernel
theorem dM_move_14 : decode bM_move 14 = .ok (.aload_n 0, 1) := by decide +kernel
theorem dM_move_15 : decode bM_move 15 = .ok (.iload_n 1, 1) := by decide +kernel
theorem dM_move_16 : decode bM_move 16 = .ok (.iload_n 2, 1) := by decide +kernel
theorem dM_move_17 : decode bM_move 17 = .ok (.aload_n 0, 1) := by decide +kernel
theorem dM_move_18 : decode bM_move 18 = .ok (.getfield 46, 3) := by decide +kernel
theorem dM_move_21 : decode bM_move 21 = .ok (.invokevirtual 53, 3) := by decide +kernel
theorem dM_move_24 : decode bM_move 24 = .ok (.goto (4), 3) := by decide +kernel
theorem dM_move_27 : decode bM_move 27 = .ok (.iconst (-1), 1) := by decide +kernel
theorem dM_move_28 : decode bM_move 28 = .ok (.ireturn, 1) := by decide +kernel
theorem dM_line_0 : decode bM_line 0 = .ok (.iload_n 1, 1) := by decide +kernel
theorem dM_line_1 : decode bM_line 1 = .ok (.invokestatic 49, 3) := by decide +kernel
theorem dM_line_4 : decode bM_line 4 = .ok (.ifCond .eq (10), 3) := by decide +kernel
theorem dM_line_7 : decode bM_line 7 = .ok (.iload_n 2, 1) := by decide +kernel
theorem dM_line_8 : decode bM_line 8 = .ok (.invokestatic 49, 3) := by decide +kernel
theorem dM_line_11 : decode bM_line 11 = .ok (.ifCond .ne (5), 3) := by decide +kernel
theorem dM_line_14 : decode bM_line 14 = .ok (.iconst (-1), 1) := by decide +kernel
theorem dM_line_15 : decode bM_line 15 = .ok (.ireturn, 1) := by decide +kernel
theorem dM_line_16 : decode bM_line 16 = .ok (.aload_n 0, 1) := by decide +kernel
theorem dM_line_17 : decode bM_line 17 = .ok (.getfield 46, 3) := by decide +kernel
theorem dM_line_20 : decode bM_line 20 = .ok (.ifCond .ne (8), 3) := by decide +kernel
theorem dM_line_23 : decode bM_line 23 = .ok (.bipush (-2), 2) := by decide +kernel
theorem dM_line_25 : decode bM_line 25 = .ok (.goto (20), 3) := by decide +kernel
theorem dM_line_28 : decode bM_line 28 = .ok (.aload_n 0, 1) := by decide +kernel
theorem dM_line_29 : decode bM_line 29 = .ok (.iload_n 1, 1) := by decide +kernel
theorem dM_line_30 : decode bM_line 30 = .ok (.iload_n 2, 1) := by decide +kernel
theorem dM_line_31 : decode bM_line 31 = .ok (.aload_n 0, 1) := by decide +kernel
theorem dM_line_32 : decode bM_line 32 = .ok (.getfield 25, 3) := by decide +kernel
theorem dM_line_35 : decode bM_line 35 = .ok (.aload_n 0, 1) := by decide +kernel
theorem dM_line_36 : decode bM_line 36 = .ok (.getfield 46, 3) := by decide +kernel
theorem dM_line_39 : decode bM_line 39 = .ok (.iconst 1, 1) := by decide +kernel
theorem dM_line_40 : decode bM_line 40 = .ok (.isub, 1) := by decide +kernel
theorem dM_line_41 : decode bM_line 41 = .ok (.iaload, 1) := by decide +kernel
theorem dM_line_42 : decode bM_line 42 = .ok (.invokevirtual 53, 3) := by decide +kernel
theorem dM_line_45 : decode bM_line 45 = .ok (.ireturn, 1) := by decide +kernel
theorem dM_clear_0 : decode bM_clear 0 = .ok (.aload_n 0, 1) := by decide +kernel
theorem dM_clear_1 : decode bM_clear 1 = .ok (.getfield 46, 3) := by decide +kernel
theorem dM_clear_4 : decode bM_clear 4 = .ok (.istore_n 1, 1) := by decide +kernel
theorem dM_clear_5 : decode bM_clear 5 = .ok (.aload_n 0, 1) := by decide +kernel
theorem dM_clear_6 : decode bM_clear 6 = .ok (.iconst 0, 1) := by decide +kernel
theorem dM_clear_7 : decode bM_clear 7 = .ok (.putfield 46, 3) := by decide +kernel
theorem dM_clear_10 : decode bM_clear 10 = .ok (.iload_n 1, 1) := by decide +kernel
theorem dM_clear_11 : decode bM_clear 11 = .ok (.ireturn, 1) := by decide +kernel
theorem dM_next_0 : decode bM_next 0 = .ok (.iload_n 1, 1) := by decide +kernel
theorem dM_next_1 : decode bM_next 1 = .ok (.iconst 1, 1) := by decide +kernel
theorem dM_next_2 : decode bM_next 2 = .ok (.iadd, 1) := by decide +kernel
theorem dM_next_3 : decode bM_next 3 = .ok (.aload_n 0, 1) := by decide +kernel
theorem dM_next_4 : decode bM_next 4 = .ok (.getfield 46, 3) := by decide +kernel
theorem dM_next_7 : decode bM_next 7 = .ok (.if_icmp .ge (26), 3) := by decide +kernel
theorem dM_next_10 : decode bM_next 10 = .ok (.aload_n 0, 1) := by decide +kernel
theorem dM_next_11 : decode bM_next 11 = .ok (.getfield 25, 3) := by decide +kernel
theorem dM_next_14 : decode bM_next 14 = .ok (.iload_n 1, 1) := by decide +kernel
theorem dM_next_15 : decode bM_next 15 = .ok (.iconst 1, 1) := by decide +kernel
theorem dM_next_16 : decode bM_next 16 = .ok (.iadd, 1) := by decide +kernel
theorem dM_next_17 : decode bM_next 17 = .ok (.iaload, 1) := by decide +kernel
theorem dM_next_18 : decode bM_next 18 = .ok (.aload_n 0, 1) := by decide +kernel
theorem dM_next_19 : decode bM_next 19 = .ok (.getfield 25, 3) := by decide +kernel
theorem dM_next_22 : decode bM_next 22 = .ok (.iload_n 1, 1) := by decide +kernel
theorem dM_next_23 : decode bM_next 23 = .ok (.iaload, 1) := by decide +kernel
theorem dM_next_24 : decode bM_next 24 = .ok (.if_icmp .ne (9), 3) := by decide +kernel
theorem dM_next_27 : decode bM_next 27 = .ok (.iload_n 1, 1) := by decide +kernel
theorem dM_next_28 : decode bM_next 28 = .ok (.iconst 1, 1) := by decide +kernel
theorem dM_next_29 : decode bM_next 29 = .ok (.iadd, 1) := by decide +kernel
theorem dM_next_30 : decode bM_next 30 = .ok (.goto (9), 3) := by decide +kernel
theorem dM_next_33 : decode bM_next 33 = .ok (.aload_n 0, 1) := by decide +kernel
theorem dM_next_34 : decode bM_next 34 = .ok (.getfield 25, 3) := by decide +kernel
theorem dM_next_37 : decode bM_next 37 = .ok (.iload_n 1, 1) := by decide +kernel
theorem dM_next_38 : decode bM_next 38 = .ok (.iaload, 1) := by decide +kernel
theorem dM_next_39 : decode bM_next 39 = .ok (.ireturn, 1) := by decide +kernel
theorem dM_centre_0 : decode bM_centre 0 = .ok (.ldc2_w 57, 3) := by decide +kernel
theorem dM_centre_3 : decode bM_centre 3 = .ok (.iload_n 0, 1) := by decide +kernel
theorem dM_centre_4 : decode bM_centre 4 = .ok (.i2l, 1) := by decide +kernel
theorem dM_centre_5 : decode bM_centre 5 = .ok (.lmul, 1) := by decide +kernel
theorem dM_centre_6 : decode bM_centre 6 = .ok (.ldc2_w 59, 3) := by decide +kernel
theorem dM_centre_9 : decode bM_centre 9 = .ok (.ladd, 1) := by decide +kernel
theorem dM_centre_10 : decode bM_centre 10 = .ok (.lreturn, 1) := by decide +kernel
theorem dM_meet_0 : decode bM_meet 0 = .ok (.iload_n 1, 1) := by decide +kernel
theorem dM_meet_1 : decode bM_meet 1 = .ok (.invokestatic 61, 3) := by decide +kernel
theorem dM_meet_4 : decode bM_meet 4 = .ok (.lstore_n 2, 1) := by decide +kernel
theorem dM_meet_5 : decode bM_meet 5 = .ok (.aload_n 0, 1) := by decide +kernel
theorem dM_meet_6 : decode bM_meet 6 = .ok (.iconst 0, 1) := by decide +kernel
theorem dM_meet_7 : decode bM_meet 7 = .ok (.putfield 65, 3) := by decide +kernel
theorem dM_meet_10 : decode bM_meet 10 = .ok (.iconst 0, 1) := by decide +kernel
theorem dM_meet_11 : decode bM_meet 11 = .ok (.istore 4, 2) := by decide +kernel
theorem dM_meet_13 : decode bM_meet 13 = .ok (.iload 4, 2) := by decide +kernel
theorem dM_meet_15 : decode bM_meet 15 = .ok (.aload_n 0, 1) := by decide +kernel
theorem dM_meet_16 : decode bM_meet 16 = .ok (.getfield 46, 3) := by decide +kernel
theorem dM_meet_19 : decode bM_meet 19 = .ok (.if_icmp .ge (81), 3) := by decide +kernel
theorem dM_meet_22 : decode bM_meet 22 = .ok (.aload_n 0, 1) := by decide +kernel
theorem dM_meet_23 : decode bM_meet 23 = .ok (.getfield 22, 3) := by decide +kernel
theorem dM_meet_26 : decode bM_meet 26 = .ok (.iload 4, 2) := by decide +kernel
theorem dM_meet_28 : decode bM_meet 28 = .ok (.iaload, 1) := by decide +kernel
theorem dM_meet_29 : decode bM_meet 29 = .ok (.i2l, 1) := by decide +kernel
theorem dM_meet_30 : decode bM_meet 30 = .ok (.lload_n 2, 1) := by decide +kernel
theorem dM_meet_31 : decode bM_meet 31 = .ok (.lcmp, 1) := by decide +kernel
theorem dM_meet_32 : decode bM_meet 32 = .ok (.ifCond .gt (7), 3) := by decide +kernel
theorem dM_meet_35 : decode bM_meet 35 = .ok (.iconst 1, 1) := by decide +kernel
theorem dM_meet_36 : decode bM_meet 36 = .ok (.goto (4), 3) := by decide +kernel
theorem dM_meet_39 : decode bM_meet 39 = .ok (.iconst 0, 1) := by decide +kernel
theorem dM_meet_40 : decode bM_meet 40 = .ok (.istore 5, 2) := by decide +kernel
theorem dM_meet_42 : decode bM_meet 42 = .ok (.aload_n 0, 1) := by decide +kernel
theorem dM_meet_43 : decode bM_meet 43 = .ok (.getfield 22, 3) := by decide +kernel
theorem dM_meet_46 : decode bM_meet 46 = .ok (.aload_n 0, 1) := by decide +kernel
theorem dM_meet_47 : decode bM_meet 47 = .ok (.iload 4, 2) := by decide +kernel
theorem dM_meet_49 : decode bM_meet 49 = .ok (.invokevirtual 68, 3) := by decide +kernel
theorem dM_meet_52 : decode bM_meet 52 = .ok (.iaload, 1) := by decide +kernel
theorem dM_meet_53 : decode bM_meet 53 = .ok (.i2l, 1) := by decide +kernel
theorem dM_meet_54 : decode bM_meet 54 = .ok (.lload_n 2, 1) := by decide +kernel
theorem dM_meet_55 : decode bM_meet 55 = .ok (.lcmp, 1) := by decide +kernel
theorem dM_meet_56 : decode bM_meet 56 = .ok (.ifCond .gt (7), 3) := by decide +kernel
theorem dM_meet_59 : decode bM_meet 59 = .ok (.iconst 1, 1) := by decide +kernel
theorem dM_meet_60 : decode bM_meet 60 = .ok (.goto (4), 3) := by decide +kernel
theorem dM_meet_63 : decode bM_meet 63 = .ok (.iconst 0, 1) := by decide +kernel
theorem dM_meet_64 : decode bM_meet 64 = .ok (.istore 6, 2) := by decide +kernel
theorem dM_meet_66 : decode bM_meet 66 = .ok (.iload 5, 2) := by decide +kernel
theorem dM_meet_68 : decode bM_meet 68 = .ok (.iload 6, 2) := by decide +kernel
theorem dM_meet_70 : decode bM_meet 70 = .ok (.if_icmp .eq (24), 3) := by decide +kernel
theorem dM_meet_73 : decode bM_meet 73 = .ok (.aload_n 0, 1) := by decide +kernel
theorem dM_meet_74 : decode bM_meet 74 = .ok (.getfield 28, 3) := by decide +kernel
theorem dM_meet_77 : decode bM_meet 77 = .ok (.aload_n 0, 1) := by decide +kernel
theorem dM_meet_78 : decode bM_meet 78 = .ok (.getfield 65, 3) := by decide +kernel
theorem dM_meet_81 : decode bM_meet 81 = .ok (.iload 4, 2) := by decide +kernel
theorem dM_meet_83 : decode bM_meet 83 = .ok (.iastore, 1) := by decide +kernel
theorem dM_meet_84 : decode bM_meet 84 = .ok (.aload_n 0, 1) := by decide +kernel
theorem dM_meet_85 : decode bM_meet 85 = .ok (.dup, 1) := by decide +kernel
theorem dM_meet_86 : decode bM_meet 86 = .ok (.getfield 65, 3) := by decide +kernel
theorem dM_meet_89 : decode bM_meet 89 = .ok (.iconst 1, 1) := by decide +kernel
theorem dM_meet_90 : decode bM_meet 90 = .ok (.iadd, 1) := by decide +kernel
theorem dM_meet_91 : decode bM_meet 91 = .ok (.putfield 65, 3) := by decide +kernel
theorem dM_meet_94 : decode bM_meet 94 = .ok (.iinc 4 (1), 3) := by decide +kernel
theorem dM_meet_97 : decode bM_meet 97 = .ok (.goto (-84), 3) := by decide +kernel
theorem dM_meet_100 : decode bM_meet 100 = .ok (.return_, 1) := by decide +kernel
theorem dM_isLeft_0 : decode bM_isLeft 0 = .ok (.aload_n 0, 1) := by decide +kernel
theorem dM_isLeft_1 : decode bM_isLeft 1 = .ok (.iload_n 1, 1) := by decide +kernel
theorem dM_isLeft_2 : decode bM_isLeft 2 = .ok (.invokevirtual 68, 3) := by decide +kernel
theorem dM_isLeft_5 : decode bM_isLeft 5 = .ok (.istore 6, 2) := by decide +kernel
theorem dM_isLeft_7 : decode bM_isLeft 7 = .ok (.aload_n 0, 1) := by decide +kernel
theorem dM_isLeft_8 : decode bM_isLeft 8 = .ok (.getfield 18, 3) := by decide +kernel
theorem dM_isLeft_11 : decode bM_isLeft 11 = .ok (.iload 6, 2) := by decide +kernel
theorem dM_isLeft_13 : decode bM_isLeft 13 = .ok (.iaload, 1) := by decide +kernel
theorem dM_isLeft_14 : decode bM_isLeft 14 = .ok (.i2l, 1) := by decide +kernel
theorem dM_isLeft_15 : decode bM_isLeft 15 = .ok (.aload_n 0, 1) := by decide +kernel
theorem dM_isLeft_16 : decode bM_isLeft 16 = .ok (.getfield 18, 3) := by decide +kernel
theorem dM_isLeft_19 : decode bM_isLeft 19 = .ok (.iload_n 1, 1) := by decide +kernel
theorem dM_isLeft_20 : decode bM_isLeft 20 = .ok (.iaload, 1) := by decide +kernel
theorem dM_isLeft_21 : decode bM_isLeft 21 = .ok (.i2l, 1) := by decide +kernel
theorem dM_isLeft_22 : decode bM_isLeft 22 = .ok (.lsub, 1) := by decide +kernel
theorem dM_isLeft_23 : decode bM_isLeft 23 = .ok (.lload 4, 2) := by decide +kernel
theorem dM_isLeft_25 : decode bM_isLeft 25 = .ok (.aload_n 0, 1) := by decide +kernel
theorem dM_isLeft_26 : decode bM_isLeft 26 = .ok (.getfield 22, 3) := by decide +kernel
theorem dM_isLeft_29 : decode bM_isLeft 29 = .ok (.iload_n 1, 1) := by decide +kernel
theorem dM_isLeft_30 : decode bM_isLeft 30 = .ok (.iaload, 1) := by decide +kernel
theorem dM_isLeft_31 : decode bM_isLeft 31 = .ok (.i2l, 1) := by decide +kernel
theorem dM_isLeft_32 : decode bM_isLeft 32 = .ok (.lsub, 1) := by decide +kernel
theorem dM_isLeft_33 : decode bM_isLeft 33 = .ok (.lmul, 1) := by decide +kernel
theorem dM_isLeft_34 : decode bM_isLeft 34 = .ok (.lstore 7, 2) := by decide +kernel
theorem dM_isLeft_36 : decode bM_isLeft 36 = .ok (.lload_n 2, 1) := by decide +kernel
theorem dM_isLeft_37 : decode bM_isLeft 37 = .ok (.aload_n 0, 1) := by decide +kernel
theorem dM_isLeft_38 : decode bM_isLeft 38 = .ok (.getfield 18, 3) := by decide +kernel
theorem dM_isLeft_41 : decode bM_isLeft 41 = .ok (.iload_n 1, 1) := by decide +kernel
theorem dM_isLeft_42 : decode bM_isLeft 42 = .ok (.iaload, 1) := by decide +kernel
theorem dM_isLeft_43 : decode bM_isLeft 43 = .ok (.i2l, 1) := by decide +kernel
theorem dM_isLeft_44 : decode bM_isLeft 44 = .ok (.lsub, 1) := by decide +kernel
theorem dM_isLeft_45 : decode bM_isLeft 45 = .ok (.aload_n 0, 1) := by decide +kernel
theorem dM_isLeft_46 : decode bM_isLeft 46 = .ok (.getfield 22, 3) := by decide +kernel
theorem dM_isLeft_49 : decode bM_isLeft 49 = .ok (.iload 6, 2) := by decide +kernel
theorem dM_isLeft_51 : decode bM_isLeft 51 = .ok (.iaload, 1) := by decide +kernel
theorem dM_isLeft_52 : decode bM_isLeft 52 = .ok (.i2l, 1) := by decide +kernel
theorem dM_isLeft_53 : decode bM_isLeft 53 = .ok (.aload_n 0, 1) := by decide +kernel
theorem dM_isLeft_54 : decode bM_isLeft 54 = .ok (.getfield 22, 3) := by decide +kernel
theorem dM_isLeft_57 : decode bM_isLeft 57 = .ok (.iload_n 1, 1) := by decide +kernel
theorem dM_isLeft_58 : decode bM_isLeft 58 = .ok (.iaload, 1) := by decide +kernel
theorem dM_isLeft_59 : decode bM_isLeft 59 = .ok (.i2l, 1) := by decide +kernel
theorem dM_isLeft_60 : decode bM_isLeft 60 = .ok (.lsub, 1) := by decide +kernel
theorem dM_isLeft_61 : decode bM_isLeft 61 = .ok (.lmul, 1) := by decide +kernel
theorem dM_isLeft_62 : decode bM_isLeft 62 = .ok (.lstore 9, 2) := by decide +kernel
theorem dM_isLeft_64 : decode bM_isLeft 64 = .ok (.aload_n 0, 1) := by decide +kernel
theorem dM_isLeft_65 : decode bM_isLeft 65 = .ok (.getfield 22, 3) := by decide +kernel
theorem dM_isLeft_68 : decode bM_isLeft 68 = .ok (.iload 6, 2) := by decide +kernel
theorem dM_isLeft_70 : decode bM_isLeft 70 = .ok (.iaload, 1) := by decide +kernel
theorem dM_isLeft_71 : decode bM_isLeft 71 = .ok (.aload_n 0, 1) := by decide +kernel
theorem dM_isLeft_72 : decode bM_isLeft 72 = .ok (.getfield 22, 3) := by decide +kernel
theorem dM_isLeft_75 : decode bM_isLeft 75 = .ok (.iload_n 1, 1) := by decide +kernel
theorem dM_isLeft_76 : decode bM_isLeft 76 = .ok (.iaload, 1) := by decide +kernel
theorem dM_isLeft_77 : decode bM_isLeft 77 = .ok (.if_icmp .le (19), 3) := by decide +kernel
theorem dM_isLeft_80 : decode bM_isLeft 80 = .ok (.lload 7, 2) := by decide +kernel
theorem dM_isLeft_82 : decode bM_isLeft 82 = .ok (.lload 9, 2) := by decide +kernel
theorem dM_isLeft_84 : decode bM_isLeft 84 = .ok (.lcmp, 1) := by decide +kernel
theorem dM_isLeft_85 : decode bM_isLeft 85 = .ok (.ifCond .gt (7), 3) := by decide +kernel
theorem dM_isLeft_88 : decode bM_isLeft 88 = .ok (.iconst 1, 1) := by decide +kernel
theorem dM_isLeft_89 : decode bM_isLeft 89 = .ok (.goto (20), 3) := by decide +kernel
theorem dM_isLeft_92 : decode bM_isLeft 92 = .ok (.iconst 0, 1) := by decide +kernel
theorem dM_isLeft_93 : decode bM_isLeft 93 = .ok (.goto (16), 3) := by decide +kernel
theorem dM_isLeft_96 : decode bM_isLeft 96 = .ok (.lload 7, 2) := by decide +kernel
theorem dM_isLeft_98 : decode bM_isLeft 98 = .ok (.lload 9, 2) := by decide +kernel
theorem dM_isLeft_100 : decode bM_isLeft 100 = .ok (.lcmp, 1) := by decide +kernel
theorem dM_isLeft_101 : decode bM_isLeft 101 = .ok (.ifCond .lt (7), 3) := by decide +kernel
theorem dM_isLeft_104 : decode bM_isLeft 104 = .ok (.iconst 1, 1) := by decide +kernel
theorem dM_isLeft_105 : decode bM_isLeft 105 = .ok (.goto (4), 3) := by decide +kernel
theorem dM_isLeft_108 : decode bM_isLeft 108 = .ok (.iconst 0, 1) := by decide +kernel
theorem dM_isLeft_109 : decode bM_isLeft 109 = .ok (.ireturn, 1) := by decide +kernel
theorem dM_windings_0 : decode bM_windings 0 = .ok (.iconst 0, 1) := by decide +kernel
theorem dM_windings_1 : decode bM_windings 1 = .ok (.istore_n 3, 1) := by decide +kernel
theorem dM_windings_2 : decode bM_windings 2 = .ok (.iconst 0, 1) := by decide +kernel
theorem dM_windings_3 : decode bM_windings 3 = .ok (.istore 4, 2) := by decide +kernel
theorem dM_windings_5 : decode bM_windings 5 = .ok (.iload 4, 2) := by decide +kernel
theorem dM_windings_7 : decode bM_windings 7 = .ok (.aload_n 0, 1) := by decide +kernel
theorem dM_windings_8 : decode bM_windings 8 = .ok (.getfield 65, 3) := by decide +kernel
theorem dM_windings_11 : decode bM_windings 11 = .ok (.if_icmp .ge (64), 3) := by decide +kernel
theorem dM_windings_14 : decode bM_windings 14 = .ok (.aload_n 0, 1) := by decide +kernel
theorem dM_windings_15 : decode bM_windings 15 = .ok (.getfield 28, 3) := by decide +kernel
theorem dM_windings_18 : decode bM_windings 18 = .ok (.iload 4, 2) := by decide +kernel
theorem dM_windings_20 : decode bM_windings 20 = .ok (.iaload, 1) := by decide +kernel
theorem dM_windings_21 : decode bM_windings 21 = .ok (.istore 5, 2) := by decide +kernel
theorem dM_windings_23 : decode bM_windings 23 = .ok (.aload_n 0, 1) := by decide +kernel
theorem dM_windings_24 : decode bM_windings 24 = .ok (.iload 5, 2) := by decide +kernel
theorem dM_windings_26 : decode bM_windings 26 = .ok (.iload_n 1, 1) := by decide +kernel
theorem dM_windings_27 : decode bM_windings 27 = .ok (.invokestatic 61, 3) := by decide +kernel
theorem dM_windings_30 : decode bM_windings 30 = .ok (.iload_n 2, 1) := by decide +kernel
theorem dM_windings_31 : decode bM_windings 31 = .ok (.invokestatic 61, 3) := by decide +kernel
theorem dM_windings_34 : decode bM_windings 34 = .ok (.invokevirtual 71, 3) := by decide +kernel
theorem dM_windings_37 : decode bM_windings 37 = .ok (.ifCond .eq (32), 3) := by decide +kernel
theorem dM_windings_40 : decode bM_windings 40 = .ok (.iload_n 3, 1) := by decide +kernel
theorem dM_windings_41 : decode bM_windings 41 = .ok (.aload_n 0, 1) := by decide +kernel
theorem dM_windings_42 : decode bM_windings 42 = .ok (.getfield 22, 3) := by decide +kernel
theorem dM_windings_45 : decode bM_windings 45 = .ok (.aload_n 0, 1) := by decide +kernel
theorem dM_windings_46 : decode bM_windings 46 = .ok (.iload 5, 2) := by decide +kernel
theorem dM_windings_48 : decode bM_windings 48 = .ok (.invokevirtual 68, 3) := by decide +kernel
theorem dM_windings_51 : decode bM_windings 51 = .ok (.iaload, 1) := by decide +kernel
theorem dM_windings_52 : decode bM_windings 52 = .ok (.aload_n 0, 1) := by decide +kernel
theorem dM_windings_53 : decode bM_windings 53 = .ok (.getfield 22, 3) := by decide +kernel
theorem dM_windings_56 : decode bM_windings 56 = .ok (.iload 5, 2) := by decide +kernel
theorem dM_windings_58 : decode bM_windings 58 = .ok (.iaload, 1) := by decide +kernel
theorem dM_windings_59 : decode bM_windings 59 = .ok (.if_icmp .le (7), 3) := by decide +kernel
theorem dM_windings_62 : decode bM_windings 62 = .ok (.iconst 1, 1) := by decide +kernel
theorem dM_windings_63 : decode bM_windings 63 = .ok (.goto (4), 3) := by decide +kernel
theorem dM_windings_66 : decode bM_windings 66 = .ok (.iconst (-1), 1) := by decide +kernel
theorem dM_windings_67 : decode bM_windings 67 = .ok (.iadd, 1) := by decide +kernel
theorem dM_windings_68 : decode bM_windings 68 = .ok (.istore_n 3, 1) := by decide +kernel
theorem dM_windings_69 : decode bM_windings 69 = .ok (.iinc 4 (1), 3) := by decide +kernel
theorem dM_windings_72 : decode bM_windings 72 = .ok (.goto (-67), 3) := by decide +kernel
theorem dM_windings_75 : decode bM_windings 75 = .ok (.iload_n 3, 1) := by decide +kernel
theorem dM_windings_76 : decode bM_windings 76 = .ok (.ireturn, 1) := by decide +kernel
theorem dM_isPixel_0 : decode bM_isPixel 0 = .ok (.iload_n 1, 1) := by decide +kernel
theorem dM_isPixel_1 : decode bM_isPixel 1 = .ok (.ifCond .lt (27), 3) := by decide +kernel
theorem dM_isPixel_4 : decode bM_isPixel 4 = .ok (.iload_n 1, 1) := by decide +kernel
theorem dM_isPixel_5 : decode bM_isPixel 5 = .ok (.aload_n 0, 1) := by decide +kernel
theorem dM_isPixel_6 : decode bM_isPixel 6 = .ok (.getfield 35, 3) := by decide +kernel
theorem dM_isPixel_9 : decode bM_isPixel 9 = .ok (.if_icmp .ge (19), 3) := by decide +kernel
theorem dM_isPixel_12 : decode bM_isPixel 12 = .ok (.iload_n 2, 1) := by decide +kernel
theorem dM_isPixel_13 : decode bM_isPixel 13 = .ok (.ifCond .lt (15), 3) := by decide +kernel
theorem dM_isPixel_16 : decode bM_isPixel 16 = .ok (.iload_n 2, 1) := by decide +kernel
theorem dM_isPixel_17 : decode bM_isPixel 17 = .ok (.aload_n 0, 1) := by decide +kernel
theorem dM_isPixel_18 : decode bM_isPixel 18 = .ok (.getfield 39, 3) := by decide +kernel
theorem dM_isPixel_21 : decode bM_isPixel 21 = .ok (.if_icmp .ge (7), 3) := by decide +kernel
theorem dM_isPixel_24 : decode bM_isPixel 24 = .ok (.iconst 1, 1) := by decide +kernel
theorem dM_isPixel_25 : decode bM_isPixel 25 = .ok (.goto (4), 3) := by decide +kernel
theorem dM_isPixel_28 : decode bM_isPixel 28 = .ok (.iconst 0, 1) := by decide +kernel
theorem dM_isPixel_29 : decode bM_isPixel 29 = .ok (.ireturn, 1) := by decide +kernel
theorem dM_at_0 : decode bM_at 0 = .ok (.sipush (256), 3) := by decide +kernel
theorem dM_at_3 : decode bM_at 3 = .ok (.iload_n 1, 1) := by decide +kernel
theorem dM_at_4 : decode bM_at 4 = .ok (.imul, 1) := by decide +kernel
theorem dM_at_5 : decode bM_at 5 = .ok (.iload_n 0, 1) := by decide +kernel
theorem dM_at_6 : decode bM_at 6 = .ok (.iadd, 1) := by decide +kernel
theorem dM_at_7 : decode bM_at 7 = .ok (.ireturn, 1) := by decide +kernel
theorem dM_winding_0 : decode bM_winding 0 = .ok (.aload_n 0, 1) := by decide +kernel
theorem dM_winding_1 : decode bM_winding 1 = .ok (.iload_n 1, 1) := by decide +kernel
theorem dM_winding_2 : decode bM_winding 2 = .ok (.iload_n 2, 1) := by decide +kernel
theorem dM_winding_3 : decode bM_winding 3 = .ok (.invokevirtual 75, 3) := by decide +kernel
theorem dM_winding_6 : decode bM_winding 6 = .ok (.ifCond .ne (5), 3) := by decide +kernel
theorem dM_winding_9 : decode bM_winding 9 = .ok (.iconst 0, 1) := by decide +kernel
theorem dM_winding_10 : decode bM_winding 10 = .ok (.ireturn, 1) := by decide +kernel
theorem dM_winding_11 : decode bM_winding 11 = .ok (.aload_n 0, 1) := by decide +kernel
theorem dM_winding_12 : decode bM_winding 12 = .ok (.iload_n 2, 1) := by decide +kernel
theorem dM_winding_13 : decode bM_winding 13 = .ok (.invokevirtual 79, 3) := by decide +kernel
theorem dM_winding_16 : decode bM_winding 16 = .ok (.aload_n 0, 1) := by decide +kernel
theorem dM_winding_17 : decode bM_winding 17 = .ok (.iload_n 1, 1) := by decide +kernel
theorem dM_winding_18 : decode bM_winding 18 = .ok (.iload_n 2, 1) := by decide +kernel
theorem dM_winding_19 : decode bM_winding 19 = .ok (.invokevirtual 83, 3) := by decide +kernel
theorem dM_winding_22 : decode bM_winding 22 = .ok (.ireturn, 1) := by decide +kernel
theorem dM_isInside_0 : decode bM_isInside 0 = .ok (.iload_n 1, 1) := by decide +kernel
theorem dM_isInside_1 : decode bM_isInside 1 = .ok (.ifCond .ne (15), 3) := by decide +kernel
theorem dM_isInside_4 : decode bM_isInside 4 = .ok (.iload_n 0, 1) := by decide +kernel
theorem dM_isInside_5 : decode bM_isInside 5 = .ok (.ifCond .eq (7), 3) := by decide +kernel
theorem dM_isInside_8 : decode bM_isInside 8 = .ok (.iconst 1, 1) := by decide +kernel
theorem dM_isInside_9 : decode bM_isInside 9 = .ok (.goto (18), 3) := by decide +kernel
theorem dM_isInside_12 : decode bM_isInside 12 = .ok (.iconst 0, 1) := by decide +kernel
theorem dM_isInside_13 : decode bM_isInside 13 = .ok (.goto (14), 3) := by decide +kernel
theorem dM_isInside_16 : decode bM_isInside 16 = .ok (.iload_n 0, 1) := by decide +kernel
theorem dM_isInside_17 : decode bM_isInside 17 = .ok (.iconst 2, 1) := by decide +kernel
theorem dM_isInside_18 : decode bM_isInside 18 = .ok (.irem, 1) := by decide +kernel
theorem dM_isInside_19 : decode bM_isInside 19 = .ok (.ifCond .eq (7), 3) := by decide +kernel
theorem dM_isInside_22 : decode bM_isInside 22 = .ok (.iconst 1, 1) := by decide +kernel
theorem dM_isInside_23 : decode bM_isInside 23 = .ok (.goto (4), 3) := by decide +kernel
theorem dM_isInside_26 : decode bM_isInside 26 = .ok (.iconst 0, 1) := by decide +kernel
theorem dM_isInside_27 : decode bM_isInside 27 = .ok (.ireturn, 1) := by decide +kernel
theorem dM_isOpen_0 : decode bM_isOpen 0 = .ok (.aload_n 0, 1) := by decide +kernel
theorem dM_isOpen_1 : decode bM_isOpen 1 = .ok (.getfield 14, 3) := by decide +kernel
theorem dM_isOpen_4 : decode bM_isOpen 4 = .ok (.iload_n 1, 1) := by decide +kernel
theorem dM_isOpen_5 : decode bM_isOpen 5 = .ok (.saload, 1) := by decide +kernel
theorem dM_isOpen_6 : decode bM_isOpen 6 = .ok (.iload_n 2, 1) := by decide +kernel
theorem dM_isOpen_7 : decode bM_isOpen 7 = .ok (.ishr, 1) := by decide +kernel
theorem dM_isOpen_8 : decode bM_isOpen 8 = .ok (.iconst 1, 1) := by decide +kernel
theorem dM_isOpen_9 : decode bM_isOpen 9 = .ok (.iand, 1) := by decide +kernel
theorem dM_isOpen_10 : decode bM_isOpen 10 = .ok (.iconst 1, 1) := by decide +kernel
theorem dM_isOpen_11 : decode bM_isOpen 11 = .ok (.if_icmp .ne (7), 3) := by decide +kernel
theorem dM_isOpen_14 : decode bM_isOpen 14 = .ok (.iconst 1, 1) := by decide +kernel
theorem dM_isOpen_15 : decode bM_isOpen 15 = .ok (.goto (4), 3) := by decide +kernel
theorem dM_isOpen_18 : decode bM_isOpen 18 = .ok (.iconst 0, 1) := by decide +kernel
theorem dM_isOpen_19 : decode bM_isOpen 19 = .ok (.ireturn, 1) := by decide +kernel
theorem dM_setOpen_0 : decode bM_setOpen 0 = .ok (.aload_n 0, 1) := by decide +kernel
theorem dM_setOpen_1 : decode bM_setOpen 1 = .ok (.getfield 14, 3) := by decide +kernel
theorem dM_setOpen_4 : decode bM_setOpen 4 = .ok (.iload_n 1, 1) := by decide +kernel
theorem dM_setOpen_5 : decode bM_setOpen 5 = .ok (.saload, 1) := by decide +kernel
theorem dM_setOpen_6 : decode bM_setOpen 6 = .ok (.iconst 1, 1) := by decide +kernel
theorem dM_setOpen_7 : decode bM_setOpen 7 = .ok (.iload_n 2, 1) := by decide +kernel
theorem dM_setOpen_8 : decode bM_setOpen 8 = .ok (.ishl, 1) := by decide +kernel
theorem dM_setOpen_9 : decode bM_setOpen 9 = .ok (.iconst (-1), 1) := by decide +kernel
theorem dM_setOpen_10 : decode bM_setOpen 10 = .ok (.ixor, 1) := by decide +kernel
theorem dM_setOpen_11 : decode bM_setOpen 11 = .ok (.iand, 1) := by decide +kernel
theorem dM_setOpen_12 : decode bM_setOpen 12 = .ok (.istore 4, 2) := by decide +kernel
theorem dM_setOpen_14 : decode bM_setOpen 14 = .ok (.aload_n 0, 1) := by decide +kernel
theorem dM_setOpen_15 : decode bM_setOpen 15 = .ok (.getfield 14, 3) := by decide +kernel
theorem dM_setOpen_18 : decode bM_setOpen 18 = .ok (.iload_n 1, 1) := by decide +kernel
theorem dM_setOpen_19 : decode bM_setOpen 19 = .ok (.iload_n 3, 1) := by decide +kernel
theorem dM_setOpen_20 : decode bM_setOpen 20 = .ok (.ifCond .eq (12), 3) := by decide +kernel
theorem dM_setOpen_23 : decode bM_setOpen 23 = .ok (.iload 4, 2) := by decide +kernel
theorem dM_setOpen_25 : decode bM_setOpen 25 = .ok (.iconst 1, 1) := by decide +kernel
theorem dM_setOpen_26 : decode bM_setOpen 26 = .ok (.iload_n 2, 1) := by decide +kernel
theorem dM_setOpen_27 : decode bM_setOpen 27 = .ok (.ishl, 1) := by decide +kernel
theorem dM_setOpen_28 : decode bM_setOpen 28 = .ok (.ior, 1) := by decide +kernel
theorem dM_setOpen_29 : decode bM_setOpen 29 = .ok (.goto (5), 3) := by decide +kernel
theorem dM_setOpen_32 : decode bM_setOpen 32 = .ok (.iload 4, 2) := by decide +kernel
theorem dM_setOpen_34 : decode bM_setOpen 34 = .ok (.i2s, 1) := by decide +kernel
theorem dM_setOpen_35 : decode bM_setOpen 35 = .ok (.sastore, 1) := by decide +kernel
theorem dM_setOpen_36 : decode bM_setOpen 36 = .ok (.return_, 1) := by decide +kernel
