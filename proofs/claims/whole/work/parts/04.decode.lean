theorem dR_of_0 : decode bR_of 0 = .ok (.iload_n 0, 1) := by decide +kernel
theorem dR_of_1 : decode bR_of 1 = .ok (.bipush (9), 2) := by decide +kernel
theorem dR_of_3 : decode bR_of 3 = .ok (.ishl, 1) := by decide +kernel
theorem dR_of_4 : decode bR_of 4 = .ok (.iload_n 1, 1) := by decide +kernel
theorem dR_of_5 : decode bR_of 5 = .ok (.ior, 1) := by decide +kernel
theorem dR_of_6 : decode bR_of 6 = .ok (.bipush (9), 2) := by decide +kernel
theorem dR_of_8 : decode bR_of 8 = .ok (.ishl, 1) := by decide +kernel
theorem dR_of_9 : decode bR_of 9 = .ok (.iload_n 2, 1) := by decide +kernel
theorem dR_of_10 : decode bR_of 10 = .ok (.ior, 1) := by decide +kernel
theorem dR_of_11 : decode bR_of 11 = .ok (.ireturn, 1) := by decide +kernel
theorem dR_rowOf_0 : decode bR_rowOf 0 = .ok (.iload_n 0, 1) := by decide +kernel
theorem dR_rowOf_1 : decode bR_rowOf 1 = .ok (.bipush (18), 2) := by decide +kernel
theorem dR_rowOf_3 : decode bR_rowOf 3 = .ok (.ishr, 1) := by decide +kernel
theorem dR_rowOf_4 : decode bR_rowOf 4 = .ok (.ireturn, 1) := by decide +kernel
theorem dR_fromOf_0 : decode bR_fromOf 0 = .ok (.iload_n 0, 1) := by decide +kernel
theorem dR_fromOf_1 : decode bR_fromOf 1 = .ok (.bipush (9), 2) := by decide +kernel
theorem dR_fromOf_3 : decode bR_fromOf 3 = .ok (.ishr, 1) := by decide +kernel
theorem dR_fromOf_4 : decode bR_fromOf 4 = .ok (.sipush (511), 3) := by decide +kernel
theorem dR_fromOf_7 : decode bR_fromOf 7 = .ok (.iand, 1) := by decide +kernel
theorem dR_fromOf_8 : decode bR_fromOf 8 = .ok (.ireturn, 1) := by decide +kernel
theorem dR_endOf_0 : decode bR_endOf 0 = .ok (.iload_n 0, 1) := by decide +kernel
theorem dR_endOf_1 : decode bR_endOf 1 = .ok (.sipush (511), 3) := by decide +kernel
theorem dR_endOf_4 : decode bR_endOf 4 = .ok (.iand, 1) := by decide +kernel
theorem dR_endOf_5 : decode bR_endOf 5 = .ok (.ireturn, 1) := by decide +kernel
theorem dR_lengthOf_0 : decode bR_lengthOf 0 = .ok (.iload_n 0, 1) := by decide +kernel
theorem dR_lengthOf_1 : decode bR_lengthOf 1 = .ok (.invokestatic 9, 3) := by decide +kernel
theorem dR_lengthOf_4 : decode bR_lengthOf 4 = .ok (.iload_n 0, 1) := by decide +kernel
theorem dR_lengthOf_5 : decode bR_lengthOf 5 = .ok (.invokestatic 13, 3) := by decide +kernel
theorem dR_lengthOf_8 : decode bR_lengthOf 8 = .ok (.isub, 1) := by decide +kernel
theorem dR_lengthOf_9 : decode bR_lengthOf 9 = .ok (.ireturn, 1) := by decide +kernel
theorem dW_isPlace_0 : decode bW_isPlace 0 = .ok (.iload_n 0, 1) := by decide +kernel
theorem dW_isPlace_1 : decode bW_isPlace 1 = .ok (.ldc 137, 2) := by decide +kernel
theorem dW_isPlace_3 : decode bW_isPlace 3 = .ok (.if_icmp .lt (13), 3) := by decide +kernel
theorem dW_isPlace_6 : decode bW_isPlace 6 = .ok (.iload_n 0, 1) := by decide +kernel
theorem dW_isPlace_7 : decode bW_isPlace 7 = .ok (.ldc 138, 2) := by decide +kernel
theorem dW_isPlace_9 : decode bW_isPlace 9 = .ok (.if_icmp .gt (7), 3) := by decide +kernel
theorem dW_isPlace_12 : decode bW_isPlace 12 = .ok (.iconst 1, 1) := by decide +kernel
theorem dW_isPlace_13 : decode bW_isPlace 13 = .ok (.goto (4), 3) := by decide +kernel
theorem dW_isPlace_16 : decode bW_isPlace 16 = .ok (.iconst 0, 1) := by decide +kernel
theorem dW_isPlace_17 : decode bW_isPlace 17 = .ok (.ireturn, 1) := by decide +kernel
theorem dW_isRule_0 : decode bW_isRule 0 = .ok (.iload_n 0, 1) := by decide +kernel
theorem dW_isRule_1 : decode bW_isRule 1 = .ok (.ifCond .eq (8), 3) := by decide +kernel
theorem dW_isRule_4 : decode bW_isRule 4 = .ok (.iload_n 0, 1) := by decide +kernel
theorem dW_isRule_5 : decode bW_isRule 5 = .ok (.iconst 1, 1) := by decide +kernel
theorem dW_isRule_6 : decode bW_isRule 6 = .ok (.if_icmp .ne (7), 3) := by decide +kernel
theorem dW_isRule_9 : decode bW_isRule 9 = .ok (.iconst 1, 1) := by decide +kernel
theorem dW_isRule_10 : decode bW_isRule 10 = .ok (.goto (4), 3) := by decide +kernel
theorem dW_isRule_13 : decode bW_isRule 13 = .ok (.iconst 0, 1) := by decide +kernel
theorem dW_isRule_14 : decode bW_isRule 14 = .ok (.ireturn, 1) := by decide +kernel
theorem dW_isGray_0 : decode bW_isGray 0 = .ok (.iload_n 0, 1) := by decide +kernel
theorem dW_isGray_1 : decode bW_isGray 1 = .ok (.ifCond .lt (14), 3) := by decide +kernel
theorem dW_isGray_4 : decode bW_isGray 4 = .ok (.iload_n 0, 1) := by decide +kernel
theorem dW_isGray_5 : decode bW_isGray 5 = .ok (.sipush (255), 3) := by decide +kernel
theorem dW_isGray_8 : decode bW_isGray 8 = .ok (.if_icmp .gt (7), 3) := by decide +kernel
theorem dW_isGray_11 : decode bW_isGray 11 = .ok (.iconst 1, 1) := by decide +kernel
theorem dW_isGray_12 : decode bW_isGray 12 = .ok (.goto (4), 3) := by decide +kernel
theorem dW_isGray_15 : decode bW_isGray 15 = .ok (.iconst 0, 1) := by decide +kernel
theorem dW_isGray_16 : decode bW_isGray 16 = .ok (.ireturn, 1) := by decide +kernel
theorem dW_isInside_0 : decode bW_isInside 0 = .ok (.iload_n 1, 1) := by decide +kernel
theorem dW_isInside_1 : decode bW_isInside 1 = .ok (.ifCond .ne (15), 3) := by decide +kernel
theorem dW_isInside_4 : decode bW_isInside 4 = .ok (.iload_n 0, 1) := by decide +kernel
theorem dW_isInside_5 : decode bW_isInside 5 = .ok (.ifCond .eq (7), 3) := by decide +kernel
theorem dW_isInside_8 : decode bW_isInside 8 = .ok (.iconst 1, 1) := by decide +kernel
theorem dW_isInside_9 : decode bW_isInside 9 = .ok (.goto (18), 3) := by decide +kernel
theorem dW_isInside_12 : decode bW_isInside 12 = .ok (.iconst 0, 1) := by decide +kernel
theorem dW_isInside_13 : decode bW_isInside 13 = .ok (.goto (14), 3) := by decide +kernel
theorem dW_isInside_16 : decode bW_isInside 16 = .ok (.iload_n 0, 1) := by decide +kernel
theorem dW_isInside_17 : decode bW_isInside 17 = .ok (.iconst 1, 1) := by decide +kernel
theorem dW_isInside_18 : decode bW_isInside 18 = .ok (.iand, 1) := by decide +kernel
theorem dW_isInside_19 : decode bW_isInside 19 = .ok (.ifCond .eq (7), 3) := by decide +kernel
theorem dW_isInside_22 : decode bW_isInside 22 = .ok (.iconst 1, 1) := by decide +kernel
theorem dW_isInside_23 : decode bW_isInside 23 = .ok (.goto (4), 3) := by decide +kernel
theorem dW_isInside_26 : decode bW_isInside 26 = .ok (.iconst 0, 1) := by decide +kernel
theorem dW_isInside_27 : decode bW_isInside 27 = .ok (.ireturn, 1) := by decide +kernel
theorem dO_isFull_0 : decode bO_isFull 0 = .ok (.aload_n 0, 1) := by decide +kernel
theorem dO_isFull_1 : decode bO_isFull 1 = .ok (.getfield 21, 3) := by decide +kernel
theorem dO_isFull_4 : decode bO_isFull 4 = .ok (.sipush (4096), 3) := by decide +kernel
theorem dO_isFull_7 : decode bO_isFull 7 = .ok (.if_icmp .lt (7), 3) := by decide +kernel
theorem dO_isFull_10 : decode bO_isFull 10 = .ok (.iconst 1, 1) := by decide +kernel
theorem dO_isFull_11 : decode bO_isFull 11 = .ok (.goto (4), 3) := by decide +kernel
theorem dO_isFull_14 : decode bO_isFull 14 = .ok (.iconst 0, 1) := by decide +kernel
theorem dO_isFull_15 : decode bO_isFull 15 = .ok (.ireturn, 1) := by decide +kernel
theorem dO_hasLine_0 : decode bO_hasLine 0 = .ok (.aload_n 0, 1) := by decide +kernel
theorem dO_hasLine_1 : decode bO_hasLine 1 = .ok (.getfield 21, 3) := by decide +kernel
theorem dO_hasLine_4 : decode bO_hasLine 4 = .ok (.ifCond .le (7), 3) := by decide +kernel
theorem dO_hasLine_7 : decode bO_hasLine 7 = .ok (.iconst 1, 1) := by decide +kernel
theorem dO_hasLine_8 : decode bO_hasLine 8 = .ok (.goto (4), 3) := by decide +kernel
theorem dO_hasLine_11 : decode bO_hasLine 11 = .ok (.iconst 0, 1) := by decide +kernel
theorem dO_hasLine_12 : decode bO_hasLine 12 = .ok (.ireturn, 1) := by decide +kernel
theorem dO_addPoint_0 : decode bO_addPoint 0 = .ok (.aload_n 0, 1) := by decide +kernel
theorem dO_addPoint_1 : decode bO_addPoint 1 = .ok (.invokevirtual 36, 3) := by decide +kernel
theorem dO_addPoint_4 : decode bO_addPoint 4 = .ok (.ifCond .ne (46), 3) := by decide +kernel
theorem dO_addPoint_7 : decode bO_addPoint 7 = .ok (.aload_n 0, 1) := by decide +kernel
theorem dO_addPoint_8 : decode bO_addPoint 8 = .ok (.getfield 9, 3) := by decide +kernel
theorem dO_addPoint_11 : decode bO_addPoint 11 = .ok (.aload_n 0, 1) := by decide +kernel
theorem dO_addPoint_12 : decode bO_addPoint 12 = .ok (.getfield 21, 3) := by decide +kernel
theorem dO_addPoint_15 : decode bO_addPoint 15 = .ok (.iload_n 1, 1) := by decide +kernel
theorem dO_addPoint_16 : decode bO_addPoint 16 = .ok (.iastore, 1) := by decide +kernel
theorem dO_addPoint_17 : decode bO_addPoint 17 = .ok (.aload_n 0, 1) := by decide +kernel
theorem dO_addPoint_18 : decode bO_addPoint 18 = .ok (.getfield 15, 3) := by decide +kernel
theorem dO_addPoint_21 : decode bO_addPoint 21 = .ok (.aload_n 0, 1) := by decide +kernel
theorem dO_addPoint_22 : decode bO_addPoint 22 = .ok (.getfield 21, 3) := by decide +kernel
theorem dO_addPoint_25 : decode bO_addPoint 25 = .ok (.iload_n 2, 1) := by decide +kernel
theorem dO_addPoint_26 : decode bO_addPoint 26 = .ok (.iastore, 1) := by decide +kernel
theorem dO_addPoint_27 : decode bO_addPoint 27 = .ok (.aload_n 0, 1) := by decide +kernel
theorem dO_addPoint_28 : decode bO_addPoint 28 = .ok (.getfield 18, 3) := by decide +kernel
theorem dO_addPoint_31 : decode bO_addPoint 31 = .ok (.aload_n 0, 1) := by decide +kernel
theorem dO_addPoint_32 : decode bO_addPoint 32 = .ok (.getfield 21, 3) := by decide +kernel
theorem dO_addPoint_35 : decode bO_addPoint 35 = .ok (.aload_n 0, 1) := by decide +kernel
theorem dO_addPoint_36 : decode bO_addPoint 36 = .ok (.getfield 25, 3) := by decide +kernel
theorem dO_addPoint_39 : decode bO_addPoint 39 = .ok (.iastore, 1) := by decide +kernel
theorem dO_addPoint_40 : decode bO_addPoint 40 = .ok (.aload_n 0, 1) := by decide +kernel
theorem dO_addPoint_41 : decode bO_addPoint 41 = .ok (.dup, 1) := by decide +kernel
theorem dO_addPoint_42 : decode bO_addPoint 42 = .ok (.getfield 21, 3) := by decide +kernel
theorem dO_addPoint_45 : decode bO_addPoint 45 = .ok (.iconst 1, 1) := by decide +kernel
theorem dO_addPoint_46 : decode bO_addPoint 46 = .ok (.iadd, 1) := by decide +kernel
theorem dO_addPoint_47 : decode bO_addPoint 47 = .ok (.putfield 21, 3) := by decide +kernel
theorem dO_addPoint_50 : decode bO_addPoint 50 = .ok (.return_, 1) := by decide +kernel
theorem dO_begin_0 : decode bO_begin 0 = .ok (.aload_n 0, 1) := by decide +kernel
theorem dO_begin_1 : decode bO_begin 1 = .ok (.aload_n 0, 1) := by decide +kernel
theorem dO_begin_2 : decode bO_begin 2 = .ok (.getfield 21, 3) := by decide +kernel
theorem dO_begin_5 : decode bO_begin 5 = .ok (.putfield 25, 3) := by decide +kernel
theorem dO_begin_8 : decode bO_begin 8 = .ok (.aload_n 0, 1) := by decide +kernel
theorem dO_begin_9 : decode bO_begin 9 = .ok (.iload_n 1, 1) := by decide +kernel
theorem dO_begin_10 : decode bO_begin 10 = .ok (.iload_n 2, 1) := by decide +kernel
theorem dO_begin_11 : decode bO_begin 11 = .ok (.invokevirtual 28, 3) := by decide +kernel
theorem dO_begin_14 : decode bO_begin 14 = .ok (.return_, 1) := by decide +kernel
theorem dO_goOn_0 : decode bO_goOn 0 = .ok (.aload_n 0, 1) := by decide +kernel
theorem dO_goOn_1 : decode bO_goOn 1 = .ok (.invokevirtual 32, 3) := by decide +kernel
theorem dO_goOn_4 : decode bO_goOn 4 = .ok (.ifCond .eq (31), 3) := by decide +kernel
theorem dO_goOn_7 : decode bO_goOn 7 = .ok (.aload_n 0, 1) := by decide +kernel
theorem dO_goOn_8 : decode bO_goOn 8 = .ok (.invokevirtual 36, 3) := by decide +kernel
theorem dO_goOn_11 : decode bO_goOn 11 = .ok (.ifCond .ne (24), 3) := by decide +kernel
theorem dO_goOn_14 : decode bO_goOn 14 = .ok (.aload_n 0, 1) := by decide +kernel
theorem dO_goOn_15 : decode bO_goOn 15 = .ok (.getfield 18, 3) := by decide +kernel
theorem dO_goOn_18 : decode bO_goOn 18 = .ok (.aload_n 0, 1) := by decide +kernel
theorem dO_goOn_19 : decode bO_goOn 19 = .ok (.getfield 21, 3) := by decide +kernel
theorem dO_goOn_22 : decode bO_goOn 22 = .ok (.iconst 1, 1) := by decide +kernel
theorem dO_goOn_23 : decode bO_goOn 23 = .ok (.isub, 1) := by decide +kernel
theorem dO_goOn_24 : decode bO_goOn 24 = .ok (.aload_n 0, 1) := by decide +kernel
theorem dO_goOn_25 : decode bO_goOn 25 = .ok (.getfield 21, 3) := by decide +kernel
theorem dO_goOn_28 : decode bO_goOn 28 = .ok (.iastore, 1) := by decide +kernel
theorem dO_goOn_29 : decode bO_goOn 29 = .ok (.aload_n 0, 1) := by decide +kernel
theorem dO_goOn_30 : decode bO_goOn 30 = .ok (.iload_n 1, 1) := by decide +kernel
theorem dO_goOn_31 : decode bO_goOn 31 = .ok (.iload_n 2, 1) := by decide +kernel
theorem dO_goOn_32 : decode bO_goOn 32 = .ok (.invokevirtual 28, 3) := by decide +kernel
theorem dO_goOn_35 : decode bO_goOn 35 = .ok (.return_, 1) := by decide +kernel
theorem dO_forget_0 : decode bO_forget 0 = .ok (.aload_n 0, 1) := by decide +kernel
theorem dO_forget_1 : decode bO_forget 1 = .ok (.iconst 0, 1) := by decide +kernel
theorem dO_forget_2 : decode bO_forget 2 = .ok (.putfield 21, 3) := by decide +kernel
theorem dO_forget_5 : decode bO_forget 5 = .ok (.aload_n 0, 1) := by decide +kernel
theorem dO_forget_6 : decode bO_forget 6 = .ok (.iconst 0, 1) := by decide +kernel
theorem dO_forget_7 : decode bO_forget 7 = .ok (.putfield 25, 3) := by decide +kernel
theorem dO_forget_10 : decode bO_forget 10 = .ok (.return_, 1) := by decide +kernel
theorem dO_centreOf_0 : decode bO_centreOf 0 = .ok (.iload_n 0, 1) := by decide +kernel
theorem dO_centreOf_1 : decode bO_centreOf 1 = .ok (.bipush (16), 2) := by decide +kernel
theorem dO_centreOf_3 : decode bO_centreOf 3 = .ok (.ishl, 1) := by decide +kernel
theorem dO_centreOf_4 : decode bO_centreOf 4 = .ok (.ldc 61, 2) := by decide +kernel
theorem dO_centreOf_6 : decode bO_centreOf 6 = .ok (.iadd, 1) := by decide +kernel
theorem dO_centreOf_7 : decode bO_centreOf 7 = .ok (.ireturn, 1) := by decide +kernel
theorem dO_hasEdge_0 : decode bO_hasEdge 0 = .ok (.iload_n 1, 1) := by decide +kernel
theorem dO_hasEdge_1 : decode bO_hasEdge 1 = .ok (.ifCond .lt (47), 3) := by decide +kernel
theorem dO_hasEdge_4 : decode bO_hasEdge 4 = .ok (.iload_n 1, 1) := by decide +kernel
theorem dO_hasEdge_5 : decode bO_hasEdge 5 = .ok (.aload_n 0, 1) := by decide +kernel
theorem dO_hasEdge_6 : decode bO_hasEdge 6 = .ok (.getfield 21, 3) := by decide +kernel
theorem dO_hasEdge_9 : decode bO_hasEdge 9 = .ok (.if_icmp .ge (39), 3) := by decide +kernel
theorem dO_hasEdge_12 : decode bO_hasEdge 12 = .ok (.aload_n 0, 1) := by decide +kernel
theorem dO_hasEdge_13 : decode bO_hasEdge 13 = .ok (.getfield 21, 3) := by decide +kernel
theorem dO_hasEdge_16 : decode bO_hasEdge 16 = .ok (.sipush (4096), 3) := by decide +kernel
theorem dO_hasEdge_19 : decode bO_hasEdge 19 = .ok (.if_icmp .gt (29), 3) := by decide +kernel
theorem dO_hasEdge_22 : decode bO_hasEdge 22 = .ok (.aload_n 0, 1) := by decide +kernel
theorem dO_hasEdge_23 : decode bO_hasEdge 23 = .ok (.getfield 18, 3) := by decide +kernel
theorem dO_hasEdge_26 : decode bO_hasEdge 26 = .ok (.iload_n 1, 1) := by decide +kernel
theorem dO_hasEdge_27 : decode bO_hasEdge 27 = .ok (.iaload, 1) := by decide +kernel
theorem dO_hasEdge_28 : decode bO_hasEdge 28 = .ok (.ifCond .lt (20), 3) := by decide +kernel
theorem dO_hasEdge_31 : decode bO_hasEdge 31 = .ok (.aload_n 0, 1) := by decide +kernel
theorem dO_hasEdge_32 : decode bO_hasEdge 32 = .ok (.getfield 18, 3) := by decide +kernel
theorem dO_hasEdge_35 : decode bO_hasEdge 35 = .ok (.iload_n 1, 1) := by decide +kernel
theorem dO_hasEdge_36 : decode bO_hasEdge 36 = .ok (.iaload, 1) := by decide +kernel
theorem dO_hasEdge_37 : decode bO_hasEdge 37 = .ok (.aload_n 0, 1) := by decide +kernel
theorem dO_hasEdge_38 : decode bO_hasEdge 38 = .ok (.getfield 21, 3) := by decide +kernel
theorem dO_hasEdge_41 : decode bO_hasEdge 41 = .ok (.if_icmp .ge (7), 3) := by decide +kernel
theorem dO_hasEdge_44 : decode bO_hasEdge 44 = .ok (.iconst 1, 1) := by decide +kernel
theorem dO_hasEdge_45 : decode bO_hasEdge 45 = .ok (.goto (4), 3) := by decide +kernel
theorem dO_hasEdge_48 : decode bO_hasEdge 48 = .ok (.iconst 0, 1) := by decide +kernel
theorem dO_hasEdge_49 : decode bO_hasEdge 49 = .ok (.ireturn, 1) := by decide +kernel
theorem dO_stepAt_0 : decode bO_stepAt 0 = .ok (.aload_n 0, 1) := by decide +kernel
theorem dO_stepAt_1 : decode bO_stepAt 1 = .ok (.iload_n 1, 1) := by decide +kernel
theorem dO_stepAt_2 : decode bO_stepAt 2 = .ok (.invokevirtual 62, 3) := by decide +kernel
theorem dO_stepAt_5 : decode bO_stepAt 5 = .ok (.ifCond .ne (5), 3) := by decide +kernel
theorem dO_stepAt_8 : decode bO_stepAt 8 = .ok (.iconst 0, 1) := by decide +kernel
theorem dO_stepAt_9 : decode bO_stepAt 9 = .ok (.ireturn, 1) := by decide +kernel
theorem dO_stepAt_10 : decode bO_stepAt 10 = .ok (.aload_n 0, 1) := by decide +kernel
theorem dO_stepAt_11 : decode bO_stepAt 11 = .ok (.getfield 15, 3) := by decide +kernel
theorem dO_stepAt_14 : decode bO_stepAt 14 = .ok (.iload_n 1, 1) := by decide +kernel
theorem dO_stepAt_15 : decode bO_stepAt 15 = .ok (.iaload, 1) := by decide +kernel
theorem dO_stepAt_16 : decode bO_stepAt 16 = .ok (.istore_n 3, 1) := by decide +kernel
theorem dO_stepAt_17 : decode bO_stepAt 17 = .ok (.aload_n 0, 1) := by decide +kernel
theorem dO_stepAt_18 : decode bO_stepAt 18 = .ok (.getfield 15, 3) := by decide +kernel
theorem dO_stepAt_21 : decode bO_stepAt 21 = .ok (.aload_n 0, 1) := by decide +kernel
theorem dO_stepAt_22 : decode bO_stepAt 22 = .ok (.getfield 18, 3) := by decide +kernel
theorem dO_stepAt_25 : decode bO_stepAt 25 = .ok (.iload_n 1, 1) := by decide +kernel
theorem dO_stepAt_26 : decode bO_stepAt 26 = .ok (.iaload, 1) := by decide +kernel
theorem dO_stepAt_27 : decode bO_stepAt 27 = .ok (.iaload, 1) := by decide +kernel
theorem dO_stepAt_28 : decode bO_stepAt 28 = .ok (.istore 4, 2) := by decide +kernel
theorem dO_stepAt_30 : decode bO_stepAt 30 = .ok (.iload_n 3, 1) := by decide +kernel
theorem dO_stepAt_31 : decode bO_stepAt 31 = .ok (.iload_n 2, 1) := by decide +kernel
theorem dO_stepAt_32 : decode bO_stepAt 32 = .ok (.if_icmp .gt (11), 3) := by decide +kernel
theorem dO_stepAt_35 : decode bO_stepAt 35 = .ok (.iload_n 2, 1) := by decide +kernel
theorem dO_stepAt_36 : decode bO_stepAt 36 = .ok (.iload 4, 2) := by decide +kernel
theorem dO_stepAt_38 : decode bO_stepAt 38 = .ok (.if_icmp .ge (5), 3) := by decide +kernel
theorem dO_stepAt_41 : decode bO_stepAt 41 = .ok (.iconst 1, 1) := by decide +kernel
theorem dO_stepAt_42 : decode bO_stepAt 42 = .ok (.ireturn, 1) := by decide +kernel
theorem dO_stepAt_43 : decode bO_stepAt 43 = .ok (.iload 4, 2) := by decide +kernel
theorem dO_stepAt_45 : decode bO_stepAt 45 = .ok (.iload_n 2, 1) := by decide +kernel
theorem dO_stepAt_46 : decode bO_stepAt 46 = .ok (.if_icmp .gt (12), 3) := by decide +kernel
theorem dO_stepAt_49 : decode bO_stepAt 49 = .ok (.iload_n 2, 1) := by decide +kernel
theorem dO_stepAt_50 : decode bO_stepAt 50 = .ok (.iload_n 3, 1) := by decide +kernel
theorem dO_stepAt_51 : decode bO_stepAt 51 = .ok (.if_icmp .ge (7), 3) := by decide +kernel
theorem dO_stepAt_54 : decode bO_stepAt 54 = .ok (.iconst (-1), 1) := by decide +kernel
theorem dO_stepAt_55 : decode bO_stepAt 55 = .ok (.goto (4), 3) := by decide +kernel
theorem dO_stepAt_58 : decode bO_stepAt 58 = .ok (.iconst 0, 1) := by decide +kernel
theorem dO_stepAt_59 : decode bO_stepAt 59 = .ok (.ireturn, 1) := by decide +kernel
theorem dJM_floorDiv_0 : decode bJM_floorDiv 0 = .ok (.lload_n 0, 1) := by decide +kernel
theorem dJM_floorDiv_1 : decode bJM_floorDiv 1 = .ok (.lload_n 2, 1) := by decide +kernel
theorem dJM_floorDiv_2 : decode bJM_floorDiv 2 = .ok (.ldiv, 1) := by decide +kernel
theorem dJM_floorDiv_3 : decode bJM_floorDiv 3 = .ok (.lstore 4, 2) := by decide +kernel
theorem dJM_floorDiv_5 : decode bJM_floorDiv 5 = .ok (.lload_n 0, 1) := by decide +kernel
theorem dJM_floorDiv_6 : decode bJM_floorDiv 6 = .ok (.lload_n 2, 1) := by decide +kernel
theorem dJM_floorDiv_7 : decode bJM_floorDiv 7 = .ok (.lxor, 1) := by decide +kernel
theorem dJM_floorDiv_8 : decode bJM_floorDiv 8 = .ok (.lconst 0, 1) := by decide +kernel
theorem dJM_floorDiv_9 : decode bJM_floorDiv 9 = .ok (.lcmp, 1) := by decide +kernel
theorem dJM_floorDiv_10 : decode bJM_floorDiv 10 = .ok (.ifCond .ge (17), 3) := by decide +kernel
theorem dJM_floorDiv_13 : decode bJM_floorDiv 13 = .ok (.lload 4, 2) := by decide +kernel
theorem dJM_floorDiv_15 : decode bJM_floorDiv 15 = .ok (.lload_n 2, 1) := by decide +kernel
theorem dJM_floorDiv_16 : decode bJM_floorDiv 16 = .ok (.lmul, 1) := by decide +kernel
theorem dJM_floorDiv_17 : decode bJM_floorDiv 17 = .ok (.lload_n 0, 1) := by decide +kernel
theorem dJM_floorDiv_18 : decode bJM_floorDiv 18 = .ok (.lcmp, 1) := by decide +kernel
theorem dJM_floorDiv_19 : decode bJM_floorDiv 19 = .ok (.ifCond .eq (8), 3) := by decide +kernel
theorem dJM_floorDiv_22 : decode bJM_floorDiv 22 = .ok (.lload 4, 2) := by decide +kernel
theorem dJM_floorDiv_24 : decode bJM_floorDiv 24 = .ok (.lconst 1, 1) := by decide +kernel
theorem dJM_floorDiv_25 : decode bJM_floorDiv 25 = .ok (.lsub, 1) := by decide +kernel
theorem dJM_floorDiv_26 : decode bJM_floorDiv 26 = .ok (.lreturn, 1) := by decide +kernel
theorem dJM_floorDiv_27 : decode bJM_floorDiv 27 = .ok (.lload 4, 2) := by decide +kernel
theorem dJM_floorDiv_29 : decode bJM_floorDiv 29 = .ok (.lreturn, 1) := by decide +kernel
theorem dJA_fill_0 : decode bJA_fill 0 = .ok (.iconst 0, 1) := by decide +kernel
theorem dJA_fill_1 : decode bJA_fill 1 = .ok (.istore_n 2, 1) := by decide +kernel
theorem dJA_fill_2 : decode bJA_fill 2 = .ok (.aload_n 0, 1) := by decide +kernel
theorem dJA_fill_3 : decode bJA_fill 3 = .ok (.arraylength, 1) := by decide +kernel
theorem dJA_fill_4 : decode bJA_fill 4 = .ok (.istore_n 3, 1) := by decide +kernel
theorem dJA_fill_5 : decode bJA_fill 5 = .ok (.iload_n 2, 1) := by decide +kernel
theorem dJA_fill_6 : decode bJA_fill 6 = .ok (.iload_n 3, 1) := by decide +kernel
theorem dJA_fill_7 : decode bJA_fill 7 = .ok (.if_icmp .ge (13), 3) := by decide +kernel
theorem dJA_fill_10 : decode bJA_fill 10 = .ok (.aload_n 0, 1) := by decide +kernel
theorem dJA_fill_11 : decode bJA_fill 11 = .ok (.iload_n 2, 1) := by decide +kernel
theorem dJA_fill_12 : decode bJA_fill 12 = .ok (.iload_n 1, 1) := by decide +kernel
theorem dJA_fill_13 : decode bJA_fill 13 = .ok (.iastore, 1) := by decide +kernel
theorem dJA_fill_14 : decode bJA_fill 14 = .ok (.iinc 2 (1), 3) := by decide +kernel
theorem dJA_fill_17 : decode bJA_fill 17 = .ok (.goto (-12), 3) := by decide +kernel
theorem dJA_fill_20 : decode bJA_fill 20 = .ok (.return_, 1) := by decide +kernel
theorem dO_firstColumn_0 : decode bO_firstColumn 0 = .ok (.aload_n 0, 1) := by decide +kernel
theorem dO_firstColumn_1 : decode bO_firstColumn 1 = .ok (.iload_n 1, 1) := by decide +kernel
theorem dO_firstColumn_2 : decode bO_firstColumn 2 = .ok (.invokevirtual 62, 3) := by decide +kernel
theorem dO_firstColumn_5 : decode bO_firstColumn 5 = .ok (.ifCond .ne (7), 3) := by decide +kernel
theorem dO_firstColumn_8 : decode bO_firstColumn 8 = .ok (.sipush (256), 3) := by decide +kernel
theorem dO_firstColumn_11 : decode bO_firstColumn 11 = .ok (.ireturn, 1) := by decide +kernel
theorem dO_firstColumn_12 : decode bO_firstColumn 12 = .ok (.aload_n 0, 1) := by decide +kernel
theorem dO_firstColumn_13 : decode bO_firstColumn 13 = .ok (.getfield 9, 3) := by decide +kernel
theorem dO_firstColumn_16 : decode bO_firstColumn 16 = .ok (.iload_n 1, 1) := by decide +kernel
theorem dO_firstColumn_17 : decode bO_firstColumn 17 = .ok (.iaload, 1) := by decide +kernel
theorem dO_firstColumn_18 : decode bO_firstColumn 18 = .ok (.i2l, 1) := by decide +kernel
theorem dO_firstColumn_19 : decode bO_firstColumn 19 = .ok (.lstore_n 3, 1) := by decide +kernel
theorem dO_firstColumn_20 : decode bO_firstColumn 20 = .ok (.aload_n 0, 1) := by decide +kernel
theorem dO_firstColumn_21 : decode bO_firstColumn 21 = .ok (.getfield 15, 3) := by decide +kernel
theorem dO_firstColumn_24 : decode bO_firstColumn 24 = .ok (.iload_n 1, 1) := by decide +kernel
theorem dO_firstColumn_25 : decode bO_firstColumn 25 = .ok (.iaload, 1) := by decide +kernel
theorem dO_firstColumn_26 : decode bO_firstColumn 26 = .ok (.i2l, 1) := by decide +kernel
theorem dO_firstColumn_27 : decode bO_firstColumn 27 = .ok (.lstore 5, 2) := by decide +kernel
theorem dO_firstColumn_29 : decode bO_firstColumn 29 = .ok (.aload_n 0, 1) := by decide +kernel
theorem dO_firstColumn_30 : decode bO_firstColumn 30 = .ok (.getfield 9, 3) := by decide +kernel
theorem dO_firstColumn_33 : decode bO_firstColumn 33 = .ok (.aload_n 0, 1) := by decide +kernel
theorem dO_firstColumn_34 : decode bO_firstColumn 34 = .ok (.getfield 18, 3) := by decide +kernel
theorem dO_firstColumn_37 : decode bO_firstColumn 37 = .ok (.iload_n 1, 1) := by decide +kernel
theorem dO_firstColumn_38 : decode bO_firstColumn 38 = .ok (.iaload, 1) := by decide +kernel
theorem dO_firstColumn_39 : decode bO_firstColumn 39 = .ok (.iaload, 1) := by decide +kernel
theorem dO_firstColumn_40 : decode bO_firstColumn 40 = .ok (.i2l, 1) := by decide +kernel
theorem dO_firstColumn_41 : decode bO_firstColumn 41 = .ok (.lload_n 3, 1) := by decide +kernel
theorem dO_firstColumn_42 : decode bO_firstColumn 42 = .ok (.lsub, 1) := by decide +kernel
theorem dO_firstColumn_43 : decode bO_firstColumn 43 = .ok (.lstore 7, 2) := by decide +kernel
theorem dO_firstColumn_45 : decode bO_firstColumn 45 = .ok (.aload_n 0, 1) := by decide +kernel
theorem dO_firstColumn_46 : decode bO_firstColumn 46 = .ok (.getfield 15, 3) := by decide +kernel
theorem dO_firstColumn_49 : decode bO_firstColumn 49 = .ok (.aload_n 0, 1) := by decide +kernel
theorem dO_firstColumn_50 : decode bO_firstColumn 50 = .ok (.getfield 18, 3) := by decide +kernel
theorem dO_firstColumn_53 : decode bO_firstColumn 53 = .ok (.iload_n 1, 1) := by decide +kernel
theorem dO_firstColumn_54 : decode bO_firstColumn 54 = .ok (.iaload, 1) := by decide +kernel
theorem dO_firstColumn_55 : decode bO_firstColumn 55 = .ok (.iaload, 1) := by decide +kernel
theorem dO_firstColumn_56 : decode bO_firstColumn 56 = .ok (.i2l, 1) := by decide +kernel
theorem dO_firstColumn_57 : decode bO_firstColumn 57 = .ok (.lload 5, 2) := by decide +kernel
theorem dO_firstColumn_59 : decode bO_firstColumn 59 = .ok (.lsub, 1) := by decide +kernel
theorem dO_firstColumn_60 : decode bO_firstColumn 60 = .ok (.lstore 9, 2) := by decide +kernel
theorem dO_firstColumn_62 : decode bO_firstColumn 62 = .ok (.lload 9, 2) := by decide +kernel
theorem dO_firstColumn_64 : decode bO_firstColumn 64 = .ok (.lconst 0, 1) := by decide +kernel
theorem dO_firstColumn_65 : decode bO_firstColumn 65 = .ok (.lcmp, 1) := by decide +kernel
theorem dO_firstColumn_66 : decode bO_firstColumn 66 = .ok (.ifCond .ne (7), 3) := by decide +kernel
theorem dO_firstColumn_69 : decode bO_firstColumn 69 = .ok (.sipush (256), 3) := by decide +kernel
theorem dO_firstColumn_72 : decode bO_firstColumn 72 = .ok (.ireturn, 1) := by decide +kernel
theorem dO_firstColumn_73 : decode bO_firstColumn 73 = .ok (.lload_n 3, 1) := by decide +kernel
theorem dO_firstColumn_74 : decode bO_firstColumn 74 = .ok (.lload 7, 2) := by decide +kernel
theorem dO_firstColumn_76 : decode bO_firstColumn 76 = .ok (.lneg, 1) := by decide +kernel
theorem dO_firstColumn_77 : decode bO_firstColumn 77 = .ok (.iload_n 2, 1) := by decide +kernel
theorem dO_firstColumn_78 : decode bO_firstColumn 78 = .ok (.i2l, 1) := by decide +kernel
theorem dO_firstColumn_79 : decode bO_firstColumn 79 = .ok (.lload 5, 2) := by decide +kernel
theorem dO_firstColumn_81 : decode bO_firstColumn 81 = .ok (.lsub, 1) := by decide +kernel
theorem dO_firstColumn_82 : decode bO_firstColumn 82 = .ok (.lmul, 1) := by decide +kernel
theorem dO_firstColumn_83 : decode bO_firstColumn 83 = .ok (.lload 9, 2) := by decide +kernel
theorem dO_firstColumn_85 : decode bO_firstColumn 85 = .ok (.invokestatic 66, 3) := by decide +kernel
theorem dO_firstColumn_88 : decode bO_firstColumn 88 = .ok (.lsub, 1) := by decide +kernel
theorem dO_firstColumn_89 : decode bO_firstColumn 89 = .ok (.lstore 11, 2) := by decide +kernel
theorem dO_firstColumn_91 : decode bO_firstColumn 91 = .ok (.lload 11, 2) := by decide +kernel
theorem dO_firstColumn_93 : decode bO_firstColumn 93 = .ok (.ldc2_w 70, 3) := by decide +kernel
theorem dO_firstColumn_96 : decode bO_firstColumn 96 = .ok (.ladd, 1) := by decide +kernel
theorem dO_firstColumn_97 : decode bO_firstColumn 97 = .ok (.lconst 1, 1) := by decide +kernel
theorem dO_firstColumn_98 : decode bO_firstColumn 98 = .ok (.lsub, 1) := by decide +kernel
theorem dO_firstColumn_99 : decode bO_firstColumn 99 = .ok (.bipush (16), 2) := by decide +kernel
theorem dO_firstColumn_101 : decode bO_firstColumn 101 = .ok (.lshr, 1) := by decide +kernel
theorem dO_firstColumn_102 : decode bO_firstColumn 102 = .ok (.l2i, 1) := by decide +kernel
theorem dO_firstColumn_103 : decode bO_firstColumn 103 = .ok (.ireturn, 1) := by decide +kernel
theorem dO_windingAt_0 : decode bO_windingAt 0 = .ok (.iload_n 2, 1) := by decide +kernel
theorem dO_windingAt_1 : decode bO_windingAt 1 = .ok (.invokestatic 39, 3) := by decide +kernel
theorem dO_windingAt_4 : decode bO_windingAt 4 = .ok (.istore_n 3, 1) := by decide +kernel
theorem dO_windingAt_5 : decode bO_windingAt 5 = .ok (.iconst 0, 1) := by decide +kernel
theorem dO_windingAt_6 : decode bO_windingAt 6 = .ok (.istore 4, 2) := by decide +kernel
theorem dO_windingAt_8 : decode bO_windingAt 8 = .ok (.iconst 0, 1) := by decide +kernel
theorem dO_windingAt_9 : decode bO_windingAt 9 = .ok (.istore 5, 2) := by decide +kernel
theorem dO_windingAt_11 : decode bO_windingAt 11 = .ok (.iload 5, 2) := by decide +kernel
theorem dO_windingAt_13 : decode bO_windingAt 13 = .ok (.aload_n 0, 1) := by decide +kernel
theorem dO_windingAt_14 : decode bO_windingAt 14 = .ok (.getfield 21, 3) := by decide +kernel
theorem dO_windingAt_17 : decode bO_windingAt 17 = .ok (.if_icmp .ge (41), 3) := by decide +kernel
theorem dO_windingAt_20 : decode bO_windingAt 20 = .ok (.aload_n 0, 1) := by decide +kernel
theorem dO_windingAt_21 : decode bO_windingAt 21 = .ok (.iload 5, 2) := by decide +kernel
theorem dO_windingAt_23 : decode bO_windingAt 23 = .ok (.iload_n 3, 1) := by decide +kernel
theorem dO_windingAt_24 : decode bO_windingAt 24 = .ok (.invokevirtual 43, 3) := by decide +kernel
theorem dO_windingAt_27 : decode bO_windingAt 27 = .ok (.istore 6, 2) := by decide +kernel
theorem dO_windingAt_29 : decode bO_windingAt 29 = .ok (.iload 6, 2) := by decide +kernel
theorem dO_windingAt_31 : decode bO_windingAt 31 = .ok (.ifCond .eq (21), 3) := by decide +kernel
theorem dO_windingAt_34 : decode bO_windingAt 34 = .ok (.aload_n 0, 1) := by decide +kernel
theorem dO_windingAt_35 : decode bO_windingAt 35 = .ok (.iload 5, 2) := by decide +kernel
theorem dO_windingAt_37 : decode bO_windingAt 37 = .ok (.iload_n 3, 1) := by decide +kernel
theorem dO_windingAt_38 : decode bO_windingAt 38 = .ok (.invokevirtual 47, 3) := by decide +kernel
theorem dO_windingAt_41 : decode bO_windingAt 41 = .ok (.iload_n 1, 1) := by decide +kernel
theorem dO_windingAt_42 : decode bO_windingAt 42 = .ok (.if_icmp .gt (10), 3) := by decide +kernel
theorem dO_windingAt_45 : decode bO_windingAt 45 = .ok (.iload 4, 2) := by decide +kernel
theorem dO_windingAt_47 : decode bO_windingAt 47 = .ok (.iload 6, 2) := by decide +kernel
theorem dO_windingAt_49 : decode bO_windingAt 49 = .ok (.iadd, 1) := by decide +kernel
theorem dO_windingAt_50 : decode bO_windingAt 50 = .ok (.istore 4, 2) := by decide +kernel
theorem dO_windingAt_52 : decode bO_windingAt 52 = .ok (.iinc 5 (1), 3) := by decide +kernel
theorem dO_windingAt_55 : decode bO_windingAt 55 = .ok (.goto (-44), 3) := by decide +kernel
theorem dO_windingAt_58 : decode bO_windingAt 58 = .ok (.iload 4, 2) := by decide +kernel
theorem dO_windingAt_60 : decode bO_windingAt 60 = .ok (.ireturn, 1) := by decide +kernel
theorem dO_windRow_0 : decode bO_windRow 0 = .ok (.iload_n 1, 1) := by decide +kernel
theorem dO_windRow_1 : decode bO_windRow 1 = .ok (.invokestatic 39, 3) := by decide +kernel
theorem dO_windRow_4 : decode bO_windRow 4 = .ok (.istore_n 3, 1) := by decide +kernel
theorem dO_windRow_5 : decode bO_windRow 5 = .ok (.iconst 0, 1) := by decide +kernel
theorem dO_windRow_6 : decode bO_windRow 6 = .ok (.istore 4, 2) := by decide +kernel
theorem dO_windRow_8 : decode bO_windRow 8 = .ok (.aload_n 2, 1) := by decide +kernel
theorem dO_windRow_9 : decode bO_windRow 9 = .ok (.iconst 0, 1) := by decide +kernel
theorem dO_windRow_10 : decode bO_windRow 10 = .ok (.invokestatic 50, 3) := by decide +kernel
theorem dO_windRow_13 : decode bO_windRow 13 = .ok (.iconst 0, 1) := by decide +kernel
theorem dO_windRow_14 : decode bO_windRow 14 = .ok (.istore 5, 2) := by decide +kernel
theorem dO_windRow_16 : decode bO_windRow 16 = .ok (.iload 5, 2) := by decide +kernel
theorem dO_windRow_18 : decode bO_windRow 18 = .ok (.aload_n 0, 1) := by decide +kernel
theorem dO_windRow_19 : decode bO_windRow 19 = .ok (.getfield 21, 3) := by decide +kernel
theorem dO_windRow_22 : decode bO_windRow 22 = .ok (.if_icmp .ge (55), 3) := by decide +kernel
theorem dO_windRow_25 : decode bO_windRow 25 = .ok (.aload_n 0, 1) := by decide +kernel
theorem dO_windRow_26 : decode bO_windRow 26 = .ok (.iload 5, 2) := by decide +kernel
theorem dO_windRow_28 : decode bO_windRow 28 = .ok (.iload_n 3, 1) := by decide +kernel
theorem dO_windRow_29 : decode bO_windRow 29 = .ok (.invokevirtual 43, 3) := by decide +kernel
theorem dO_windRow_32 : decode bO_windRow 32 = .ok (.istore 6, 2) := by decide +kernel
theorem dO_windRow_34 : decode bO_windRow 34 = .ok (.iload 6, 2) := by decide +kernel
theorem dO_windRow_36 : decode bO_windRow 36 = .ok (.ifCond .eq (35), 3) := by decide +kernel
theorem dO_windRow_39 : decode bO_windRow 39 = .ok (.iconst 1, 1) := by decide +kernel
theorem dO_windRow_40 : decode bO_windRow 40 = .ok (.istore 4, 2) := by decide +kernel
theorem dO_windRow_42 : decode bO_windRow 42 = .ok (.iconst 0, 1) := by decide +kernel
theorem dO_windRow_43 : decode bO_windRow 43 = .ok (.aload_n 0, 1) := by decide +kernel
theorem dO_windRow_44 : decode bO_windRow 44 = .ok (.iload 5, 2) := by decide +kernel
theorem dO_windRow_46 : decode bO_windRow 46 = .ok (.iload_n 3, 1) := by decide +kernel
theorem dO_windRow_47 : decode bO_windRow 47 = .ok (.invokevirtual 47, 3) := by decide +kernel
theorem dO_windRow_50 : decode bO_windRow 50 = .ok (.invokestatic 56, 3) := by decide +kernel
theorem dO_windRow_53 : decode bO_windRow 53 = .ok (.istore 7, 2) := by decide +kernel
theorem dO_windRow_55 : decode bO_windRow 55 = .ok (.iload 7, 2) := by decide +kernel
theorem dO_windRow_57 : decode bO_windRow 57 = .ok (.aload_n 2, 1) := by decide +kernel
theorem dO_windRow_58 : decode bO_windRow 58 = .ok (.arraylength, 1) := by decide +kernel
theorem dO_windRow_59 : decode bO_windRow 59 = .ok (.if_icmp .ge (12), 3) := by decide +kernel
theorem dO_windRow_62 : decode bO_windRow 62 = .ok (.aload_n 2, 1) := by decide +kernel
theorem dO_windRow_63 : decode bO_windRow 63 = .ok (.iload 7, 2) := by decide +kernel
theorem dO_windRow_65 : decode bO_windRow 65 = .ok (.dup2, 1) := by decide +kernel
theorem dO_windRow_66 : decode bO_windRow 66 = .ok (.iaload, 1) := by decide +kernel
theorem dO_windRow_67 : decode bO_windRow 67 = .ok (.iload 6, 2) := by decide +kernel
theorem dO_windRow_69 : decode bO_windRow 69 = .ok (.iadd, 1) := by decide +kernel
theorem dO_windRow_70 : decode bO_windRow 70 = .ok (.iastore, 1) := by decide +kernel
theorem dO_windRow_71 : decode bO_windRow 71 = .ok (.iinc 5 (1), 3) := by decide +kernel
theorem dO_windRow_74 : decode bO_windRow 74 = .ok (.goto (-58), 3) := by decide +kernel
theorem dO_windRow_77 : decode bO_windRow 77 = .ok (.iconst 1, 1) := by decide +kernel
theorem dO_windRow_78 : decode bO_windRow 78 = .ok (.istore 5, 2) := by decide +kernel
theorem dO_windRow_80 : decode bO_windRow 80 = .ok (.iload 5, 2) := by decide +kernel
theorem dO_windRow_82 : decode bO_windRow 82 = .ok (.aload_n 2, 1) := by decide +kernel
theorem dO_windRow_83 : decode bO_windRow 83 = .ok (.arraylength, 1) := by decide +kernel
theorem dO_windRow_84 : decode bO_windRow 84 = .ok (.if_icmp .ge (22), 3) := by decide +kernel
theorem dO_windRow_87 : decode bO_windRow 87 = .ok (.aload_n 2, 1) := by decide +kernel
theorem dO_windRow_88 : decode bO_windRow 88 = .ok (.iload 5, 2) := by decide +kernel
theorem dO_windRow_90 : decode bO_windRow 90 = .ok (.dup2, 1) := by decide +kernel
theorem dO_windRow_91 : decode bO_windRow 91 = .ok (.iaload, 1) := by decide +kernel
theorem dO_windRow_92 : decode bO_windRow 92 = .ok (.aload_n 2, 1) := by decide +kernel
theorem dO_windRow_93 : decode bO_windRow 93 = .ok (.iload 5, 2) := by decide +kernel
theorem dO_windRow_95 : decode bO_windRow 95 = .ok (.iconst 1, 1) := by decide +kernel
theorem dO_windRow_96 : decode bO_windRow 96 = .ok (.isub, 1) := by decide +kernel
theorem dO_windRow_97 : decode bO_windRow 97 = .ok (.iaload, 1) := by decide +kernel
theorem dO_windRow_98 : decode bO_windRow 98 = .ok (.iadd, 1) := by decide +kernel
theorem dO_windRow_99 : decode bO_windRow 99 = .ok (.iastore, 1) := by decide +kernel
theorem dO_windRow_100 : decode bO_windRow 100 = .ok (.iinc 5 (1), 3) := by decide +kernel
theorem dO_windRow_103 : decode bO_windRow 103 = .ok (.goto (-23), 3) := by decide +kernel
theorem dO_windRow_106 : decode bO_windRow 106 = .ok (.iload 4, 2) := by decide +kernel
theorem dO_windRow_108 : decode bO_windRow 108 = .ok (.ireturn, 1) := by decide +kernel
theorem dL_init_0 : decode bL_init 0 = .ok (.aload_n 0, 1) := by decide +kernel
theorem dL_init_1 : decode bL_init 1 = .ok (.invokespecial 1, 3) := by decide +kernel
theorem dL_init_4 : decode bL_init 4 = .ok (.aload_n 0, 1) := by decide +kernel
theorem dL_init_5 : decode bL_init 5 = .ok (.iconst 0, 1) := by decide +kernel
theorem dL_init_6 : decode bL_init 6 = .ok (.iload_n 1, 1) := by decide +kernel
theorem dL_init_7 : decode bL_init 7 = .ok (.invokestatic 7, 3) := by decide +kernel
theorem dL_init_10 : decode bL_init 10 = .ok (.newarray .int, 2) := by decide +kernel
theorem dL_init_12 : decode bL_init 12 = .ok (.putfield 13, 3) := by decide +kernel
theorem dL_init_15 : decode bL_init 15 = .ok (.return_, 1) := by decide +kernel
theorem dL_add_0 : decode bL_add 0 = .ok (.aload_n 0, 1) := by decide +kernel
theorem dL_add_1 : decode bL_add 1 = .ok (.getfield 19, 3) := by decide +kernel
theorem dL_add_4 : decode bL_add 4 = .ok (.aload_n 0, 1) := by decide +kernel
theorem dL_add_5 : decode bL_add 5 = .ok (.getfield 13, 3) := by decide +kernel
theorem dL_add_8 : decode bL_add 8 = .ok (.arraylength, 1) := by decide +kernel
theorem dL_add_9 : decode bL_add 9 = .ok (.if_icmp .ge (23), 3) := by decide +kernel
theorem dL_add_12 : decode bL_add 12 = .ok (.aload_n 0, 1) := by decide +kernel
theorem dL_add_13 : decode bL_add 13 = .ok (.getfield 13, 3) := by decide +kernel
theorem dL_add_16 : decode bL_add 16 = .ok (.aload_n 0, 1) := by decide +kernel
theorem dL_add_17 : decode bL_add 17 = .ok (.getfield 19, 3) := by decide +kernel
theorem dL_add_20 : decode bL_add 20 = .ok (.iload_n 1, 1) := by decide +kernel
theorem dL_add_21 : decode bL_add 21 = .ok (.iastore, 1) := by decide +kernel
theorem dL_add_22 : decode bL_add 22 = .ok (.aload_n 0, 1) := by decide +kernel
theorem dL_add_23 : decode bL_add 23 = .ok (.dup, 1) := by decide +kernel
theorem dL_add_24 : decode bL_add 24 = .ok (.getfield 19, 3) := by decide +kernel
theorem dL_add_27 : decode bL_add 27 = .ok (.iconst 1, 1) := by decide +kernel
theorem dL_add_28 : decode bL_add 28 = .ok (.iadd, 1) := by decide +kernel
theorem dL_add_29 : decode bL_add 29 = .ok (.putfield 19, 3) := by decide +kernel
theorem dL_add_32 : decode bL_add 32 = .ok (.return_, 1) := by decide +kernel
theorem dC_init_0 : decode bC_init 0 = .ok (.aload_n 0, 1) := by decide +kernel
theorem dC_init_1 : decode bC_init 1 = .ok (.invokespecial 3, 3) := by decide +kernel
theorem dC_init_4 : decode bC_init 4 = .ok (.aload_n 0, 1) := by decide +kernel
theorem dC_init_5 : decode bC_init 5 = .ok (.sipush (24000), 3) := by decide +kernel
theorem dC_init_8 : decode bC_init 8 = .ok (.newarray .int, 2) := by decide +kernel
theorem dC_init_10 : decode bC_init 10 = .ok (.putfield 9, 3) := by decide +kernel
theorem dC_init_13 : decode bC_init 13 = .ok (.aload_n 0, 1) := by decide +kernel
theorem dC_init_14 : decode bC_init 14 = .ok (.bipush (13), 2) := by decide +kernel
theorem dC_init_16 : decode bC_init 16 = .ok (.newarray .int, 2) := by decide +kernel
theorem dC_init_18 : decode bC_init 18 = .ok (.putfield 15, 3) := by decide +kernel
theorem dC_init_21 : decode bC_init 21 = .ok (.iconst 0, 1) := by decide +kernel
theorem dC_init_22 : decode bC_init 22 = .ok (.istore_n 3, 1) := by decide +kernel
theorem dC_init_23 : decode bC_init 23 = .ok (.iload_n 3, 1) := by decide +kernel
theorem dC_init_24 : decode bC_init 24 = .ok (.iload_n 2, 1) := by decide +kernel
theorem dC_init_25 : decode bC_init 25 = .ok (.if_icmp .ge (28), 3) := by decide +kernel
theorem dC_init_28 : decode bC_init 28 = .ok (.iload_n 3, 1) := by decide +kernel
theorem dC_init_29 : decode bC_init 29 = .ok (.sipush (24000), 3) := by decide +kernel
theorem dC_init_32 : decode bC_init 32 = .ok (.if_icmp .ge (21), 3) := by decide +kernel
theorem dC_init_35 : decode bC_init 35 = .ok (.aload_n 0, 1) := by decide +kernel
theorem dC_init_36 : decode bC_init 36 = .ok (.getfield 9, 3) := by decide +kernel
theorem dC_init_39 : decode bC_init 39 = .ok (.iload_n 3, 1) := by decide +kernel
theorem dC_init_40 : decode bC_init 40 = .ok (.iload_n 3, 1) := by decide +kernel
theorem dC_init_41 : decode bC_init 41 = .ok (.iconst 0, 1) := by decide +kernel
theorem dC_init_42 : decode bC_init 42 = .ok (.iload_n 1, 1) := by decide +kernel
theorem dC_init_43 : decode bC_init 43 = .ok (.invokestatic 18, 3) := by decide +kernel
theorem dC_init_46 : decode bC_init 46 = .ok (.iastore, 1) := by decide +kernel
theorem dC_init_47 : decode bC_init 47 = .ok (.iinc 3 (1), 3) := by decide +kernel
theorem dC_init_50 : decode bC_init 50 = .ok (.goto (-27), 3) := by decide +kernel
theorem dC_init_53 : decode bC_init 53 = .ok (.aload_n 0, 1) := by decide +kernel
theorem dC_init_54 : decode bC_init 54 = .ok (.iload_n 2, 1) := by decide +kernel
theorem dC_init_55 : decode bC_init 55 = .ok (.sipush (24000), 3) := by decide +kernel
theorem dC_init_58 : decode bC_init 58 = .ok (.invokestatic 24, 3) := by decide +kernel
theorem dC_init_61 : decode bC_init 61 = .ok (.putfield 30, 3) := by decide +kernel
theorem dC_init_64 : decode bC_init 64 = .ok (.return_, 1) := by decide +kernel
theorem dC_start_0 : decode bC_start 0 = .ok (.aload_n 0, 1) := by decide +kernel
theorem dC_start_1 : decode bC_start 1 = .ok (.getfield 34, 3) := by decide +kernel
theorem dC_start_4 : decode bC_start 4 = .ok (.ifCond .lt (27), 3) := by decide +kernel
theorem dC_start_7 : decode bC_start 7 = .ok (.aload_n 0, 1) := by decide +kernel
theorem dC_start_8 : decode bC_start 8 = .ok (.getfield 34, 3) := by decide +kernel
theorem dC_start_11 : decode bC_start 11 = .ok (.aload_n 0, 1) := by decide +kernel
theorem dC_start_12 : decode bC_start 12 = .ok (.getfield 15, 3) := by decide +kernel
theorem dC_start_15 : decode bC_start 15 = .ok (.arraylength, 1) := by decide +kernel
theorem dC_start_16 : decode bC_start 16 = .ok (.if_icmp .ge (15), 3) := by decide +kernel
theorem dC_start_19 : decode bC_start 19 = .ok (.aload_n 0, 1) := by decide +kernel
theorem dC_start_20 : decode bC_start 20 = .ok (.getfield 15, 3) := by decide +kernel
theorem dC_start_23 : decode bC_start 23 = .ok (.aload_n 0, 1) := by decide +kernel
theorem dC_start_24 : decode bC_start 24 = .ok (.getfield 34, 3) := by decide +kernel
theorem dC_start_27 : decode bC_start 27 = .ok (.iaload, 1) := by decide +kernel
theorem dC_start_28 : decode bC_start 28 = .ok (.goto (4), 3) := by decide +kernel
theorem dC_start_31 : decode bC_start 31 = .ok (.iconst 0, 1) := by decide +kernel
theorem dC_start_32 : decode bC_start 32 = .ok (.ireturn, 1) := by decide +kernel
theorem dC_runAt_0 : decode bC_runAt 0 = .ok (.iload_n 1, 1) := by decide +kernel
theorem dC_runAt_1 : decode bC_runAt 1 = .ok (.ifCond .lt (29), 3) := by decide +kernel
theorem dC_runAt_4 : decode bC_runAt 4 = .ok (.iload_n 1, 1) := by decide +kernel
theorem dC_runAt_5 : decode bC_runAt 5 = .ok (.aload_n 0, 1) := by decide +kernel
theorem dC_runAt_6 : decode bC_runAt 6 = .ok (.getfield 30, 3) := by decide +kernel
theorem dC_runAt_9 : decode bC_runAt 9 = .ok (.if_icmp .ge (21), 3) := by decide +kernel
theorem dC_runAt_12 : decode bC_runAt 12 = .ok (.iload_n 1, 1) := by decide +kernel
theorem dC_runAt_13 : decode bC_runAt 13 = .ok (.aload_n 0, 1) := by decide +kernel
theorem dC_runAt_14 : decode bC_runAt 14 = .ok (.getfield 9, 3) := by decide +kernel
theorem dC_runAt_17 : decode bC_runAt 17 = .ok (.arraylength, 1) := by decide +kernel
theorem dC_runAt_18 : decode bC_runAt 18 = .ok (.if_icmp .ge (12), 3) := by decide +kernel
theorem dC_runAt_21 : decode bC_runAt 21 = .ok (.aload_n 0, 1) := by decide +kernel
theorem dC_runAt_22 : decode bC_runAt 22 = .ok (.getfield 9, 3) := by decide +kernel
theorem dC_runAt_25 : decode bC_runAt 25 = .ok (.iload_n 1, 1) := by decide +kernel
theorem dC_runAt_26 : decode bC_runAt 26 = .ok (.iaload, 1) := by decide +kernel
theorem dC_runAt_27 : decode bC_runAt 27 = .ok (.goto (4), 3) := by decide +kernel
theorem dC_runAt_30 : decode bC_runAt 30 = .ok (.iconst 0, 1) := by decide +kernel
theorem dC_runAt_31 : decode bC_runAt 31 = .ok (.ireturn, 1) := by decide +kernel
theorem dC_copyRuns_0 : decode bC_copyRuns 0 = .ok (.iload_n 2, 1) := by decide +kernel
theorem dC_copyRuns_1 : decode bC_copyRuns 1 = .ok (.ifCond .lt (32), 3) := by decide +kernel
theorem dC_copyRuns_4 : decode bC_copyRuns 4 = .ok (.iload_n 3, 1) := by decide +kernel
theorem dC_copyRuns_5 : decode bC_copyRuns 5 = .ok (.ifCond .lt (28), 3) := by decide +kernel
theorem dC_copyRuns_8 : decode bC_copyRuns 8 = .ok (.iload 4, 2) := by decide +kernel
theorem dC_copyRuns_10 : decode bC_copyRuns 10 = .ok (.ifCond .lt (23), 3) := by decide +kernel
theorem dC_copyRuns_13 : decode bC_copyRuns 13 = .ok (.iload_n 3, 1) := by decide +kernel
theorem dC_copyRuns_14 : decode bC_copyRuns 14 = .ok (.aload_n 1, 1) := by decide +kernel
theorem dC_copyRuns_15 : decode bC_copyRuns 15 = .ok (.arraylength, 1) := by decide +kernel
theorem dC_copyRuns_16 : decode bC_copyRuns 16 = .ok (.iload_n 2, 1) := by decide +kernel
theorem dC_copyRuns_17 : decode bC_copyRuns 17 = .ok (.isub, 1) := by decide +kernel
theorem dC_copyRuns_18 : decode bC_copyRuns 18 = .ok (.if_icmp .gt (15), 3) := by decide +kernel
theorem dC_copyRuns_21 : decode bC_copyRuns 21 = .ok (.iload_n 3, 1) := by decide +kernel
theorem dC_copyRuns_22 : decode bC_copyRuns 22 = .ok (.aload_n 0, 1) := by decide +kernel
theorem dC_copyRuns_23 : decode bC_copyRuns 23 = .ok (.getfield 9, 3) := by decide +kernel
theorem dC_copyRuns_26 : decode bC_copyRuns 26 = .ok (.arraylength, 1) := by decide +kernel
theorem dC_copyRuns_27 : decode bC_copyRuns 27 = .ok (.iload 4, 2) := by decide +kernel
theorem dC_copyRuns_29 : decode bC_copyRuns 29 = .ok (.isub, 1) := by decide +kernel
theorem dC_copyRuns_30 : decode bC_copyRuns 30 = .ok (.if_icmp .le (5), 3) := by decide +kernel
theorem dC_copyRuns_33 : decode bC_copyRuns 33 = .ok (.iconst 0, 1) := by decide +kernel
theorem dC_copyRuns_34 : decode bC_copyRuns 34 = .ok (.ireturn, 1) := by decide +kernel
theorem dC_copyRuns_35 : decode bC_copyRuns 35 = .ok (.aload_n 1, 1) := by decide +kernel
theorem dC_copyRuns_36 : decode bC_copyRuns 36 = .ok (.iload_n 2, 1) := by decide +kernel
theorem dC_copyRuns_37 : decode bC_copyRuns 37 = .ok (.aload_n 0, 1) := by decide +kernel
theorem dC_copyRuns_38 : decode bC_copyRuns 38 = .ok (.getfield 9, 3) := by decide +kernel
theorem dC_copyRuns_41 : decode bC_copyRuns 41 = .ok (.iload 4, 2) := by decide +kernel
theorem dC_copyRuns_43 : decode bC_copyRuns 43 = .ok (.iload_n 3, 1) := by decide +kernel
theorem dC_copyRuns_44 : decode bC_copyRuns 44 = .ok (.invokestatic 51, 3) := by decide +kernel
theorem dC_copyRuns_47 : decode bC_copyRuns 47 = .ok (.iconst 1, 1) := by decide +kernel
theorem dC_copyRuns_48 : decode bC_copyRuns 48 = .ok (.ireturn, 1) := by decide +kernel
theorem dC_push_0 : decode bC_push 0 = .ok (.aload_n 0, 1) := by decide +kernel
theorem dC_push_1 : decode bC_push 1 = .ok (.getfield 30, 3) := by decide +kernel
theorem dC_push_4 : decode bC_push 4 = .ok (.aload_n 0, 1) := by decide +kernel
theorem dC_push_5 : decode bC_push 5 = .ok (.invokevirtual 37, 3) := by decide +kernel
theorem dC_push_8 : decode bC_push 8 = .ok (.isub, 1) := by decide +kernel
theorem dC_push_9 : decode bC_push 9 = .ok (.istore_n 1, 1) := by decide +kernel
theorem dC_push_10 : decode bC_push 10 = .ok (.aload_n 0, 1) := by decide +kernel
theorem dC_push_11 : decode bC_push 11 = .ok (.getfield 34, 3) := by decide +kernel
theorem dC_push_14 : decode bC_push 14 = .ok (.ifCond .lt (32), 3) := by decide +kernel
theorem dC_push_17 : decode bC_push 17 = .ok (.aload_n 0, 1) := by decide +kernel
theorem dC_push_18 : decode bC_push 18 = .ok (.getfield 34, 3) := by decide +kernel
theorem dC_push_21 : decode bC_push 21 = .ok (.bipush (12), 2) := by decide +kernel
theorem dC_push_23 : decode bC_push 23 = .ok (.if_icmp .ge (23), 3) := by decide +kernel
theorem dC_push_26 : decode bC_push 26 = .ok (.aload_n 0, 1) := by decide +kernel
theorem dC_push_27 : decode bC_push 27 = .ok (.aload_n 0, 1) := by decide +kernel
theorem dC_push_28 : decode bC_push 28 = .ok (.getfield 9, 3) := by decide +kernel
theorem dC_push_31 : decode bC_push 31 = .ok (.aload_n 0, 1) := by decide +kernel
theorem dC_push_32 : decode bC_push 32 = .ok (.invokevirtual 37, 3) := by decide +kernel
theorem dC_push_35 : decode bC_push 35 = .ok (.iload_n 1, 1) := by decide +kernel
theorem dC_push_36 : decode bC_push 36 = .ok (.aload_n 0, 1) := by decide +kernel
theorem dC_push_37 : decode bC_push 37 = .ok (.getfield 30, 3) := by decide +kernel
theorem dC_push_40 : decode bC_push 40 = .ok (.invokevirtual 41, 3) := by decide +kernel
theorem dC_push_43 : decode bC_push 43 = .ok (.ifCond .ne (5), 3) := by decide +kernel
theorem dC_push_46 : decode bC_push 46 = .ok (.iconst 0, 1) := by decide +kernel
theorem dC_push_47 : decode bC_push 47 = .ok (.ireturn, 1) := by decide +kernel
theorem dC_push_48 : decode bC_push 48 = .ok (.aload_n 0, 1) := by decide +kernel
theorem dC_push_49 : decode bC_push 49 = .ok (.dup, 1) := by decide +kernel
theorem dC_push_50 : decode bC_push 50 = .ok (.getfield 34, 3) := by decide +kernel
theorem dC_push_53 : decode bC_push 53 = .ok (.iconst 1, 1) := by decide +kernel
theorem dC_push_54 : decode bC_push 54 = .ok (.iadd, 1) := by decide +kernel
theorem dC_push_55 : decode bC_push 55 = .ok (.putfield 34, 3) := by decide +kernel
theorem dC_push_58 : decode bC_push 58 = .ok (.aload_n 0, 1) := by decide +kernel
theorem dC_push_59 : decode bC_push 59 = .ok (.getfield 15, 3) := by decide +kernel
theorem dC_push_62 : decode bC_push 62 = .ok (.aload_n 0, 1) := by decide +kernel
theorem dC_push_63 : decode bC_push 63 = .ok (.getfield 34, 3) := by decide +kernel
theorem dC_push_66 : decode bC_push 66 = .ok (.aload_n 0, 1) := by decide +kernel
theorem dC_push_67 : decode bC_push 67 = .ok (.getfield 30, 3) := by decide +kernel
theorem dC_push_70 : decode bC_push 70 = .ok (.iastore, 1) := by decide +kernel
theorem dC_push_71 : decode bC_push 71 = .ok (.aload_n 0, 1) := by decide +kernel
theorem dC_push_72 : decode bC_push 72 = .ok (.dup, 1) := by decide +kernel
theorem dC_push_73 : decode bC_push 73 = .ok (.getfield 30, 3) := by decide +kernel
theorem dC_push_76 : decode bC_push 76 = .ok (.iload_n 1, 1) := by decide +kernel
theorem dC_push_77 : decode bC_push 77 = .ok (.iadd, 1) := by decide +kernel
theorem dC_push_78 : decode bC_push 78 = .ok (.putfield 30, 3) := by decide +kernel
theorem dC_push_81 : decode bC_push 81 = .ok (.iconst 1, 1) := by decide +kernel
theorem dC_push_82 : decode bC_push 82 = .ok (.ireturn, 1) := by decide +kernel
theorem dC_pop_0 : decode bC_pop 0 = .ok (.aload_n 0, 1) := by decide +kernel
theorem dC_pop_1 : decode bC_pop 1 = .ok (.getfield 34, 3) := by decide +kernel
theorem dC_pop_4 : decode bC_pop 4 = .ok (.ifCond .gt (5), 3) := by decide +kernel
theorem dC_pop_7 : decode bC_pop 7 = .ok (.iconst 0, 1) := by decide +kernel
theorem dC_pop_8 : decode bC_pop 8 = .ok (.ireturn, 1) := by decide +kernel
theorem dC_pop_9 : decode bC_pop 9 = .ok (.aload_n 0, 1) := by decide +kernel
theorem dC_pop_10 : decode bC_pop 10 = .ok (.aload_n 0, 1) := by decide +kernel
theorem dC_pop_11 : decode bC_pop 11 = .ok (.invokevirtual 37, 3) := by decide +kernel
theorem dC_pop_14 : decode bC_pop 14 = .ok (.putfield 30, 3) := by decide +kernel
theorem dC_pop_17 : decode bC_pop 17 = .ok (.aload_n 0, 1) := by decide +kernel
theorem dC_pop_18 : decode bC_pop 18 = .ok (.dup, 1) := by decide +kernel
theorem dC_pop_19 : decode bC_pop 19 = .ok (.getfield 34, 3) := by decide +kernel
theorem dC_pop_22 : decode bC_pop 22 = .ok (.iconst 1, 1) := by decide +kernel
theorem dC_pop_23 : decode bC_pop 23 = .ok (.isub, 1) := by decide +kernel
theorem dC_pop_24 : decode bC_pop 24 = .ok (.putfield 34, 3) := by decide +kernel
theorem dC_pop_27 : decode bC_pop 27 = .ok (.iconst 1, 1) := by decide +kernel
theorem dC_pop_28 : decode bC_pop 28 = .ok (.ireturn, 1) := by decide +kernel
theorem dC_replace_0 : decode bC_replace 0 = .ok (.aload_n 0, 1) := by decide +kernel
theorem dC_replace_1 : decode bC_replace 1 = .ok (.aload_n 1, 1) := by decide +kernel
theorem dC_replace_2 : decode bC_replace 2 = .ok (.getfield 45, 3) := by decide +kernel
theorem dC_replace_5 : decode bC_replace 5 = .ok (.iconst 0, 1) := by decide +kernel
theorem dC_replace_6 : decode bC_replace 6 = .ok (.aload_n 1, 1) := by decide +kernel
theorem dC_replace_7 : decode bC_replace 7 = .ok (.getfield 48, 3) := by decide +kernel
theorem dC_replace_10 : decode bC_replace 10 = .ok (.aload_n 0, 1) := by decide +kernel
theorem dC_replace_11 : decode bC_replace 11 = .ok (.invokevirtual 37, 3) := by decide +kernel
theorem dC_replace_14 : decode bC_replace 14 = .ok (.invokevirtual 41, 3) := by decide +kernel
theorem dC_replace_17 : decode bC_replace 17 = .ok (.ifCond .ne (5), 3) := by decide +kernel
theorem dC_replace_20 : decode bC_replace 20 = .ok (.iconst 0, 1) := by decide +kernel
theorem dC_replace_21 : decode bC_replace 21 = .ok (.ireturn, 1) := by decide +kernel
theorem dC_replace_22 : decode bC_replace 22 = .ok (.aload_n 0, 1) := by decide +kernel
theorem dC_replace_23 : decode bC_replace 23 = .ok (.aload_n 0, 1) := by decide +kernel
theorem dC_replace_24 : decode bC_replace 24 = .ok (.invokevirtual 37, 3) := by decide +kernel
theorem dC_replace_27 : decode bC_replace 27 = .ok (.aload_n 1, 1) := by decide +kernel
theorem dC_replace_28 : decode bC_replace 28 = .ok (.getfield 48, 3) := by decide +kernel
theorem dC_replace_31 : decode bC_replace 31 = .ok (.iadd, 1) := by decide +kernel
theorem dC_replace_32 : decode bC_replace 32 = .ok (.putfield 30, 3) := by decide +kernel
theorem dC_replace_35 : decode bC_replace 35 = .ok (.iconst 1, 1) := by decide +kernel
theorem dC_replace_36 : decode bC_replace 36 = .ok (.ireturn, 1) := by decide +kernel
theorem dC_has_0 : decode bC_has 0 = .ok (.aload_n 0, 1) := by decide +kernel
theorem dC_has_1 : decode bC_has 1 = .ok (.invokevirtual 37, 3) := by decide +kernel
theorem dC_has_4 : decode bC_has 4 = .ok (.istore_n 3, 1) := by decide +kernel
theorem dC_has_5 : decode bC_has 5 = .ok (.iload_n 3, 1) := by decide +kernel
theorem dC_has_6 : decode bC_has 6 = .ok (.aload_n 0, 1) := by decide +kernel
theorem dC_has_7 : decode bC_has 7 = .ok (.getfield 30, 3) := by decide +kernel
theorem dC_has_10 : decode bC_has 10 = .ok (.if_icmp .ge (45), 3) := by decide +kernel
theorem dC_has_13 : decode bC_has 13 = .ok (.aload_n 0, 1) := by decide +kernel
theorem dC_has_14 : decode bC_has 14 = .ok (.iload_n 3, 1) := by decide +kernel
theorem dC_has_15 : decode bC_has 15 = .ok (.invokevirtual 57, 3) := by decide +kernel
theorem dC_has_18 : decode bC_has 18 = .ok (.istore 4, 2) := by decide +kernel
theorem dC_has_20 : decode bC_has 20 = .ok (.iload 4, 2) := by decide +kernel
theorem dC_has_22 : decode bC_has 22 = .ok (.invokestatic 61, 3) := by decide +kernel
theorem dC_has_25 : decode bC_has 25 = .ok (.iload_n 2, 1) := by decide +kernel
theorem dC_has_26 : decode bC_has 26 = .ok (.if_icmp .ne (23), 3) := by decide +kernel
theorem dC_has_29 : decode bC_has 29 = .ok (.iload 4, 2) := by decide +kernel
theorem dC_has_31 : decode bC_has 31 = .ok (.invokestatic 64, 3) := by decide +kernel
theorem dC_has_34 : decode bC_has 34 = .ok (.iload_n 1, 1) := by decide +kernel
theorem dC_has_35 : decode bC_has 35 = .ok (.if_icmp .gt (14), 3) := by decide +kernel
theorem dC_has_38 : decode bC_has 38 = .ok (.iload_n 1, 1) := by decide +kernel
theorem dC_has_39 : decode bC_has 39 = .ok (.iload 4, 2) := by decide +kernel
theorem dC_has_41 : decode bC_has 41 = .ok (.invokestatic 67, 3) := by decide +kernel
theorem dC_has_44 : decode bC_has 44 = .ok (.if_icmp .ge (5), 3) := by decide +kernel
theorem dC_has_47 : decode bC_has 47 = .ok (.iconst 1, 1) := by decide +kernel
theorem dC_has_48 : decode bC_has 48 = .ok (.ireturn, 1) := by decide +kernel
theorem dC_has_49 : decode bC_has 49 = .ok (.iinc 3 (1), 3) := by decide +kernel
theorem dC_has_52 : decode bC_has 52 = .ok (.goto (-47), 3) := by decide +kernel
theorem dC_has_55 : decode bC_has 55 = .ok (.iconst 0, 1) := by decide +kernel
theorem dC_has_56 : decode bC_has 56 = .ok (.ireturn, 1) := by decide +kernel
theorem dC_pixelCount_0 : decode bC_pixelCount 0 = .ok (.iconst 0, 1) := by decide +kernel
theorem dC_pixelCount_1 : decode bC_pixelCount 1 = .ok (.istore_n 1, 1) := by decide +kernel
theorem dC_pixelCount_2 : decode bC_pixelCount 2 = .ok (.aload_n 0, 1) := by decide +kernel
theorem dC_pixelCount_3 : decode bC_pixelCount 3 = .ok (.invokevirtual 37, 3) := by decide +kernel
theorem dC_pixelCount_6 : decode bC_pixelCount 6 = .ok (.istore_n 2, 1) := by decide +kernel
theorem dC_pixelCount_7 : decode bC_pixelCount 7 = .ok (.iload_n 2, 1) := by decide +kernel
theorem dC_pixelCount_8 : decode bC_pixelCount 8 = .ok (.aload_n 0, 1) := by decide +kernel
theorem dC_pixelCount_9 : decode bC_pixelCount 9 = .ok (.getfield 30, 3) := by decide +kernel
theorem dC_pixelCount_12 : decode bC_pixelCount 12 = .ok (.if_icmp .ge (20), 3) := by decide +kernel
theorem dC_pixelCount_15 : decode bC_pixelCount 15 = .ok (.iload_n 1, 1) := by decide +kernel
theorem dC_pixelCount_16 : decode bC_pixelCount 16 = .ok (.aload_n 0, 1) := by decide +kernel
theorem dC_pixelCount_17 : decode bC_pixelCount 17 = .ok (.iload_n 2, 1) := by decide +kernel
theorem dC_pixelCount_18 : decode bC_pixelCount 18 = .ok (.invokevirtual 57, 3) := by decide +kernel
theorem dC_pixelCount_21 : decode bC_pixelCount 21 = .ok (.invokestatic 70, 3) := by decide +kernel
theorem dC_pixelCount_24 : decode bC_pixelCount 24 = .ok (.iadd, 1) := by decide +kernel
theorem dC_pixelCount_25 : decode bC_pixelCount 25 = .ok (.istore_n 1, 1) := by decide +kernel
theorem dC_pixelCount_26 : decode bC_pixelCount 26 = .ok (.iinc 2 (1), 3) := by decide +kernel
theorem dC_pixelCount_29 : decode bC_pixelCount 29 = .ok (.goto (-22), 3) := by decide +kernel
theorem dC_pixelCount_32 : decode bC_pixelCount 32 = .ok (.iload_n 1, 1) := by decide +kernel
theorem dC_pixelCount_33 : decode bC_pixelCount 33 = .ok (.ireturn, 1) := by decide +kernel
theorem dW_hasPixel_0 : decode bW_hasPixel 0 = .ok (.iload_n 1, 1) := by decide +kernel
theorem dW_hasPixel_1 : decode bW_hasPixel 1 = .ok (.ifCond .lt (27), 3) := by decide +kernel
theorem dW_hasPixel_4 : decode bW_hasPixel 4 = .ok (.iload_n 1, 1) := by decide +kernel
theorem dW_hasPixel_5 : decode bW_hasPixel 5 = .ok (.aload_n 0, 1) := by decide +kernel
theorem dW_hasPixel_6 : decode bW_hasPixel 6 = .ok (.getfield 18, 3) := by decide +kernel
theorem dW_hasPixel_9 : decode bW_hasPixel 9 = .ok (.if_icmp .ge (19), 3) := by decide +kernel
theorem dW_hasPixel_12 : decode bW_hasPixel 12 = .ok (.iload_n 2, 1) := by decide +kernel
theorem dW_hasPixel_13 : decode bW_hasPixel 13 = .ok (.ifCond .lt (15), 3) := by decide +kernel
theorem dW_hasPixel_16 : decode bW_hasPixel 16 = .ok (.iload_n 2, 1) := by decide +kernel
theorem dW_hasPixel_17 : decode bW_hasPixel 17 = .ok (.aload_n 0, 1) := by decide +kernel
theorem dW_hasPixel_18 : decode bW_hasPixel 18 = .ok (.getfield 22, 3) := by decide +kernel
theorem dW_hasPixel_21 : decode bW_hasPixel 21 = .ok (.if_icmp .ge (7), 3) := by decide +kernel
theorem dW_hasPixel_24 : decode bW_hasPixel 24 = .ok (.iconst 1, 1) := by decide +kernel
theorem dW_hasPixel_25 : decode bW_hasPixel 25 = .ok (.goto (4), 3) := by decide +kernel
theorem dW_hasPixel_28 : decode bW_hasPixel 28 = .ok (.iconst 0, 1) := by decide +kernel
theorem dW_hasPixel_29 : decode bW_hasPixel 29 = .ok (.ireturn, 1) := by decide +kernel
theorem dW_paintRun_0 : decode bW_paintRun 0 = .ok (.iload_n 1, 1) := by decide +kernel
theorem dW_paintRun_1 : decode bW_paintRun 1 = .ok (.invokestatic 143, 3) := by decide +kernel
theorem dW_paintRun_4 : decode bW_paintRun 4 = .ok (.aload_n 0, 1) := by decide +kernel
theorem dW_paintRun_5 : decode bW_paintRun 5 = .ok (.getfield 18, 3) := by decide +kernel
theorem dW_paintRun_8 : decode bW_paintRun 8 = .ok (.imul, 1) := by decide +kernel
theorem dW_paintRun_9 : decode bW_paintRun 9 = .ok (.iload_n 1, 1) := by decide +kernel
theorem dW_paintRun_10 : decode bW_paintRun 10 = .ok (.invokestatic 158, 3) := by decide +kernel
theorem dW_paintRun_13 : decode bW_paintRun 13 = .ok (.iadd, 1) := by decide +kernel
theorem dW_paintRun_14 : decode bW_paintRun 14 = .ok (.istore_n 3, 1) := by decide +kernel
theorem dW_paintRun_15 : decode bW_paintRun 15 = .ok (.iload_n 3, 1) := by decide +kernel
theorem dW_paintRun_16 : decode bW_paintRun 16 = .ok (.iload_n 1, 1) := by decide +kernel
theorem dW_paintRun_17 : decode bW_paintRun 17 = .ok (.invokestatic 174, 3) := by decide +kernel
theorem dW_paintRun_20 : decode bW_paintRun 20 = .ok (.iadd, 1) := by decide +kernel
theorem dW_paintRun_21 : decode bW_paintRun 21 = .ok (.aload_n 0, 1) := by decide +kernel
theorem dW_paintRun_22 : decode bW_paintRun 22 = .ok (.getfield 25, 3) := by decide +kernel
theorem dW_paintRun_25 : decode bW_paintRun 25 = .ok (.arraylength, 1) := by decide +kernel
theorem dW_paintRun_26 : decode bW_paintRun 26 = .ok (.invokestatic 9, 3) := by decide +kernel
theorem dW_paintRun_29 : decode bW_paintRun 29 = .ok (.istore 4, 2) := by decide +kernel
theorem dW_paintRun_31 : decode bW_paintRun 31 = .ok (.iconst 0, 1) := by decide +kernel
theorem dW_paintRun_32 : decode bW_paintRun 32 = .ok (.iload_n 3, 1) := by decide +kernel
theorem dW_paintRun_33 : decode bW_paintRun 33 = .ok (.invokestatic 15, 3) := by decide +kernel
theorem dW_paintRun_36 : decode bW_paintRun 36 = .ok (.istore 5, 2) := by decide +kernel
theorem dW_paintRun_38 : decode bW_paintRun 38 = .ok (.iload 5, 2) := by decide +kernel
theorem dW_paintRun_40 : decode bW_paintRun 40 = .ok (.iload 4, 2) := by decide +kernel
theorem dW_paintRun_42 : decode bW_paintRun 42 = .ok (.if_icmp .ge (17), 3) := by decide +kernel
theorem dW_paintRun_45 : decode bW_paintRun 45 = .ok (.aload_n 0, 1) := by decide +kernel
theorem dW_paintRun_46 : decode bW_paintRun 46 = .ok (.getfield 25, 3) := by decide +kernel
theorem dW_paintRun_49 : decode bW_paintRun 49 = .ok (.iload 5, 2) := by decide +kernel
theorem dW_paintRun_51 : decode bW_paintRun 51 = .ok (.iload_n 2, 1) := by decide +kernel
theorem dW_paintRun_52 : decode bW_paintRun 52 = .ok (.iastore, 1) := by decide +kernel
theorem dW_paintRun_53 : decode bW_paintRun 53 = .ok (.iinc 5 (1), 3) := by decide +kernel
theorem dW_paintRun_56 : decode bW_paintRun 56 = .ok (.goto (-18), 3) := by decide +kernel
theorem dW_paintRun_59 : decode bW_paintRun 59 = .ok (.return_, 1) := by decide +kernel
theorem dW_paint_0 : decode bW_paint 0 = .ok (.iconst 0, 1) := by decide +kernel
theorem dW_paint_1 : decode bW_paint 1 = .ok (.istore 5, 2) := by decide +kernel
theorem dW_paint_3 : decode bW_paint 3 = .ok (.iconst 0, 1) := by decide +kernel
theorem dW_paint_4 : decode bW_paint 4 = .ok (.iload_n 2, 1) := by decide +kernel
theorem dW_paint_5 : decode bW_paint 5 = .ok (.invokestatic 15, 3) := by decide +kernel
theorem dW_paint_8 : decode bW_paint 8 = .ok (.istore 6, 2) := by decide +kernel
theorem dW_paint_10 : decode bW_paint 10 = .ok (.iload 6, 2) := by decide +kernel
theorem dW_paint_12 : decode bW_paint 12 = .ok (.iload_n 3, 1) := by decide +kernel
theorem dW_paint_13 : decode bW_paint 13 = .ok (.if_icmp .ge (38), 3) := by decide +kernel
theorem dW_paint_16 : decode bW_paint 16 = .ok (.iload 6, 2) := by decide +kernel
theorem dW_paint_18 : decode bW_paint 18 = .ok (.aload_n 1, 1) := by decide +kernel
theorem dW_paint_19 : decode bW_paint 19 = .ok (.arraylength, 1) := by decide +kernel
theorem dW_paint_20 : decode bW_paint 20 = .ok (.if_icmp .ge (31), 3) := by decide +kernel
theorem dW_paint_23 : decode bW_paint 23 = .ok (.aload_n 0, 1) := by decide +kernel
theorem dW_paint_24 : decode bW_paint 24 = .ok (.aload_n 1, 1) := by decide +kernel
theorem dW_paint_25 : decode bW_paint 25 = .ok (.iload 6, 2) := by decide +kernel
theorem dW_paint_27 : decode bW_paint 27 = .ok (.iaload, 1) := by decide +kernel
theorem dW_paint_28 : decode bW_paint 28 = .ok (.iload 4, 2) := by decide +kernel
theorem dW_paint_30 : decode bW_paint 30 = .ok (.invokevirtual 171, 3) := by decide +kernel
theorem dW_paint_33 : decode bW_paint 33 = .ok (.iload 5, 2) := by decide +kernel
theorem dW_paint_35 : decode bW_paint 35 = .ok (.aload_n 1, 1) := by decide +kernel
theorem dW_paint_36 : decode bW_paint 36 = .ok (.iload 6, 2) := by decide +kernel
theorem dW_paint_38 : decode bW_paint 38 = .ok (.iaload, 1) := by decide +kernel
theorem dW_paint_39 : decode bW_paint 39 = .ok (.invokestatic 174, 3) := by decide +kernel
theorem dW_paint_42 : decode bW_paint 42 = .ok (.iadd, 1) := by decide +kernel
theorem dW_paint_43 : decode bW_paint 43 = .ok (.istore 5, 2) := by decide +kernel
theorem dW_paint_45 : decode bW_paint 45 = .ok (.iinc 6 (1), 3) := by decide +kernel
theorem dW_paint_48 : decode bW_paint 48 = .ok (.goto (-38), 3) := by decide +kernel
theorem dW_paint_51 : decode bW_paint 51 = .ok (.iload 5, 2) := by decide +kernel
theorem dW_paint_53 : decode bW_paint 53 = .ok (.ireturn, 1) := by decide +kernel
theorem dW_cutRun_0 : decode bW_cutRun 0 = .ok (.iload_n 1, 1) := by decide +kernel
theorem dW_cutRun_1 : decode bW_cutRun 1 = .ok (.invokestatic 143, 3) := by decide +kernel
theorem dW_cutRun_4 : decode bW_cutRun 4 = .ok (.istore_n 3, 1) := by decide +kernel
theorem dW_cutRun_5 : decode bW_cutRun 5 = .ok (.iload_n 1, 1) := by decide +kernel
theorem dW_cutRun_6 : decode bW_cutRun 6 = .ok (.invokestatic 155, 3) := by decide +kernel
theorem dW_cutRun_9 : decode bW_cutRun 9 = .ok (.aload_n 0, 1) := by decide +kernel
theorem dW_cutRun_10 : decode bW_cutRun 10 = .ok (.getfield 51, 3) := by decide +kernel
theorem dW_cutRun_13 : decode bW_cutRun 13 = .ok (.arraylength, 1) := by decide +kernel
theorem dW_cutRun_14 : decode bW_cutRun 14 = .ok (.invokestatic 9, 3) := by decide +kernel
theorem dW_cutRun_17 : decode bW_cutRun 17 = .ok (.istore 4, 2) := by decide +kernel
theorem dW_cutRun_19 : decode bW_cutRun 19 = .ok (.iconst (-1), 1) := by decide +kernel
theorem dW_cutRun_20 : decode bW_cutRun 20 = .ok (.istore 5, 2) := by decide +kernel
theorem dW_cutRun_22 : decode bW_cutRun 22 = .ok (.iload_n 1, 1) := by decide +kernel
theorem dW_cutRun_23 : decode bW_cutRun 23 = .ok (.invokestatic 158, 3) := by decide +kernel
theorem dW_cutRun_26 : decode bW_cutRun 26 = .ok (.istore 6, 2) := by decide +kernel
theorem dW_cutRun_28 : decode bW_cutRun 28 = .ok (.iload 6, 2) := by decide +kernel
theorem dW_cutRun_30 : decode bW_cutRun 30 = .ok (.iload 4, 2) := by decide +kernel
theorem dW_cutRun_32 : decode bW_cutRun 32 = .ok (.if_icmp .ge (64), 3) := by decide +kernel
theorem dW_cutRun_35 : decode bW_cutRun 35 = .ok (.aload_n 0, 1) := by decide +kernel
theorem dW_cutRun_36 : decode bW_cutRun 36 = .ok (.getfield 51, 3) := by decide +kernel
theorem dW_cutRun_39 : decode bW_cutRun 39 = .ok (.iload 6, 2) := by decide +kernel
theorem dW_cutRun_41 : decode bW_cutRun 41 = .ok (.iaload, 1) := by decide +kernel
theorem dW_cutRun_42 : decode bW_cutRun 42 = .ok (.iload_n 2, 1) := by decide +kernel
theorem dW_cutRun_43 : decode bW_cutRun 43 = .ok (.invokestatic 161, 3) := by decide +kernel
theorem dW_cutRun_46 : decode bW_cutRun 46 = .ok (.istore 7, 2) := by decide +kernel
theorem dW_cutRun_48 : decode bW_cutRun 48 = .ok (.iload 7, 2) := by decide +kernel
theorem dW_cutRun_50 : decode bW_cutRun 50 = .ok (.ifCond .eq (12), 3) := by decide +kernel
theorem dW_cutRun_53 : decode bW_cutRun 53 = .ok (.iload 5, 2) := by decide +kernel
theorem dW_cutRun_55 : decode bW_cutRun 55 = .ok (.ifCond .ge (7), 3) := by decide +kernel
theorem dW_cutRun_58 : decode bW_cutRun 58 = .ok (.iload 6, 2) := by decide +kernel
theorem dW_cutRun_60 : decode bW_cutRun 60 = .ok (.istore 5, 2) := by decide +kernel
theorem dW_cutRun_62 : decode bW_cutRun 62 = .ok (.iload 7, 2) := by decide +kernel
theorem dW_cutRun_64 : decode bW_cutRun 64 = .ok (.ifCond .ne (26), 3) := by decide +kernel
theorem dW_cutRun_67 : decode bW_cutRun 67 = .ok (.iload 5, 2) := by decide +kernel
theorem dW_cutRun_69 : decode bW_cutRun 69 = .ok (.ifCond .lt (21), 3) := by decide +kernel
theorem dW_cutRun_72 : decode bW_cutRun 72 = .ok (.aload_n 0, 1) := by decide +kernel
theorem dW_cutRun_73 : decode bW_cutRun 73 = .ok (.getfield 59, 3) := by decide +kernel
theorem dW_cutRun_76 : decode bW_cutRun 76 = .ok (.iload_n 3, 1) := by decide +kernel
theorem dW_cutRun_77 : decode bW_cutRun 77 = .ok (.iload 5, 2) := by decide +kernel
theorem dW_cutRun_79 : decode bW_cutRun 79 = .ok (.iload 6, 2) := by decide +kernel
theorem dW_cutRun_81 : decode bW_cutRun 81 = .ok (.invokestatic 164, 3) := by decide +kernel
theorem dW_cutRun_84 : decode bW_cutRun 84 = .ok (.invokevirtual 168, 3) := by decide +kernel
theorem dW_cutRun_87 : decode bW_cutRun 87 = .ok (.iconst (-1), 1) := by decide +kernel
theorem dW_cutRun_88 : decode bW_cutRun 88 = .ok (.istore 5, 2) := by decide +kernel
theorem dW_cutRun_90 : decode bW_cutRun 90 = .ok (.iinc 6 (1), 3) := by decide +kernel
theorem dW_cutRun_93 : decode bW_cutRun 93 = .ok (.goto (-65), 3) := by decide +kernel
theorem dW_cutRun_96 : decode bW_cutRun 96 = .ok (.iload 5, 2) := by decide +kernel
theorem dW_cutRun_98 : decode bW_cutRun 98 = .ok (.ifCond .lt (18), 3) := by decide +kernel
theorem dW_cutRun_101 : decode bW_cutRun 101 = .ok (.aload_n 0, 1) := by decide +kernel
theorem dW_cutRun_102 : decode bW_cutRun 102 = .ok (.getfield 59, 3) := by decide +kernel
theorem dW_cutRun_105 : decode bW_cutRun 105 = .ok (.iload_n 3, 1) := by decide +kernel
theorem dW_cutRun_106 : decode bW_cutRun 106 = .ok (.iload 5, 2) := by decide +kernel
theorem dW_cutRun_108 : decode bW_cutRun 108 = .ok (.iload 4, 2) := by decide +kernel
theorem dW_cutRun_110 : decode bW_cutRun 110 = .ok (.invokestatic 164, 3) := by decide +kernel
theorem dW_cutRun_113 : decode bW_cutRun 113 = .ok (.invokevirtual 168, 3) := by decide +kernel
theorem dW_cutRun_116 : decode bW_cutRun 116 = .ok (.return_, 1) := by decide +kernel
theorem dW_cutClip_0 : decode bW_cutClip 0 = .ok (.aload_n 0, 1) := by decide +kernel
theorem dW_cutClip_1 : decode bW_cutClip 1 = .ok (.getfield 59, 3) := by decide +kernel
theorem dW_cutClip_4 : decode bW_cutClip 4 = .ok (.iconst 0, 1) := by decide +kernel
theorem dW_cutClip_5 : decode bW_cutClip 5 = .ok (.putfield 105, 3) := by decide +kernel
theorem dW_cutClip_8 : decode bW_cutClip 8 = .ok (.iconst (-1), 1) := by decide +kernel
theorem dW_cutClip_9 : decode bW_cutClip 9 = .ok (.istore_n 2, 1) := by decide +kernel
theorem dW_cutClip_10 : decode bW_cutClip 10 = .ok (.iconst 0, 1) := by decide +kernel
theorem dW_cutClip_11 : decode bW_cutClip 11 = .ok (.istore_n 3, 1) := by decide +kernel
theorem dW_cutClip_12 : decode bW_cutClip 12 = .ok (.aload_n 0, 1) := by decide +kernel
theorem dW_cutClip_13 : decode bW_cutClip 13 = .ok (.getfield 47, 3) := by decide +kernel
theorem dW_cutClip_16 : decode bW_cutClip 16 = .ok (.invokevirtual 134, 3) := by decide +kernel
theorem dW_cutClip_19 : decode bW_cutClip 19 = .ok (.istore 4, 2) := by decide +kernel
theorem dW_cutClip_21 : decode bW_cutClip 21 = .ok (.iload 4, 2) := by decide +kernel
theorem dW_cutClip_23 : decode bW_cutClip 23 = .ok (.aload_n 0, 1) := by decide +kernel
theorem dW_cutClip_24 : decode bW_cutClip 24 = .ok (.getfield 47, 3) := by decide +kernel
theorem dW_cutClip_27 : decode bW_cutClip 27 = .ok (.getfield 130, 3) := by decide +kernel
theorem dW_cutClip_30 : decode bW_cutClip 30 = .ok (.if_icmp .ge (59), 3) := by decide +kernel
theorem dW_cutClip_33 : decode bW_cutClip 33 = .ok (.aload_n 0, 1) := by decide +kernel
theorem dW_cutClip_34 : decode bW_cutClip 34 = .ok (.getfield 47, 3) := by decide +kernel
theorem dW_cutClip_37 : decode bW_cutClip 37 = .ok (.iload 4, 2) := by decide +kernel
theorem dW_cutClip_39 : decode bW_cutClip 39 = .ok (.invokevirtual 139, 3) := by decide +kernel
theorem dW_cutClip_42 : decode bW_cutClip 42 = .ok (.istore 5, 2) := by decide +kernel
theorem dW_cutClip_44 : decode bW_cutClip 44 = .ok (.iload 5, 2) := by decide +kernel
theorem dW_cutClip_46 : decode bW_cutClip 46 = .ok (.invokestatic 143, 3) := by decide +kernel
theorem dW_cutClip_49 : decode bW_cutClip 49 = .ok (.iload_n 2, 1) := by decide +kernel
theorem dW_cutClip_50 : decode bW_cutClip 50 = .ok (.if_icmp .eq (22), 3) := by decide +kernel
theorem dW_cutClip_53 : decode bW_cutClip 53 = .ok (.iload 5, 2) := by decide +kernel
theorem dW_cutClip_55 : decode bW_cutClip 55 = .ok (.invokestatic 143, 3) := by decide +kernel
theorem dW_cutClip_58 : decode bW_cutClip 58 = .ok (.istore_n 2, 1) := by decide +kernel
theorem dW_cutClip_59 : decode bW_cutClip 59 = .ok (.aload_n 0, 1) := by decide +kernel
theorem dW_cutClip_60 : decode bW_cutClip 60 = .ok (.getfield 38, 3) := by decide +kernel
theorem dW_cutClip_63 : decode bW_cutClip 63 = .ok (.iload_n 2, 1) := by decide +kernel
theorem dW_cutClip_64 : decode bW_cutClip 64 = .ok (.aload_n 0, 1) := by decide +kernel
theorem dW_cutClip_65 : decode bW_cutClip 65 = .ok (.getfield 51, 3) := by decide +kernel
theorem dW_cutClip_68 : decode bW_cutClip 68 = .ok (.invokevirtual 148, 3) := by decide +kernel
theorem dW_cutClip_71 : decode bW_cutClip 71 = .ok (.istore_n 3, 1) := by decide +kernel
theorem dW_cutClip_72 : decode bW_cutClip 72 = .ok (.iload_n 3, 1) := by decide +kernel
theorem dW_cutClip_73 : decode bW_cutClip 73 = .ok (.ifCond .eq (10), 3) := by decide +kernel
theorem dW_cutClip_76 : decode bW_cutClip 76 = .ok (.aload_n 0, 1) := by decide +kernel
theorem dW_cutClip_77 : decode bW_cutClip 77 = .ok (.iload 5, 2) := by decide +kernel
theorem dW_cutClip_79 : decode bW_cutClip 79 = .ok (.iload_n 1, 1) := by decide +kernel
theorem dW_cutClip_80 : decode bW_cutClip 80 = .ok (.invokevirtual 152, 3) := by decide +kernel
theorem dW_cutClip_83 : decode bW_cutClip 83 = .ok (.iinc 4 (1), 3) := by decide +kernel
theorem dW_cutClip_86 : decode bW_cutClip 86 = .ok (.goto (-65), 3) := by decide +kernel
theorem dW_cutClip_89 : decode bW_cutClip 89 = .ok (.return_, 1) := by decide +kernel
theorem dW_columns_0 : decode bW_columns 0 = .ok (.aload_n 0, 1) := by decide +kernel
theorem dW_columns_1 : decode bW_columns 1 = .ok (.getfield 18, 3) := by decide +kernel
theorem dW_columns_4 : decode bW_columns 4 = .ok (.ireturn, 1) := by decide +kernel
theorem dW_rows_0 : decode bW_rows 0 = .ok (.aload_n 0, 1) := by decide +kernel
theorem dW_rows_1 : decode bW_rows 1 = .ok (.getfield 22, 3) := by decide +kernel
theorem dW_rows_4 : decode bW_rows 4 = .ok (.ireturn, 1) := by decide +kernel
theorem dW_move_0 : decode bW_move 0 = .ok (.iload_n 1, 1) := by decide +kernel
theorem dW_move_1 : decode bW_move 1 = .ok (.invokestatic 63, 3) := by decide +kernel
theorem dW_move_4 : decode bW_move 4 = .ok (.ifCond .eq (10), 3) := by decide +kernel
theorem dW_move_7 : decode bW_move 7 = .ok (.iload_n 2, 1) := by decide +kernel
theorem dW_move_8 : decode bW_move 8 = .ok (.invokestatic 63, 3) := by decide +kernel
theorem dW_move_11 : decode bW_move 11 = .ok (.ifCond .ne (5), 3) := by decide +kernel
theorem dW_move_14 : decode bW_move 14 = .ok (.iconst (-1), 1) := by decide +kernel
theorem dW_move_15 : decode bW_move 15 = .ok (.ireturn, 1) := by decide +kernel
theorem dW_move_16 : decode bW_move 16 = .ok (.aload_n 0, 1) := by decide +kernel
theorem dW_move_17 : decode bW_move 17 = .ok (.getfield 38, 3) := by decide +kernel
theorem dW_move_20 : decode bW_move 20 = .ok (.invokevirtual 67, 3) := by decide +kernel
theorem dW_move_23 : decode bW_move 23 = .ok (.ifCond .eq (6), 3) := by decide +kernel
theorem dW_move_26 : decode bW_move 26 = .ok (.bipush (-3), 2) := by decide +kernel
theorem dW_move_28 : decode bW_move 28 = .ok (.ireturn, 1) := by decide +kernel
theorem dW_move_29 : decode bW_move 29 = .ok (.aload_n 0, 1) := by decide +kernel
theorem dW_move_30 : decode bW_move 30 = .ok (.getfield 38, 3) := by decide +kernel
theorem dW_move_33 : decode bW_move 33 = .ok (.iload_n 1, 1) := by decide +kernel
theorem dW_move_34 : decode bW_move 34 = .ok (.iload_n 2, 1) := by decide +kernel
theorem dW_move_35 : decode bW_move 35 = .ok (.invokevirtual 71, 3) := by decide +kernel
theorem dW_move_38 : decode bW_move 38 = .ok (.aload_n 0, 1) := by decide +kernel
theorem dW_move_39 : decode bW_move 39 = .ok (.getfield 38, 3) := by decide +kernel
theorem dW_move_42 : decode bW_move 42 = .ok (.getfield 74, 3) := by decide +kernel
theorem dW_move_45 : decode bW_move 45 = .ok (.ireturn, 1) := by decide +kernel
theorem dW_line_0 : decode bW_line 0 = .ok (.iload_n 1, 1) := by decide +kernel
theorem dW_line_1 : decode bW_line 1 = .ok (.invokestatic 63, 3) := by decide +kernel
theorem dW_line_4 : decode bW_line 4 = .ok (.ifCond .eq (10), 3) := by decide +kernel
theorem dW_line_7 : decode bW_line 7 = .ok (.iload_n 2, 1) := by decide +kernel
theorem dW_line_8 : decode bW_line 8 = .ok (.invokestatic 63, 3) := by decide +kernel
theorem dW_line_11 : decode bW_line 11 = .ok (.ifCond .ne (5), 3) := by decide +kernel
theorem dW_line_14 : decode bW_line 14 = .ok (.iconst (-1), 1) := by decide +kernel
theorem dW_line_15 : decode bW_line 15 = .ok (.ireturn, 1) := by decide +kernel
theorem dW_line_16 : decode bW_line 16 = .ok (.aload_n 0, 1) := by decide +kernel
theorem dW_line_17 : decode bW_line 17 = .ok (.getfield 38, 3) := by decide +kernel
theorem dW_line_20 : decode bW_line 20 = .ok (.invokevirtual 77, 3) := by decide +kernel
theorem dW_line_23 : decode bW_line 23 = .ok (.ifCond .ne (6), 3) := by decide +kernel
theorem dW_line_26 : decode bW_line 26 = .ok (.bipush (-2), 2) := by decide +kernel
theorem dW_line_28 : decode bW_line 28 = .ok (.ireturn, 1) := by decide +kernel
theorem dW_line_29 : decode bW_line 29 = .ok (.aload_n 0, 1) := by decide +kernel
theorem dW_line_30 : decode bW_line 30 = .ok (.getfield 38, 3) := by decide +kernel
theorem dW_line_33 : decode bW_line 33 = .ok (.invokevirtual 67, 3) := by decide +kernel
theorem dW_line_36 : decode bW_line 36 = .ok (.ifCond .eq (6), 3) := by decide +kernel
theorem dW_line_39 : decode bW_line 39 = .ok (.bipush (-3), 2) := by decide +kernel
theorem dW_line_41 : decode bW_line 41 = .ok (.ireturn, 1) := by decide +kernel
theorem dW_line_42 : decode bW_line 42 = .ok (.aload_n 0, 1) := by decide +kernel
theorem dW_line_43 : decode bW_line 43 = .ok (.getfield 38, 3) := by decide +kernel
theorem dW_line_46 : decode bW_line 46 = .ok (.iload_n 1, 1) := by decide +kernel
theorem dW_line_47 : decode bW_line 47 = .ok (.iload_n 2, 1) := by decide +kernel
theorem dW_line_48 : decode bW_line 48 = .ok (.invokevirtual 80, 3) := by decide +kernel
theorem dW_line_51 : decode bW_line 51 = .ok (.aload_n 0, 1) := by decide +kernel
theorem dW_line_52 : decode bW_line 52 = .ok (.getfield 38, 3) := by decide +kernel
theorem dW_line_55 : decode bW_line 55 = .ok (.getfield 74, 3) := by decide +kernel
theorem dW_line_58 : decode bW_line 58 = .ok (.ireturn, 1) := by decide +kernel
theorem dW_clear_0 : decode bW_clear 0 = .ok (.aload_n 0, 1) := by decide +kernel
theorem dW_clear_1 : decode bW_clear 1 = .ok (.getfield 38, 3) := by decide +kernel
theorem dW_clear_4 : decode bW_clear 4 = .ok (.getfield 74, 3) := by decide +kernel
theorem dW_clear_7 : decode bW_clear 7 = .ok (.istore_n 1, 1) := by decide +kernel
theorem dW_clear_8 : decode bW_clear 8 = .ok (.aload_n 0, 1) := by decide +kernel
theorem dW_clear_9 : decode bW_clear 9 = .ok (.getfield 38, 3) := by decide +kernel
theorem dW_clear_12 : decode bW_clear 12 = .ok (.invokevirtual 83, 3) := by decide +kernel
theorem dW_clear_15 : decode bW_clear 15 = .ok (.iload_n 1, 1) := by decide +kernel
theorem dW_clear_16 : decode bW_clear 16 = .ok (.ireturn, 1) := by decide +kernel
theorem dW_winding_0 : decode bW_winding 0 = .ok (.aload_n 0, 1) := by decide +kernel
theorem dW_winding_1 : decode bW_winding 1 = .ok (.iload_n 1, 1) := by decide +kernel
theorem dW_winding_2 : decode bW_winding 2 = .ok (.iload_n 2, 1) := by decide +kernel
theorem dW_winding_3 : decode bW_winding 3 = .ok (.invokevirtual 86, 3) := by decide +kernel
theorem dW_winding_6 : decode bW_winding 6 = .ok (.ifCond .eq (15), 3) := by decide +kernel
theorem dW_winding_9 : decode bW_winding 9 = .ok (.aload_n 0, 1) := by decide +kernel
theorem dW_winding_10 : decode bW_winding 10 = .ok (.getfield 38, 3) := by decide +kernel
theorem dW_winding_13 : decode bW_winding 13 = .ok (.iload_n 1, 1) := by decide +kernel
theorem dW_winding_14 : decode bW_winding 14 = .ok (.iload_n 2, 1) := by decide +kernel
theorem dW_winding_15 : decode bW_winding 15 = .ok (.invokevirtual 90, 3) := by decide +kernel
theorem dW_winding_18 : decode bW_winding 18 = .ok (.goto (4), 3) := by decide +kernel
theorem dW_winding_21 : decode bW_winding 21 = .ok (.iconst 0, 1) := by decide +kernel
theorem dW_winding_22 : decode bW_winding 22 = .ok (.ireturn, 1) := by decide +kernel
theorem dW_gray_0 : decode bW_gray 0 = .ok (.aload_n 0, 1) := by decide +kernel
theorem dW_gray_1 : decode bW_gray 1 = .ok (.iload_n 1, 1) := by decide +kernel
theorem dW_gray_2 : decode bW_gray 2 = .ok (.iload_n 2, 1) := by decide +kernel
theorem dW_gray_3 : decode bW_gray 3 = .ok (.invokevirtual 86, 3) := by decide +kernel
theorem dW_gray_6 : decode bW_gray 6 = .ok (.ifCond .eq (19), 3) := by decide +kernel
theorem dW_gray_9 : decode bW_gray 9 = .ok (.aload_n 0, 1) := by decide +kernel
theorem dW_gray_10 : decode bW_gray 10 = .ok (.getfield 25, 3) := by decide +kernel
theorem dW_gray_13 : decode bW_gray 13 = .ok (.iload_n 2, 1) := by decide +kernel
theorem dW_gray_14 : decode bW_gray 14 = .ok (.aload_n 0, 1) := by decide +kernel
theorem dW_gray_15 : decode bW_gray 15 = .ok (.getfield 18, 3) := by decide +kernel
theorem dW_gray_18 : decode bW_gray 18 = .ok (.imul, 1) := by decide +kernel
theorem dW_gray_19 : decode bW_gray 19 = .ok (.iload_n 1, 1) := by decide +kernel
theorem dW_gray_20 : decode bW_gray 20 = .ok (.iadd, 1) := by decide +kernel
theorem dW_gray_21 : decode bW_gray 21 = .ok (.iaload, 1) := by decide +kernel
theorem dW_gray_22 : decode bW_gray 22 = .ok (.goto (4), 3) := by decide +kernel
theorem dW_gray_25 : decode bW_gray 25 = .ok (.iconst (-1), 1) := by decide +kernel
theorem dW_gray_26 : decode bW_gray 26 = .ok (.ireturn, 1) := by decide +kernel
theorem dW_open_0 : decode bW_open 0 = .ok (.aload_n 0, 1) := by decide +kernel
theorem dW_open_1 : decode bW_open 1 = .ok (.iload_n 1, 1) := by decide +kernel
theorem dW_open_2 : decode bW_open 2 = .ok (.iload_n 2, 1) := by decide +kernel
theorem dW_open_3 : decode bW_open 3 = .ok (.invokevirtual 86, 3) := by decide +kernel
theorem dW_open_6 : decode bW_open 6 = .ok (.ifCond .ne (5), 3) := by decide +kernel
theorem dW_open_9 : decode bW_open 9 = .ok (.iconst (-1), 1) := by decide +kernel
theorem dW_open_10 : decode bW_open 10 = .ok (.ireturn, 1) := by decide +kernel
theorem dW_open_11 : decode bW_open 11 = .ok (.aload_n 0, 1) := by decide +kernel
theorem dW_open_12 : decode bW_open 12 = .ok (.getfield 47, 3) := by decide +kernel
theorem dW_open_15 : decode bW_open 15 = .ok (.iload_n 1, 1) := by decide +kernel
theorem dW_open_16 : decode bW_open 16 = .ok (.iload_n 2, 1) := by decide +kernel
theorem dW_open_17 : decode bW_open 17 = .ok (.invokevirtual 127, 3) := by decide +kernel
theorem dW_open_20 : decode bW_open 20 = .ok (.ifCond .eq (7), 3) := by decide +kernel
theorem dW_open_23 : decode bW_open 23 = .ok (.iconst 1, 1) := by decide +kernel
theorem dW_open_24 : decode bW_open 24 = .ok (.goto (4), 3) := by decide +kernel
theorem dW_open_27 : decode bW_open 27 = .ok (.iconst 0, 1) := by decide +kernel
theorem dW_open_28 : decode bW_open 28 = .ok (.ireturn, 1) := by decide +kernel
theorem dW_pixels_0 : decode bW_pixels 0 = .ok (.aload_n 0, 1) := by decide +kernel
theorem dW_pixels_1 : decode bW_pixels 1 = .ok (.getfield 47, 3) := by decide +kernel
theorem dW_pixels_4 : decode bW_pixels 4 = .ok (.invokevirtual 114, 3) := by decide +kernel
theorem dW_pixels_7 : decode bW_pixels 7 = .ok (.ireturn, 1) := by decide +kernel
theorem dW_runs_0 : decode bW_runs 0 = .ok (.aload_n 0, 1) := by decide +kernel
theorem dW_runs_1 : decode bW_runs 1 = .ok (.getfield 47, 3) := by decide +kernel
theorem dW_runs_4 : decode bW_runs 4 = .ok (.getfield 130, 3) := by decide +kernel
theorem dW_runs_7 : decode bW_runs 7 = .ok (.ireturn, 1) := by decide +kernel
theorem dW_count_0 : decode bW_count 0 = .ok (.aload_n 0, 1) := by decide +kernel
theorem dW_count_1 : decode bW_count 1 = .ok (.iconst 0, 1) := by decide +kernel
theorem dW_count_2 : decode bW_count 2 = .ok (.iload_n 1, 1) := by decide +kernel
theorem dW_count_3 : decode bW_count 3 = .ok (.invokevirtual 86, 3) := by decide +kernel
theorem dW_count_6 : decode bW_count 6 = .ok (.ifCond .ne (5), 3) := by decide +kernel
theorem dW_count_9 : decode bW_count 9 = .ok (.iconst (-1), 1) := by decide +kernel
theorem dW_count_10 : decode bW_count 10 = .ok (.ireturn, 1) := by decide +kernel
theorem dW_count_11 : decode bW_count 11 = .ok (.iconst 0, 1) := by decide +kernel
theorem dW_count_12 : decode bW_count 12 = .ok (.istore_n 3, 1) := by decide +kernel
theorem dW_count_13 : decode bW_count 13 = .ok (.iconst 0, 1) := by decide +kernel
theorem dW_count_14 : decode bW_count 14 = .ok (.istore 4, 2) := by decide +kernel
theorem dW_count_16 : decode bW_count 16 = .ok (.iload 4, 2) := by decide +kernel
theorem dW_count_18 : decode bW_count 18 = .ok (.aload_n 0, 1) := by decide +kernel
theorem dW_count_19 : decode bW_count 19 = .ok (.getfield 18, 3) := by decide +kernel
theorem dW_count_22 : decode bW_count 22 = .ok (.if_icmp .ge (30), 3) := by decide +kernel
theorem dW_count_25 : decode bW_count 25 = .ok (.aload_n 0, 1) := by decide +kernel
theorem dW_count_26 : decode bW_count 26 = .ok (.getfield 25, 3) := by decide +kernel
theorem dW_count_29 : decode bW_count 29 = .ok (.iload_n 1, 1) := by decide +kernel
theorem dW_count_30 : decode bW_count 30 = .ok (.aload_n 0, 1) := by decide +kernel
theorem dW_count_31 : decode bW_count 31 = .ok (.getfield 18, 3) := by decide +kernel
theorem dW_count_34 : decode bW_count 34 = .ok (.imul, 1) := by decide +kernel
theorem dW_count_35 : decode bW_count 35 = .ok (.iload 4, 2) := by decide +kernel
theorem dW_count_37 : decode bW_count 37 = .ok (.iadd, 1) := by decide +kernel
theorem dW_count_38 : decode bW_count 38 = .ok (.iaload, 1) := by decide +kernel
theorem dW_count_39 : decode bW_count 39 = .ok (.iload_n 2, 1) := by decide +kernel
theorem dW_count_40 : decode bW_count 40 = .ok (.if_icmp .ne (6), 3) := by decide +kernel
theorem dW_count_43 : decode bW_count 43 = .ok (.iinc 3 (1), 3) := by decide +kernel
theorem dW_count_46 : decode bW_count 46 = .ok (.iinc 4 (1), 3) := by decide +kernel
theorem dW_count_49 : decode bW_count 49 = .ok (.goto (-33), 3) := by decide +kernel
theorem dW_count_52 : decode bW_count 52 = .ok (.iload_n 3, 1) := by decide +kernel
theorem dW_count_53 : decode bW_count 53 = .ok (.ireturn, 1) := by decide +kernel
theorem dW_flood_0 : decode bW_flood 0 = .ok (.iload_n 1, 1) := by decide +kernel
theorem dW_flood_1 : decode bW_flood 1 = .ok (.invokestatic 96, 3) := by decide +kernel
theorem dW_flood_4 : decode bW_flood 4 = .ok (.ifCond .ne (5), 3) := by decide +kernel
theorem dW_flood_7 : decode bW_flood 7 = .ok (.iconst (-1), 1) := by decide +kernel
theorem dW_flood_8 : decode bW_flood 8 = .ok (.ireturn, 1) := by decide +kernel
theorem dW_flood_9 : decode bW_flood 9 = .ok (.aload_n 0, 1) := by decide +kernel
theorem dW_flood_10 : decode bW_flood 10 = .ok (.aload_n 0, 1) := by decide +kernel
theorem dW_flood_11 : decode bW_flood 11 = .ok (.getfield 47, 3) := by decide +kernel
theorem dW_flood_14 : decode bW_flood 14 = .ok (.getfield 133, 3) := by decide +kernel
theorem dW_flood_17 : decode bW_flood 17 = .ok (.aload_n 0, 1) := by decide +kernel
theorem dW_flood_18 : decode bW_flood 18 = .ok (.getfield 47, 3) := by decide +kernel
theorem dW_flood_21 : decode bW_flood 21 = .ok (.invokevirtual 134, 3) := by decide +kernel
theorem dW_flood_24 : decode bW_flood 24 = .ok (.aload_n 0, 1) := by decide +kernel
theorem dW_flood_25 : decode bW_flood 25 = .ok (.getfield 47, 3) := by decide +kernel
theorem dW_flood_28 : decode bW_flood 28 = .ok (.getfield 130, 3) := by decide +kernel
theorem dW_flood_31 : decode bW_flood 31 = .ok (.iload_n 1, 1) := by decide +kernel
theorem dW_flood_32 : decode bW_flood 32 = .ok (.invokevirtual 106, 3) := by decide +kernel
theorem dW_flood_35 : decode bW_flood 35 = .ok (.ireturn, 1) := by decide +kernel
theorem dW_fill_0 : decode bW_fill 0 = .ok (.iload_n 1, 1) := by decide +kernel
theorem dW_fill_1 : decode bW_fill 1 = .ok (.invokestatic 93, 3) := by decide +kernel
theorem dW_fill_4 : decode bW_fill 4 = .ok (.ifCond .eq (10), 3) := by decide +kernel
theorem dW_fill_7 : decode bW_fill 7 = .ok (.iload_n 2, 1) := by decide +kernel
theorem dW_fill_8 : decode bW_fill 8 = .ok (.invokestatic 96, 3) := by decide +kernel
theorem dW_fill_11 : decode bW_fill 11 = .ok (.ifCond .ne (5), 3) := by decide +kernel
theorem dW_fill_14 : decode bW_fill 14 = .ok (.iconst (-1), 1) := by decide +kernel
theorem dW_fill_15 : decode bW_fill 15 = .ok (.ireturn, 1) := by decide +kernel
theorem dW_fill_16 : decode bW_fill 16 = .ok (.aload_n 0, 1) := by decide +kernel
theorem dW_fill_17 : decode bW_fill 17 = .ok (.iload_n 1, 1) := by decide +kernel
theorem dW_fill_18 : decode bW_fill 18 = .ok (.invokevirtual 99, 3) := by decide +kernel
theorem dW_fill_21 : decode bW_fill 21 = .ok (.aload_n 0, 1) := by decide +kernel
theorem dW_fill_22 : decode bW_fill 22 = .ok (.aload_n 0, 1) := by decide +kernel
theorem dW_fill_23 : decode bW_fill 23 = .ok (.getfield 59, 3) := by decide +kernel
theorem dW_fill_26 : decode bW_fill 26 = .ok (.getfield 102, 3) := by decide +kernel
theorem dW_fill_29 : decode bW_fill 29 = .ok (.iconst 0, 1) := by decide +kernel
theorem dW_fill_30 : decode bW_fill 30 = .ok (.aload_n 0, 1) := by decide +kernel
theorem dW_fill_31 : decode bW_fill 31 = .ok (.getfield 59, 3) := by decide +kernel
theorem dW_fill_34 : decode bW_fill 34 = .ok (.getfield 105, 3) := by decide +kernel
theorem dW_fill_37 : decode bW_fill 37 = .ok (.iload_n 2, 1) := by decide +kernel
theorem dW_fill_38 : decode bW_fill 38 = .ok (.invokevirtual 106, 3) := by decide +kernel
theorem dW_fill_41 : decode bW_fill 41 = .ok (.ireturn, 1) := by decide +kernel
theorem dW_clip_0 : decode bW_clip 0 = .ok (.iload_n 1, 1) := by decide +kernel
theorem dW_clip_1 : decode bW_clip 1 = .ok (.invokestatic 93, 3) := by decide +kernel
theorem dW_clip_4 : decode bW_clip 4 = .ok (.ifCond .ne (5), 3) := by decide +kernel
theorem dW_clip_7 : decode bW_clip 7 = .ok (.iconst (-1), 1) := by decide +kernel
theorem dW_clip_8 : decode bW_clip 8 = .ok (.ireturn, 1) := by decide +kernel
theorem dW_clip_9 : decode bW_clip 9 = .ok (.aload_n 0, 1) := by decide +kernel
theorem dW_clip_10 : decode bW_clip 10 = .ok (.iload_n 1, 1) := by decide +kernel
theorem dW_clip_11 : decode bW_clip 11 = .ok (.invokevirtual 99, 3) := by decide +kernel
theorem dW_clip_14 : decode bW_clip 14 = .ok (.aload_n 0, 1) := by decide +kernel
theorem dW_clip_15 : decode bW_clip 15 = .ok (.getfield 47, 3) := by decide +kernel
theorem dW_clip_18 : decode bW_clip 18 = .ok (.aload_n 0, 1) := by decide +kernel
theorem dW_clip_19 : decode bW_clip 19 = .ok (.getfield 59, 3) := by decide +kernel
theorem dW_clip_22 : decode bW_clip 22 = .ok (.invokevirtual 110, 3) := by decide +kernel
theorem dW_clip_25 : decode bW_clip 25 = .ok (.ifCond .eq (13), 3) := by decide +kernel
theorem dW_clip_28 : decode bW_clip 28 = .ok (.aload_n 0, 1) := by decide +kernel
theorem dW_clip_29 : decode bW_clip 29 = .ok (.getfield 47, 3) := by decide +kernel
theorem dW_clip_32 : decode bW_clip 32 = .ok (.invokevirtual 114, 3) := by decide +kernel
theorem dW_clip_35 : decode bW_clip 35 = .ok (.goto (5), 3) := by decide +kernel
theorem dW_clip_38 : decode bW_clip 38 = .ok (.bipush (-3), 2) := by decide +kernel
theorem dW_clip_40 : decode bW_clip 40 = .ok (.ireturn, 1) := by decide +kernel
theorem dW_save_0 : decode bW_save 0 = .ok (.aload_n 0, 1) := by decide +kernel
theorem dW_save_1 : decode bW_save 1 = .ok (.getfield 47, 3) := by decide +kernel
theorem dW_save_4 : decode bW_save 4 = .ok (.invokevirtual 118, 3) := by decide +kernel
theorem dW_save_7 : decode bW_save 7 = .ok (.ifCond .eq (13), 3) := by decide +kernel
theorem dW_save_10 : decode bW_save 10 = .ok (.aload_n 0, 1) := by decide +kernel
theorem dW_save_11 : decode bW_save 11 = .ok (.getfield 47, 3) := by decide +kernel
theorem dW_save_14 : decode bW_save 14 = .ok (.getfield 121, 3) := by decide +kernel
theorem dW_save_17 : decode bW_save 17 = .ok (.goto (5), 3) := by decide +kernel
theorem dW_save_20 : decode bW_save 20 = .ok (.bipush (-3), 2) := by decide +kernel
theorem dW_save_22 : decode bW_save 22 = .ok (.ireturn, 1) := by decide +kernel
theorem dW_restore_0 : decode bW_restore 0 = .ok (.aload_n 0, 1) := by decide +kernel
theorem dW_restore_1 : decode bW_restore 1 = .ok (.getfield 47, 3) := by decide +kernel
theorem dW_restore_4 : decode bW_restore 4 = .ok (.invokevirtual 124, 3) := by decide +kernel
theorem dW_restore_7 : decode bW_restore 7 = .ok (.ifCond .eq (13), 3) := by decide +kernel
theorem dW_restore_10 : decode bW_restore 10 = .ok (.aload_n 0, 1) := by decide +kernel
theorem dW_restore_11 : decode bW_restore 11 = .ok (.getfield 47, 3) := by decide +kernel
theorem dW_restore_14 : decode bW_restore 14 = .ok (.getfield 121, 3) := by decide +kernel
theorem dW_restore_17 : decode bW_restore 17 = .ok (.goto (5), 3) := by decide +kernel
theorem dW_restore_20 : decode bW_restore 20 = .ok (.bipush (-2), 2) := by decide +kernel
theorem dW_restore_22 : decode bW_restore 22 = .ok (.ireturn, 1) := by decide +kernel
theorem dO_init_0 : decode bO_init 0 = .ok (.aload_n 0, 1) := by decide +kernel
theorem dO_init_1 : decode bO_init 1 = .ok (.invokespecial 3, 3) := by decide +kernel
theorem dO_init_4 : decode bO_init 4 = .ok (.aload_n 0, 1) := by decide +kernel
theorem dO_init_5 : decode bO_init 5 = .ok (.sipush (4096), 3) := by decide +kernel
theorem dO_init_8 : decode bO_init 8 = .ok (.newarray .int, 2) := by decide +kernel
theorem dO_init_10 : decode bO_init 10 = .ok (.putfield 9, 3) := by decide +kernel
theorem dO_init_13 : decode bO_init 13 = .ok (.aload_n 0, 1) := by decide +kernel
theorem dO_init_14 : decode bO_init 14 = .ok (.sipush (4096), 3) := by decide +kernel
theorem dO_init_17 : decode bO_init 17 = .ok (.newarray .int, 2) := by decide +kernel
theorem dO_init_19 : decode bO_init 19 = .ok (.putfield 15, 3) := by decide +kernel
theorem dO_init_22 : decode bO_init 22 = .ok (.aload_n 0, 1) := by decide +kernel
theorem dO_init_23 : decode bO_init 23 = .ok (.sipush (4096), 3) := by decide +kernel
theorem dO_init_26 : decode bO_init 26 = .ok (.newarray .int, 2) := by decide +kernel
theorem dO_init_28 : decode bO_init 28 = .ok (.putfield 18, 3) := by decide +kernel
theorem dO_init_31 : decode bO_init 31 = .ok (.return_, 1) := by decide +kernel
theorem dW_init_0 : decode bW_init 0 = .ok (.aload_n 0, 1) := by decide +kernel
theorem dW_init_1 : decode bW_init 1 = .ok (.invokespecial 1, 3) := by decide +kernel
theorem dW_init_4 : decode bW_init 4 = .ok (.aload_n 0, 1) := by decide +kernel
theorem dW_init_5 : decode bW_init 5 = .ok (.iconst 1, 1) := by decide +kernel
theorem dW_init_6 : decode bW_init 6 = .ok (.sipush (256), 3) := by decide +kernel
theorem dW_init_9 : decode bW_init 9 = .ok (.iload_n 1, 1) := by decide +kernel
theorem dW_init_10 : decode bW_init 10 = .ok (.invokestatic 9, 3) := by decide +kernel
theorem dW_init_13 : decode bW_init 13 = .ok (.invokestatic 15, 3) := by decide +kernel
theorem dW_init_16 : decode bW_init 16 = .ok (.putfield 18, 3) := by decide +kernel
theorem dW_init_19 : decode bW_init 19 = .ok (.aload_n 0, 1) := by decide +kernel
theorem dW_init_20 : decode bW_init 20 = .ok (.iconst 1, 1) := by decide +kernel
theorem dW_init_21 : decode bW_init 21 = .ok (.sipush (256), 3) := by decide +kernel
theorem dW_init_24 : decode bW_init 24 = .ok (.iload_n 2, 1) := by decide +kernel
theorem dW_init_25 : decode bW_init 25 = .ok (.invokestatic 9, 3) := by decide +kernel
theorem dW_init_28 : decode bW_init 28 = .ok (.invokestatic 15, 3) := by decide +kernel
theorem dW_init_31 : decode bW_init 31 = .ok (.putfield 22, 3) := by decide +kernel
theorem dW_init_34 : decode bW_init 34 = .ok (.aload_n 0, 1) := by decide +kernel
theorem dW_init_35 : decode bW_init 35 = .ok (.aload_n 0, 1) := by decide +kernel
theorem dW_init_36 : decode bW_init 36 = .ok (.getfield 18, 3) := by decide +kernel
theorem dW_init_39 : decode bW_init 39 = .ok (.aload_n 0, 1) := by decide +kernel
theorem dW_init_40 : decode bW_init 40 = .ok (.getfield 22, 3) := by decide +kernel
theorem dW_init_43 : decode bW_init 43 = .ok (.imul, 1) := by decide +kernel
theorem dW_init_44 : decode bW_init 44 = .ok (.newarray .int, 2) := by decide +kernel
theorem dW_init_46 : decode bW_init 46 = .ok (.putfield 25, 3) := by decide +kernel
theorem dW_init_49 : decode bW_init 49 = .ok (.aload_n 0, 1) := by decide +kernel
theorem dW_init_50 : decode bW_init 50 = .ok (.getfield 25, 3) := by decide +kernel
theorem dW_init_53 : decode bW_init 53 = .ok (.sipush (255), 3) := by decide +kernel
theorem dW_init_56 : decode bW_init 56 = .ok (.invokestatic 29, 3) := by decide +kernel
theorem dW_init_59 : decode bW_init 59 = .ok (.aload_n 0, 1) := by decide +kernel
theorem dW_init_60 : decode bW_init 60 = .ok (.new 35, 3) := by decide +kernel
theorem dW_init_63 : decode bW_init 63 = .ok (.dup, 1) := by decide +kernel
theorem dW_init_64 : decode bW_init 64 = .ok (.invokespecial 37, 3) := by decide +kernel
theorem dW_init_67 : decode bW_init 67 = .ok (.putfield 38, 3) := by decide +kernel
theorem dW_init_70 : decode bW_init 70 = .ok (.aload_n 0, 1) := by decide +kernel
theorem dW_init_71 : decode bW_init 71 = .ok (.new 42, 3) := by decide +kernel
theorem dW_init_74 : decode bW_init 74 = .ok (.dup, 1) := by decide +kernel
theorem dW_init_75 : decode bW_init 75 = .ok (.aload_n 0, 1) := by decide +kernel
theorem dW_init_76 : decode bW_init 76 = .ok (.getfield 18, 3) := by decide +kernel
theorem dW_init_79 : decode bW_init 79 = .ok (.aload_n 0, 1) := by decide +kernel
theorem dW_init_80 : decode bW_init 80 = .ok (.getfield 22, 3) := by decide +kernel
theorem dW_init_83 : decode bW_init 83 = .ok (.invokespecial 44, 3) := by decide +kernel
theorem dW_init_86 : decode bW_init 86 = .ok (.putfield 47, 3) := by decide +kernel
theorem dW_init_89 : decode bW_init 89 = .ok (.aload_n 0, 1) := by decide +kernel
theorem dW_init_90 : decode bW_init 90 = .ok (.aload_n 0, 1) := by decide +kernel
theorem dW_init_91 : decode bW_init 91 = .ok (.getfield 18, 3) := by decide +kernel
theorem dW_init_94 : decode bW_init 94 = .ok (.newarray .int, 2) := by decide +kernel
theorem dW_init_96 : decode bW_init 96 = .ok (.putfield 51, 3) := by decide +kernel
theorem dW_init_99 : decode bW_init 99 = .ok (.aload_n 0, 1) := by decide +kernel
theorem dW_init_100 : decode bW_init 100 = .ok (.new 54, 3) := by decide +kernel
theorem dW_init_103 : decode bW_init 103 = .ok (.dup, 1) := by decide +kernel
theorem dW_init_104 : decode bW_init 104 = .ok (.aload_n 0, 1) := by decide +kernel
theorem dW_init_105 : decode bW_init 105 = .ok (.getfield 18, 3) := by decide +kernel
theorem dW_init_108 : decode bW_init 108 = .ok (.iconst 1, 1) := by decide +kernel
theorem dW_init_109 : decode bW_init 109 = .ok (.iadd, 1) := by decide +kernel
theorem dW_init_110 : decode bW_init 110 = .ok (.iconst 2, 1) := by decide +kernel
theorem dW_init_111 : decode bW_init 111 = .ok (.idiv, 1) := by decide +kernel
theorem dW_init_112 : decode bW_init 112 = .ok (.aload_n 0, 1) := by decide +kernel
theorem dW_init_113 : decode bW_init 113 = .ok (.getfield 22, 3) := by decide +kernel
theorem dW_init_116 : decode bW_init 116 = .ok (.imul, 1) := by decide +kernel
theorem dW_init_117 : decode bW_init 117 = .ok (.invokespecial 56, 3) := by decide +kernel
theorem dW_init_120 : decode bW_init 120 = .ok (.putfield 59, 3) := by decide +kernel
theorem dW_init_123 : decode bW_init 123 = .ok (.return_, 1) := by decide +kernel
