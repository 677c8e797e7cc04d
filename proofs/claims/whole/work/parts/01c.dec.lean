theorem dX1_init_0 : decode cX1_init 0 = .ok (.aload_n 0, 1) := by decide +kernel
theorem dX1_init_1 : decode cX1_init 1 = .ok (.invokespecial 1, 3) := by decide +kernel
theorem dX1_init_4 : decode cX1_init 4 = .ok (.aload_n 0, 1) := by decide +kernel
theorem dX1_init_5 : decode cX1_init 5 = .ok (.iconst 0, 1) := by decide +kernel
theorem dX1_init_6 : decode cX1_init 6 = .ok (.putfield 7, 3) := by decide +kernel
theorem dX1_init_9 : decode cX1_init 9 = .ok (.aload_n 0, 1) := by decide +kernel
theorem dX1_init_10 : decode cX1_init 10 = .ok (.iconst 0, 1) := by decide +kernel
theorem dX1_init_11 : decode cX1_init 11 = .ok (.iload_n 1, 1) := by decide +kernel
theorem dX1_init_12 : decode cX1_init 12 = .ok (.invokestatic 13, 3) := by decide +kernel
theorem dX1_init_15 : decode cX1_init 15 = .ok (.newarray .long, 2) := by decide +kernel
theorem dX1_init_17 : decode cX1_init 17 = .ok (.putfield 19, 3) := by decide +kernel
theorem dX1_init_20 : decode cX1_init 20 = .ok (.return_, 1) := by decide +kernel
theorem dX1_holds_0 : decode cX1_holds 0 = .ok (.iload_n 1, 1) := by decide +kernel
theorem dX1_holds_1 : decode cX1_holds 1 = .ok (.ifCond .lt 15, 3) := by decide +kernel
theorem dX1_holds_4 : decode cX1_holds 4 = .ok (.iload_n 1, 1) := by decide +kernel
theorem dX1_holds_5 : decode cX1_holds 5 = .ok (.aload_n 0, 1) := by decide +kernel
theorem dX1_holds_6 : decode cX1_holds 6 = .ok (.getfield 7, 3) := by decide +kernel
theorem dX1_holds_9 : decode cX1_holds 9 = .ok (.if_icmp .ge 7, 3) := by decide +kernel
theorem dX1_holds_12 : decode cX1_holds 12 = .ok (.iconst 1, 1) := by decide +kernel
theorem dX1_holds_13 : decode cX1_holds 13 = .ok (.goto 4, 3) := by decide +kernel
theorem dX1_holds_16 : decode cX1_holds 16 = .ok (.iconst 0, 1) := by decide +kernel
theorem dX1_holds_17 : decode cX1_holds 17 = .ok (.ireturn, 1) := by decide +kernel
theorem dX1_at_0 : decode cX1_at 0 = .ok (.iload_n 1, 1) := by decide +kernel
theorem dX1_at_1 : decode cX1_at 1 = .ok (.ifCond .lt 29, 3) := by decide +kernel
theorem dX1_at_4 : decode cX1_at 4 = .ok (.iload_n 1, 1) := by decide +kernel
theorem dX1_at_5 : decode cX1_at 5 = .ok (.aload_n 0, 1) := by decide +kernel
theorem dX1_at_6 : decode cX1_at 6 = .ok (.getfield 7, 3) := by decide +kernel
theorem dX1_at_9 : decode cX1_at 9 = .ok (.if_icmp .ge 21, 3) := by decide +kernel
theorem dX1_at_12 : decode cX1_at 12 = .ok (.iload_n 1, 1) := by decide +kernel
theorem dX1_at_13 : decode cX1_at 13 = .ok (.aload_n 0, 1) := by decide +kernel
theorem dX1_at_14 : decode cX1_at 14 = .ok (.getfield 19, 3) := by decide +kernel
theorem dX1_at_17 : decode cX1_at 17 = .ok (.arraylength, 1) := by decide +kernel
theorem dX1_at_18 : decode cX1_at 18 = .ok (.if_icmp .ge 12, 3) := by decide +kernel
theorem dX1_at_21 : decode cX1_at 21 = .ok (.aload_n 0, 1) := by decide +kernel
theorem dX1_at_22 : decode cX1_at 22 = .ok (.getfield 19, 3) := by decide +kernel
theorem dX1_at_25 : decode cX1_at 25 = .ok (.iload_n 1, 1) := by decide +kernel
theorem dX1_at_26 : decode cX1_at 26 = .ok (.laload, 1) := by decide +kernel
theorem dX1_at_27 : decode cX1_at 27 = .ok (.goto 4, 3) := by decide +kernel
theorem dX1_at_30 : decode cX1_at 30 = .ok (.lconst 0, 1) := by decide +kernel
theorem dX1_at_31 : decode cX1_at 31 = .ok (.lreturn, 1) := by decide +kernel
theorem dX1_intAt_0 : decode cX1_intAt 0 = .ok (.aload_n 0, 1) := by decide +kernel
theorem dX1_intAt_1 : decode cX1_intAt 1 = .ok (.iload_n 1, 1) := by decide +kernel
theorem dX1_intAt_2 : decode cX1_intAt 2 = .ok (.invokevirtual 23, 3) := by decide +kernel
theorem dX1_intAt_5 : decode cX1_intAt 5 = .ok (.l2i, 1) := by decide +kernel
theorem dX1_intAt_6 : decode cX1_intAt 6 = .ok (.ireturn, 1) := by decide +kernel
theorem dX1_raise_0 : decode cX1_raise 0 = .ok (.iload_n 1, 1) := by decide +kernel
theorem dX1_raise_1 : decode cX1_raise 1 = .ok (.ifCond .lt 31, 3) := by decide +kernel
theorem dX1_raise_4 : decode cX1_raise 4 = .ok (.iload_n 1, 1) := by decide +kernel
theorem dX1_raise_5 : decode cX1_raise 5 = .ok (.aload_n 0, 1) := by decide +kernel
theorem dX1_raise_6 : decode cX1_raise 6 = .ok (.getfield 7, 3) := by decide +kernel
theorem dX1_raise_9 : decode cX1_raise 9 = .ok (.if_icmp .ge 23, 3) := by decide +kernel
theorem dX1_raise_12 : decode cX1_raise 12 = .ok (.iload_n 1, 1) := by decide +kernel
theorem dX1_raise_13 : decode cX1_raise 13 = .ok (.aload_n 0, 1) := by decide +kernel
theorem dX1_raise_14 : decode cX1_raise 14 = .ok (.getfield 19, 3) := by decide +kernel
theorem dX1_raise_17 : decode cX1_raise 17 = .ok (.arraylength, 1) := by decide +kernel
theorem dX1_raise_18 : decode cX1_raise 18 = .ok (.if_icmp .ge 14, 3) := by decide +kernel
theorem dX1_raise_21 : decode cX1_raise 21 = .ok (.aload_n 0, 1) := by decide +kernel
theorem dX1_raise_22 : decode cX1_raise 22 = .ok (.getfield 19, 3) := by decide +kernel
theorem dX1_raise_25 : decode cX1_raise 25 = .ok (.iload_n 1, 1) := by decide +kernel
theorem dX1_raise_26 : decode cX1_raise 26 = .ok (.dup2, 1) := by decide +kernel
theorem dX1_raise_27 : decode cX1_raise 27 = .ok (.laload, 1) := by decide +kernel
theorem dX1_raise_28 : decode cX1_raise 28 = .ok (.iload_n 2, 1) := by decide +kernel
theorem dX1_raise_29 : decode cX1_raise 29 = .ok (.i2l, 1) := by decide +kernel
theorem dX1_raise_30 : decode cX1_raise 30 = .ok (.ladd, 1) := by decide +kernel
theorem dX1_raise_31 : decode cX1_raise 31 = .ok (.lastore, 1) := by decide +kernel
theorem dX1_raise_32 : decode cX1_raise 32 = .ok (.return_, 1) := by decide +kernel
theorem dX1_insertAt_0 : decode cX1_insertAt 0 = .ok (.iload_n 1, 1) := by decide +kernel
theorem dX1_insertAt_1 : decode cX1_insertAt 1 = .ok (.ifCond .lt 23, 3) := by decide +kernel
theorem dX1_insertAt_4 : decode cX1_insertAt 4 = .ok (.iload_n 1, 1) := by decide +kernel
theorem dX1_insertAt_5 : decode cX1_insertAt 5 = .ok (.aload_n 0, 1) := by decide +kernel
theorem dX1_insertAt_6 : decode cX1_insertAt 6 = .ok (.getfield 7, 3) := by decide +kernel
theorem dX1_insertAt_9 : decode cX1_insertAt 9 = .ok (.if_icmp .gt 15, 3) := by decide +kernel
theorem dX1_insertAt_12 : decode cX1_insertAt 12 = .ok (.aload_n 0, 1) := by decide +kernel
theorem dX1_insertAt_13 : decode cX1_insertAt 13 = .ok (.getfield 7, 3) := by decide +kernel
theorem dX1_insertAt_16 : decode cX1_insertAt 16 = .ok (.aload_n 0, 1) := by decide +kernel
theorem dX1_insertAt_17 : decode cX1_insertAt 17 = .ok (.getfield 19, 3) := by decide +kernel
theorem dX1_insertAt_20 : decode cX1_insertAt 20 = .ok (.arraylength, 1) := by decide +kernel
theorem dX1_insertAt_21 : decode cX1_insertAt 21 = .ok (.if_icmp .lt 4, 3) := by decide +kernel
theorem dX1_insertAt_24 : decode cX1_insertAt 24 = .ok (.return_, 1) := by decide +kernel
theorem dX1_insertAt_25 : decode cX1_insertAt 25 = .ok (.aload_n 0, 1) := by decide +kernel
theorem dX1_insertAt_26 : decode cX1_insertAt 26 = .ok (.getfield 19, 3) := by decide +kernel
theorem dX1_insertAt_29 : decode cX1_insertAt 29 = .ok (.iload_n 1, 1) := by decide +kernel
theorem dX1_insertAt_30 : decode cX1_insertAt 30 = .ok (.aload_n 0, 1) := by decide +kernel
theorem dX1_insertAt_31 : decode cX1_insertAt 31 = .ok (.getfield 19, 3) := by decide +kernel
theorem dX1_insertAt_34 : decode cX1_insertAt 34 = .ok (.iload_n 1, 1) := by decide +kernel
theorem dX1_insertAt_35 : decode cX1_insertAt 35 = .ok (.iconst 1, 1) := by decide +kernel
theorem dX1_insertAt_36 : decode cX1_insertAt 36 = .ok (.iadd, 1) := by decide +kernel
theorem dX1_insertAt_37 : decode cX1_insertAt 37 = .ok (.aload_n 0, 1) := by decide +kernel
theorem dX1_insertAt_38 : decode cX1_insertAt 38 = .ok (.getfield 7, 3) := by decide +kernel
theorem dX1_insertAt_41 : decode cX1_insertAt 41 = .ok (.iload_n 1, 1) := by decide +kernel
theorem dX1_insertAt_42 : decode cX1_insertAt 42 = .ok (.isub, 1) := by decide +kernel
theorem dX1_insertAt_43 : decode cX1_insertAt 43 = .ok (.invokestatic 27, 3) := by decide +kernel
theorem dX1_insertAt_46 : decode cX1_insertAt 46 = .ok (.aload_n 0, 1) := by decide +kernel
theorem dX1_insertAt_47 : decode cX1_insertAt 47 = .ok (.getfield 19, 3) := by decide +kernel
theorem dX1_insertAt_50 : decode cX1_insertAt 50 = .ok (.iload_n 1, 1) := by decide +kernel
theorem dX1_insertAt_51 : decode cX1_insertAt 51 = .ok (.lload_n 2, 1) := by decide +kernel
theorem dX1_insertAt_52 : decode cX1_insertAt 52 = .ok (.lastore, 1) := by decide +kernel
theorem dX1_insertAt_53 : decode cX1_insertAt 53 = .ok (.aload_n 0, 1) := by decide +kernel
theorem dX1_insertAt_54 : decode cX1_insertAt 54 = .ok (.dup, 1) := by decide +kernel
theorem dX1_insertAt_55 : decode cX1_insertAt 55 = .ok (.getfield 7, 3) := by decide +kernel
theorem dX1_insertAt_58 : decode cX1_insertAt 58 = .ok (.iconst 1, 1) := by decide +kernel
theorem dX1_insertAt_59 : decode cX1_insertAt 59 = .ok (.iadd, 1) := by decide +kernel
theorem dX1_insertAt_60 : decode cX1_insertAt 60 = .ok (.putfield 7, 3) := by decide +kernel
theorem dX1_insertAt_63 : decode cX1_insertAt 63 = .ok (.return_, 1) := by decide +kernel
theorem dX1_deleteAt_0 : decode cX1_deleteAt 0 = .ok (.iload_n 1, 1) := by decide +kernel
theorem dX1_deleteAt_1 : decode cX1_deleteAt 1 = .ok (.ifCond .lt 56, 3) := by decide +kernel
theorem dX1_deleteAt_4 : decode cX1_deleteAt 4 = .ok (.iload_n 1, 1) := by decide +kernel
theorem dX1_deleteAt_5 : decode cX1_deleteAt 5 = .ok (.aload_n 0, 1) := by decide +kernel
theorem dX1_deleteAt_6 : decode cX1_deleteAt 6 = .ok (.getfield 7, 3) := by decide +kernel
theorem dX1_deleteAt_9 : decode cX1_deleteAt 9 = .ok (.if_icmp .ge 48, 3) := by decide +kernel
theorem dX1_deleteAt_12 : decode cX1_deleteAt 12 = .ok (.aload_n 0, 1) := by decide +kernel
theorem dX1_deleteAt_13 : decode cX1_deleteAt 13 = .ok (.getfield 7, 3) := by decide +kernel
theorem dX1_deleteAt_16 : decode cX1_deleteAt 16 = .ok (.aload_n 0, 1) := by decide +kernel
theorem dX1_deleteAt_17 : decode cX1_deleteAt 17 = .ok (.getfield 19, 3) := by decide +kernel
theorem dX1_deleteAt_20 : decode cX1_deleteAt 20 = .ok (.arraylength, 1) := by decide +kernel
theorem dX1_deleteAt_21 : decode cX1_deleteAt 21 = .ok (.if_icmp .gt 36, 3) := by decide +kernel
theorem dX1_deleteAt_24 : decode cX1_deleteAt 24 = .ok (.aload_n 0, 1) := by decide +kernel
theorem dX1_deleteAt_25 : decode cX1_deleteAt 25 = .ok (.getfield 19, 3) := by decide +kernel
theorem dX1_deleteAt_28 : decode cX1_deleteAt 28 = .ok (.iload_n 1, 1) := by decide +kernel
theorem dX1_deleteAt_29 : decode cX1_deleteAt 29 = .ok (.iconst 1, 1) := by decide +kernel
theorem dX1_deleteAt_30 : decode cX1_deleteAt 30 = .ok (.iadd, 1) := by decide +kernel
theorem dX1_deleteAt_31 : decode cX1_deleteAt 31 = .ok (.aload_n 0, 1) := by decide +kernel
theorem dX1_deleteAt_32 : decode cX1_deleteAt 32 = .ok (.getfield 19, 3) := by decide +kernel
theorem dX1_deleteAt_35 : decode cX1_deleteAt 35 = .ok (.iload_n 1, 1) := by decide +kernel
theorem dX1_deleteAt_36 : decode cX1_deleteAt 36 = .ok (.aload_n 0, 1) := by decide +kernel
theorem dX1_deleteAt_37 : decode cX1_deleteAt 37 = .ok (.getfield 7, 3) := by decide +kernel
theorem dX1_deleteAt_40 : decode cX1_deleteAt 40 = .ok (.iload_n 1, 1) := by decide +kernel
theorem dX1_deleteAt_41 : decode cX1_deleteAt 41 = .ok (.isub, 1) := by decide +kernel
theorem dX1_deleteAt_42 : decode cX1_deleteAt 42 = .ok (.iconst 1, 1) := by decide +kernel
theorem dX1_deleteAt_43 : decode cX1_deleteAt 43 = .ok (.isub, 1) := by decide +kernel
theorem dX1_deleteAt_44 : decode cX1_deleteAt 44 = .ok (.invokestatic 27, 3) := by decide +kernel
theorem dX1_deleteAt_47 : decode cX1_deleteAt 47 = .ok (.aload_n 0, 1) := by decide +kernel
theorem dX1_deleteAt_48 : decode cX1_deleteAt 48 = .ok (.dup, 1) := by decide +kernel
theorem dX1_deleteAt_49 : decode cX1_deleteAt 49 = .ok (.getfield 7, 3) := by decide +kernel
theorem dX1_deleteAt_52 : decode cX1_deleteAt 52 = .ok (.iconst 1, 1) := by decide +kernel
theorem dX1_deleteAt_53 : decode cX1_deleteAt 53 = .ok (.isub, 1) := by decide +kernel
theorem dX1_deleteAt_54 : decode cX1_deleteAt 54 = .ok (.putfield 7, 3) := by decide +kernel
theorem dX1_deleteAt_57 : decode cX1_deleteAt 57 = .ok (.return_, 1) := by decide +kernel
theorem dX1_sum_0 : decode cX1_sum 0 = .ok (.iload_n 2, 1) := by decide +kernel
theorem dX1_sum_1 : decode cX1_sum 1 = .ok (.aload_n 0, 1) := by decide +kernel
theorem dX1_sum_2 : decode cX1_sum 2 = .ok (.getfield 7, 3) := by decide +kernel
theorem dX1_sum_5 : decode cX1_sum 5 = .ok (.if_icmp .ge 7, 3) := by decide +kernel
theorem dX1_sum_8 : decode cX1_sum 8 = .ok (.iload_n 2, 1) := by decide +kernel
theorem dX1_sum_9 : decode cX1_sum 9 = .ok (.goto 7, 3) := by decide +kernel
theorem dX1_sum_12 : decode cX1_sum 12 = .ok (.aload_n 0, 1) := by decide +kernel
theorem dX1_sum_13 : decode cX1_sum 13 = .ok (.getfield 7, 3) := by decide +kernel
theorem dX1_sum_16 : decode cX1_sum 16 = .ok (.istore_n 3, 1) := by decide +kernel
theorem dX1_sum_17 : decode cX1_sum 17 = .ok (.iconst 0, 1) := by decide +kernel
theorem dX1_sum_18 : decode cX1_sum 18 = .ok (.istore 4, 2) := by decide +kernel
theorem dX1_sum_20 : decode cX1_sum 20 = .ok (.iload_n 1, 1) := by decide +kernel
theorem dX1_sum_21 : decode cX1_sum 21 = .ok (.istore 5, 2) := by decide +kernel
theorem dX1_sum_23 : decode cX1_sum 23 = .ok (.iload 5, 2) := by decide +kernel
theorem dX1_sum_25 : decode cX1_sum 25 = .ok (.iload_n 3, 1) := by decide +kernel
theorem dX1_sum_26 : decode cX1_sum 26 = .ok (.if_icmp .ge 21, 3) := by decide +kernel
theorem dX1_sum_29 : decode cX1_sum 29 = .ok (.iload 4, 2) := by decide +kernel
theorem dX1_sum_31 : decode cX1_sum 31 = .ok (.aload_n 0, 1) := by decide +kernel
theorem dX1_sum_32 : decode cX1_sum 32 = .ok (.iload 5, 2) := by decide +kernel
theorem dX1_sum_34 : decode cX1_sum 34 = .ok (.invokevirtual 23, 3) := by decide +kernel
theorem dX1_sum_37 : decode cX1_sum 37 = .ok (.l2i, 1) := by decide +kernel
theorem dX1_sum_38 : decode cX1_sum 38 = .ok (.iadd, 1) := by decide +kernel
theorem dX1_sum_39 : decode cX1_sum 39 = .ok (.istore 4, 2) := by decide +kernel
theorem dX1_sum_41 : decode cX1_sum 41 = .ok (.iinc 5 1, 3) := by decide +kernel
theorem dX1_sum_44 : decode cX1_sum 44 = .ok (.goto (-21), 3) := by decide +kernel
theorem dX1_sum_47 : decode cX1_sum 47 = .ok (.iload 4, 2) := by decide +kernel
theorem dX1_sum_49 : decode cX1_sum 49 = .ok (.ireturn, 1) := by decide +kernel
theorem dX1_groupOf_0 : decode cX1_groupOf 0 = .ok (.iconst 0, 1) := by decide +kernel
theorem dX1_groupOf_1 : decode cX1_groupOf 1 = .ok (.istore_n 2, 1) := by decide +kernel
theorem dX1_groupOf_2 : decode cX1_groupOf 2 = .ok (.iconst 0, 1) := by decide +kernel
theorem dX1_groupOf_3 : decode cX1_groupOf 3 = .ok (.istore_n 3, 1) := by decide +kernel
theorem dX1_groupOf_4 : decode cX1_groupOf 4 = .ok (.iload_n 3, 1) := by decide +kernel
theorem dX1_groupOf_5 : decode cX1_groupOf 5 = .ok (.aload_n 0, 1) := by decide +kernel
theorem dX1_groupOf_6 : decode cX1_groupOf 6 = .ok (.getfield 7, 3) := by decide +kernel
theorem dX1_groupOf_9 : decode cX1_groupOf 9 = .ok (.if_icmp .ge 25, 3) := by decide +kernel
theorem dX1_groupOf_12 : decode cX1_groupOf 12 = .ok (.iload_n 2, 1) := by decide +kernel
theorem dX1_groupOf_13 : decode cX1_groupOf 13 = .ok (.aload_n 0, 1) := by decide +kernel
theorem dX1_groupOf_14 : decode cX1_groupOf 14 = .ok (.iload_n 3, 1) := by decide +kernel
theorem dX1_groupOf_15 : decode cX1_groupOf 15 = .ok (.invokevirtual 23, 3) := by decide +kernel
theorem dX1_groupOf_18 : decode cX1_groupOf 18 = .ok (.l2i, 1) := by decide +kernel
theorem dX1_groupOf_19 : decode cX1_groupOf 19 = .ok (.iadd, 1) := by decide +kernel
theorem dX1_groupOf_20 : decode cX1_groupOf 20 = .ok (.istore_n 2, 1) := by decide +kernel
theorem dX1_groupOf_21 : decode cX1_groupOf 21 = .ok (.iload_n 1, 1) := by decide +kernel
theorem dX1_groupOf_22 : decode cX1_groupOf 22 = .ok (.iload_n 2, 1) := by decide +kernel
theorem dX1_groupOf_23 : decode cX1_groupOf 23 = .ok (.if_icmp .ge 5, 3) := by decide +kernel
theorem dX1_groupOf_26 : decode cX1_groupOf 26 = .ok (.iload_n 3, 1) := by decide +kernel
theorem dX1_groupOf_27 : decode cX1_groupOf 27 = .ok (.ireturn, 1) := by decide +kernel
theorem dX1_groupOf_28 : decode cX1_groupOf 28 = .ok (.iinc 3 1, 3) := by decide +kernel
theorem dX1_groupOf_31 : decode cX1_groupOf 31 = .ok (.goto (-27), 3) := by decide +kernel
theorem dX1_groupOf_34 : decode cX1_groupOf 34 = .ok (.iconst 0, 1) := by decide +kernel
theorem dX1_groupOf_35 : decode cX1_groupOf 35 = .ok (.ireturn, 1) := by decide +kernel
theorem dX2_init_0 : decode cX2_init 0 = .ok (.aload_n 0, 1) := by decide +kernel
theorem dX2_init_1 : decode cX2_init 1 = .ok (.invokespecial 3, 3) := by decide +kernel
theorem dX2_init_4 : decode cX2_init 4 = .ok (.aload_n 0, 1) := by decide +kernel
theorem dX2_init_5 : decode cX2_init 5 = .ok (.new 9, 3) := by decide +kernel
theorem dX2_init_8 : decode cX2_init 8 = .ok (.dup, 1) := by decide +kernel
theorem dX2_init_9 : decode cX2_init 9 = .ok (.sipush 600, 3) := by decide +kernel
theorem dX2_init_12 : decode cX2_init 12 = .ok (.invokespecial 11, 3) := by decide +kernel
theorem dX2_init_15 : decode cX2_init 15 = .ok (.putfield 14, 3) := by decide +kernel
theorem dX2_init_18 : decode cX2_init 18 = .ok (.aload_n 0, 1) := by decide +kernel
theorem dX2_init_19 : decode cX2_init 19 = .ok (.new 9, 3) := by decide +kernel
theorem dX2_init_22 : decode cX2_init 22 = .ok (.dup, 1) := by decide +kernel
theorem dX2_init_23 : decode cX2_init 23 = .ok (.sipush 600, 3) := by decide +kernel
theorem dX2_init_26 : decode cX2_init 26 = .ok (.invokespecial 11, 3) := by decide +kernel
theorem dX2_init_29 : decode cX2_init 29 = .ok (.putfield 18, 3) := by decide +kernel
theorem dX2_init_32 : decode cX2_init 32 = .ok (.aload_n 0, 1) := by decide +kernel
theorem dX2_init_33 : decode cX2_init 33 = .ok (.new 9, 3) := by decide +kernel
theorem dX2_init_36 : decode cX2_init 36 = .ok (.dup, 1) := by decide +kernel
theorem dX2_init_37 : decode cX2_init 37 = .ok (.sipush 601, 3) := by decide +kernel
theorem dX2_init_40 : decode cX2_init 40 = .ok (.invokespecial 11, 3) := by decide +kernel
theorem dX2_init_43 : decode cX2_init 43 = .ok (.putfield 21, 3) := by decide +kernel
theorem dX2_init_46 : decode cX2_init 46 = .ok (.aload_n 0, 1) := by decide +kernel
theorem dX2_init_47 : decode cX2_init 47 = .ok (.new 9, 3) := by decide +kernel
theorem dX2_init_50 : decode cX2_init 50 = .ok (.dup, 1) := by decide +kernel
theorem dX2_init_51 : decode cX2_init 51 = .ok (.sipush 601, 3) := by decide +kernel
theorem dX2_init_54 : decode cX2_init 54 = .ok (.invokespecial 11, 3) := by decide +kernel
theorem dX2_init_57 : decode cX2_init 57 = .ok (.putfield 24, 3) := by decide +kernel
theorem dX2_init_60 : decode cX2_init 60 = .ok (.aload_n 0, 1) := by decide +kernel
theorem dX2_init_61 : decode cX2_init 61 = .ok (.new 9, 3) := by decide +kernel
theorem dX2_init_64 : decode cX2_init 64 = .ok (.dup, 1) := by decide +kernel
theorem dX2_init_65 : decode cX2_init 65 = .ok (.sipush 601, 3) := by decide +kernel
theorem dX2_init_68 : decode cX2_init 68 = .ok (.invokespecial 11, 3) := by decide +kernel
theorem dX2_init_71 : decode cX2_init 71 = .ok (.putfield 27, 3) := by decide +kernel
theorem dX2_init_74 : decode cX2_init 74 = .ok (.aload_n 0, 1) := by decide +kernel
theorem dX2_init_75 : decode cX2_init 75 = .ok (.iconst 1, 1) := by decide +kernel
theorem dX2_init_76 : decode cX2_init 76 = .ok (.putfield 30, 3) := by decide +kernel
theorem dX2_init_79 : decode cX2_init 79 = .ok (.aload_n 0, 1) := by decide +kernel
theorem dX2_init_80 : decode cX2_init 80 = .ok (.iconst 0, 1) := by decide +kernel
theorem dX2_init_81 : decode cX2_init 81 = .ok (.putfield 34, 3) := by decide +kernel
theorem dX2_init_84 : decode cX2_init 84 = .ok (.aload_n 0, 1) := by decide +kernel
theorem dX2_init_85 : decode cX2_init 85 = .ok (.iconst 0, 1) := by decide +kernel
theorem dX2_init_86 : decode cX2_init 86 = .ok (.putfield 37, 3) := by decide +kernel
theorem dX2_init_89 : decode cX2_init 89 = .ok (.aload_n 0, 1) := by decide +kernel
theorem dX2_init_90 : decode cX2_init 90 = .ok (.iconst 0, 1) := by decide +kernel
theorem dX2_init_91 : decode cX2_init 91 = .ok (.putfield 41, 3) := by decide +kernel
theorem dX2_init_94 : decode cX2_init 94 = .ok (.aload_n 0, 1) := by decide +kernel
theorem dX2_init_95 : decode cX2_init 95 = .ok (.getstatic 44, 3) := by decide +kernel
theorem dX2_init_98 : decode cX2_init 98 = .ok (.putfield 50, 3) := by decide +kernel
theorem dX2_init_101 : decode cX2_init 101 = .ok (.aload_n 0, 1) := by decide +kernel
theorem dX2_init_102 : decode cX2_init 102 = .ok (.iconst 0, 1) := by decide +kernel
theorem dX2_init_103 : decode cX2_init 103 = .ok (.putfield 53, 3) := by decide +kernel
theorem dX2_init_106 : decode cX2_init 106 = .ok (.aload_n 0, 1) := by decide +kernel
theorem dX2_init_107 : decode cX2_init 107 = .ok (.iconst 0, 1) := by decide +kernel
theorem dX2_init_108 : decode cX2_init 108 = .ok (.putfield 56, 3) := by decide +kernel
theorem dX2_init_111 : decode cX2_init 111 = .ok (.aload_n 0, 1) := by decide +kernel
theorem dX2_init_112 : decode cX2_init 112 = .ok (.iconst 0, 1) := by decide +kernel
theorem dX2_init_113 : decode cX2_init 113 = .ok (.putfield 59, 3) := by decide +kernel
theorem dX2_init_116 : decode cX2_init 116 = .ok (.aload_n 0, 1) := by decide +kernel
theorem dX2_init_117 : decode cX2_init 117 = .ok (.iconst 0, 1) := by decide +kernel
theorem dX2_init_118 : decode cX2_init 118 = .ok (.putfield 62, 3) := by decide +kernel
theorem dX2_init_121 : decode cX2_init 121 = .ok (.aload_n 0, 1) := by decide +kernel
theorem dX2_init_122 : decode cX2_init 122 = .ok (.iconst 0, 1) := by decide +kernel
theorem dX2_init_123 : decode cX2_init 123 = .ok (.putfield 65, 3) := by decide +kernel
theorem dX2_init_126 : decode cX2_init 126 = .ok (.iload 4, 2) := by decide +kernel
theorem dX2_init_128 : decode cX2_init 128 = .ok (.iconst 1, 1) := by decide +kernel
theorem dX2_init_129 : decode cX2_init 129 = .ok (.bipush 100, 2) := by decide +kernel
theorem dX2_init_131 : decode cX2_init 131 = .ok (.invokestatic 68, 3) := by decide +kernel
theorem dX2_init_134 : decode cX2_init 134 = .ok (.istore 5, 2) := by decide +kernel
theorem dX2_init_136 : decode cX2_init 136 = .ok (.iload_n 3, 1) := by decide +kernel
theorem dX2_init_137 : decode cX2_init 137 = .ok (.iconst 1, 1) := by decide +kernel
theorem dX2_init_138 : decode cX2_init 138 = .ok (.iload 5, 2) := by decide +kernel
theorem dX2_init_140 : decode cX2_init 140 = .ok (.invokestatic 68, 3) := by decide +kernel
theorem dX2_init_143 : decode cX2_init 143 = .ok (.istore 6, 2) := by decide +kernel
theorem dX2_init_145 : decode cX2_init 145 = .ok (.aload_n 0, 1) := by decide +kernel
theorem dX2_init_146 : decode cX2_init 146 = .ok (.iload_n 1, 1) := by decide +kernel
theorem dX2_init_147 : decode cX2_init 147 = .ok (.iconst 1, 1) := by decide +kernel
theorem dX2_init_148 : decode cX2_init 148 = .ok (.sipush 1000, 3) := by decide +kernel
theorem dX2_init_151 : decode cX2_init 151 = .ok (.invokestatic 68, 3) := by decide +kernel
theorem dX2_init_154 : decode cX2_init 154 = .ok (.putfield 72, 3) := by decide +kernel
theorem dX2_init_157 : decode cX2_init 157 = .ok (.aload_n 0, 1) := by decide +kernel
theorem dX2_init_158 : decode cX2_init 158 = .ok (.iload_n 2, 1) := by decide +kernel
theorem dX2_init_159 : decode cX2_init 159 = .ok (.iconst 2, 1) := by decide +kernel
theorem dX2_init_160 : decode cX2_init 160 = .ok (.bipush 20, 2) := by decide +kernel
theorem dX2_init_162 : decode cX2_init 162 = .ok (.invokestatic 68, 3) := by decide +kernel
theorem dX2_init_165 : decode cX2_init 165 = .ok (.putfield 75, 3) := by decide +kernel
theorem dX2_init_168 : decode cX2_init 168 = .ok (.aload_n 0, 1) := by decide +kernel
theorem dX2_init_169 : decode cX2_init 169 = .ok (.aload_n 0, 1) := by decide +kernel
theorem dX2_init_170 : decode cX2_init 170 = .ok (.getfield 72, 3) := by decide +kernel
theorem dX2_init_173 : decode cX2_init 173 = .ok (.iload 6, 2) := by decide +kernel
theorem dX2_init_175 : decode cX2_init 175 = .ok (.imul, 1) := by decide +kernel
theorem dX2_init_176 : decode cX2_init 176 = .ok (.iload 5, 2) := by decide +kernel
theorem dX2_init_178 : decode cX2_init 178 = .ok (.idiv, 1) := by decide +kernel
theorem dX2_init_179 : decode cX2_init 179 = .ok (.putfield 78, 3) := by decide +kernel
theorem dX2_init_182 : decode cX2_init 182 = .ok (.aload_n 0, 1) := by decide +kernel
theorem dX2_init_183 : decode cX2_init 183 = .ok (.iconst 1, 1) := by decide +kernel
theorem dX2_init_184 : decode cX2_init 184 = .ok (.aload_n 0, 1) := by decide +kernel
theorem dX2_init_185 : decode cX2_init 185 = .ok (.getfield 75, 3) := by decide +kernel
theorem dX2_init_188 : decode cX2_init 188 = .ok (.iload 6, 2) := by decide +kernel
theorem dX2_init_190 : decode cX2_init 190 = .ok (.imul, 1) := by decide +kernel
theorem dX2_init_191 : decode cX2_init 191 = .ok (.iload 5, 2) := by decide +kernel
theorem dX2_init_193 : decode cX2_init 193 = .ok (.idiv, 1) := by decide +kernel
theorem dX2_init_194 : decode cX2_init 194 = .ok (.invokestatic 81, 3) := by decide +kernel
theorem dX2_init_197 : decode cX2_init 197 = .ok (.putfield 87, 3) := by decide +kernel
theorem dX2_init_200 : decode cX2_init 200 = .ok (.aload_n 0, 1) := by decide +kernel
theorem dX2_init_201 : decode cX2_init 201 = .ok (.iconst 0, 1) := by decide +kernel
theorem dX2_init_202 : decode cX2_init 202 = .ok (.invokevirtual 90, 3) := by decide +kernel
theorem dX2_init_205 : decode cX2_init 205 = .ok (.return_, 1) := by decide +kernel
theorem dX2_put_0 : decode cX2_put 0 = .ok (.aload_n 0, 1) := by decide +kernel
theorem dX2_put_1 : decode cX2_put 1 = .ok (.getfield 37, 3) := by decide +kernel
theorem dX2_put_4 : decode cX2_put 4 = .ok (.ifCond .eq 6, 3) := by decide +kernel
theorem dX2_put_7 : decode cX2_put 7 = .ok (.bipush (-5), 2) := by decide +kernel
theorem dX2_put_9 : decode cX2_put 9 = .ok (.ireturn, 1) := by decide +kernel
theorem dX2_put_10 : decode cX2_put 10 = .ok (.aload_n 0, 1) := by decide +kernel
theorem dX2_put_11 : decode cX2_put 11 = .ok (.lload_n 1, 1) := by decide +kernel
theorem dX2_put_12 : decode cX2_put 12 = .ok (.invokevirtual 93, 3) := by decide +kernel
theorem dX2_put_15 : decode cX2_put 15 = .ok (.iconst (-1), 1) := by decide +kernel
theorem dX2_put_16 : decode cX2_put 16 = .ok (.if_icmp .eq 5, 3) := by decide +kernel
theorem dX2_put_19 : decode cX2_put 19 = .ok (.iconst 0, 1) := by decide +kernel
theorem dX2_put_20 : decode cX2_put 20 = .ok (.ireturn, 1) := by decide +kernel
theorem dX2_put_21 : decode cX2_put 21 = .ok (.iload_n 3, 1) := by decide +kernel
theorem dX2_put_22 : decode cX2_put 22 = .ok (.iconst 1, 1) := by decide +kernel
theorem dX2_put_23 : decode cX2_put 23 = .ok (.if_icmp .lt 24, 3) := by decide +kernel
theorem dX2_put_26 : decode cX2_put 26 = .ok (.iload_n 3, 1) := by decide +kernel
theorem dX2_put_27 : decode cX2_put 27 = .ok (.aload_n 0, 1) := by decide +kernel
theorem dX2_put_28 : decode cX2_put 28 = .ok (.getfield 72, 3) := by decide +kernel
theorem dX2_put_31 : decode cX2_put 31 = .ok (.if_icmp .gt 16, 3) := by decide +kernel
theorem dX2_put_34 : decode cX2_put 34 = .ok (.aload_n 0, 1) := by decide +kernel
theorem dX2_put_35 : decode cX2_put 35 = .ok (.getfield 14, 3) := by decide +kernel
theorem dX2_put_38 : decode cX2_put 38 = .ok (.getfield 97, 3) := by decide +kernel
theorem dX2_put_41 : decode cX2_put 41 = .ok (.sipush 600, 3) := by decide +kernel
theorem dX2_put_44 : decode cX2_put 44 = .ok (.if_icmp .lt 5, 3) := by decide +kernel
theorem dX2_put_47 : decode cX2_put 47 = .ok (.iconst (-1), 1) := by decide +kernel
theorem dX2_put_48 : decode cX2_put 48 = .ok (.ireturn, 1) := by decide +kernel
theorem dX2_put_49 : decode cX2_put 49 = .ok (.aload_n 0, 1) := by decide +kernel
theorem dX2_put_50 : decode cX2_put 50 = .ok (.lload_n 1, 1) := by decide +kernel
theorem dX2_put_51 : decode cX2_put 51 = .ok (.iload_n 3, 1) := by decide +kernel
theorem dX2_put_52 : decode cX2_put 52 = .ok (.invokevirtual 100, 3) := by decide +kernel
theorem dX2_put_55 : decode cX2_put 55 = .ok (.ifCond .eq 7, 3) := by decide +kernel
theorem dX2_put_58 : decode cX2_put 58 = .ok (.iconst 1, 1) := by decide +kernel
theorem dX2_put_59 : decode cX2_put 59 = .ok (.goto 5, 3) := by decide +kernel
theorem dX2_put_62 : decode cX2_put 62 = .ok (.bipush (-5), 2) := by decide +kernel
theorem dX2_put_64 : decode cX2_put 64 = .ok (.ireturn, 1) := by decide +kernel
theorem dX2_find_0 : decode cX2_find 0 = .ok (.aload_n 0, 1) := by decide +kernel
theorem dX2_find_1 : decode cX2_find 1 = .ok (.lload_n 1, 1) := by decide +kernel
theorem dX2_find_2 : decode cX2_find 2 = .ok (.invokevirtual 93, 3) := by decide +kernel
theorem dX2_find_5 : decode cX2_find 5 = .ok (.istore_n 3, 1) := by decide +kernel
theorem dX2_find_6 : decode cX2_find 6 = .ok (.iload_n 3, 1) := by decide +kernel
theorem dX2_find_7 : decode cX2_find 7 = .ok (.iconst (-1), 1) := by decide +kernel
theorem dX2_find_8 : decode cX2_find 8 = .ok (.if_icmp .ne 7, 3) := by decide +kernel
theorem dX2_find_11 : decode cX2_find 11 = .ok (.iconst (-1), 1) := by decide +kernel
theorem dX2_find_12 : decode cX2_find 12 = .ok (.goto 18, 3) := by decide +kernel
theorem dX2_find_15 : decode cX2_find 15 = .ok (.aload_n 0, 1) := by decide +kernel
theorem dX2_find_16 : decode cX2_find 16 = .ok (.getfield 21, 3) := by decide +kernel
theorem dX2_find_19 : decode cX2_find 19 = .ok (.aload_n 0, 1) := by decide +kernel
theorem dX2_find_20 : decode cX2_find 20 = .ok (.getfield 24, 3) := by decide +kernel
theorem dX2_find_23 : decode cX2_find 23 = .ok (.iload_n 3, 1) := by decide +kernel
theorem dX2_find_24 : decode cX2_find 24 = .ok (.invokevirtual 104, 3) := by decide +kernel
theorem dX2_find_27 : decode cX2_find 27 = .ok (.invokevirtual 108, 3) := by decide +kernel
theorem dX2_find_30 : decode cX2_find 30 = .ok (.ireturn, 1) := by decide +kernel
theorem dX2_next_0 : decode cX2_next 0 = .ok (.aload_n 0, 1) := by decide +kernel
theorem dX2_next_1 : decode cX2_next 1 = .ok (.lload_n 1, 1) := by decide +kernel
theorem dX2_next_2 : decode cX2_next 2 = .ok (.invokevirtual 111, 3) := by decide +kernel
theorem dX2_next_5 : decode cX2_next 5 = .ok (.istore_n 3, 1) := by decide +kernel
theorem dX2_next_6 : decode cX2_next 6 = .ok (.iload_n 3, 1) := by decide +kernel
theorem dX2_next_7 : decode cX2_next 7 = .ok (.aload_n 0, 1) := by decide +kernel
theorem dX2_next_8 : decode cX2_next 8 = .ok (.getfield 14, 3) := by decide +kernel
theorem dX2_next_11 : decode cX2_next 11 = .ok (.getfield 97, 3) := by decide +kernel
theorem dX2_next_14 : decode cX2_next 14 = .ok (.if_icmp .ge 7, 3) := by decide +kernel
theorem dX2_next_17 : decode cX2_next 17 = .ok (.iload_n 3, 1) := by decide +kernel
theorem dX2_next_18 : decode cX2_next 18 = .ok (.goto 4, 3) := by decide +kernel
theorem dX2_next_21 : decode cX2_next 21 = .ok (.iconst (-1), 1) := by decide +kernel
theorem dX2_next_22 : decode cX2_next 22 = .ok (.ireturn, 1) := by decide +kernel
theorem dX2_remove_0 : decode cX2_remove 0 = .ok (.aload_n 0, 1) := by decide +kernel
theorem dX2_remove_1 : decode cX2_remove 1 = .ok (.getfield 37, 3) := by decide +kernel
theorem dX2_remove_4 : decode cX2_remove 4 = .ok (.ifCond .eq 6, 3) := by decide +kernel
theorem dX2_remove_7 : decode cX2_remove 7 = .ok (.bipush (-5), 2) := by decide +kernel
theorem dX2_remove_9 : decode cX2_remove 9 = .ok (.ireturn, 1) := by decide +kernel
theorem dX2_remove_10 : decode cX2_remove 10 = .ok (.aload_n 0, 1) := by decide +kernel
theorem dX2_remove_11 : decode cX2_remove 11 = .ok (.lload_n 1, 1) := by decide +kernel
theorem dX2_remove_12 : decode cX2_remove 12 = .ok (.invokevirtual 93, 3) := by decide +kernel
theorem dX2_remove_15 : decode cX2_remove 15 = .ok (.istore_n 3, 1) := by decide +kernel
theorem dX2_remove_16 : decode cX2_remove 16 = .ok (.iload_n 3, 1) := by decide +kernel
theorem dX2_remove_17 : decode cX2_remove 17 = .ok (.iconst (-1), 1) := by decide +kernel
theorem dX2_remove_18 : decode cX2_remove 18 = .ok (.if_icmp .ne 5, 3) := by decide +kernel
theorem dX2_remove_21 : decode cX2_remove 21 = .ok (.iconst 0, 1) := by decide +kernel
theorem dX2_remove_22 : decode cX2_remove 22 = .ok (.ireturn, 1) := by decide +kernel
theorem dX2_remove_23 : decode cX2_remove 23 = .ok (.aload_n 0, 1) := by decide +kernel
theorem dX2_remove_24 : decode cX2_remove 24 = .ok (.getfield 24, 3) := by decide +kernel
theorem dX2_remove_27 : decode cX2_remove 27 = .ok (.iload_n 3, 1) := by decide +kernel
theorem dX2_remove_28 : decode cX2_remove 28 = .ok (.invokevirtual 104, 3) := by decide +kernel
theorem dX2_remove_31 : decode cX2_remove 31 = .ok (.istore 4, 2) := by decide +kernel
theorem dX2_remove_33 : decode cX2_remove 33 = .ok (.aload_n 0, 1) := by decide +kernel
theorem dX2_remove_34 : decode cX2_remove 34 = .ok (.getfield 14, 3) := by decide +kernel
theorem dX2_remove_37 : decode cX2_remove 37 = .ok (.iload_n 3, 1) := by decide +kernel
theorem dX2_remove_38 : decode cX2_remove 38 = .ok (.invokevirtual 114, 3) := by decide +kernel
theorem dX2_remove_41 : decode cX2_remove 41 = .ok (.aload_n 0, 1) := by decide +kernel
theorem dX2_remove_42 : decode cX2_remove 42 = .ok (.getfield 18, 3) := by decide +kernel
theorem dX2_remove_45 : decode cX2_remove 45 = .ok (.iload_n 3, 1) := by decide +kernel
theorem dX2_remove_46 : decode cX2_remove 46 = .ok (.invokevirtual 114, 3) := by decide +kernel
theorem dX2_remove_49 : decode cX2_remove 49 = .ok (.aload_n 0, 1) := by decide +kernel
theorem dX2_remove_50 : decode cX2_remove 50 = .ok (.getfield 24, 3) := by decide +kernel
theorem dX2_remove_53 : decode cX2_remove 53 = .ok (.iload 4, 2) := by decide +kernel
theorem dX2_remove_55 : decode cX2_remove 55 = .ok (.iconst (-1), 1) := by decide +kernel
theorem dX2_remove_56 : decode cX2_remove 56 = .ok (.invokevirtual 117, 3) := by decide +kernel
theorem dX2_remove_59 : decode cX2_remove 59 = .ok (.aload_n 0, 1) := by decide +kernel
theorem dX2_remove_60 : decode cX2_remove 60 = .ok (.getfield 24, 3) := by decide +kernel
theorem dX2_remove_63 : decode cX2_remove 63 = .ok (.iload 4, 2) := by decide +kernel
theorem dX2_remove_65 : decode cX2_remove 65 = .ok (.invokevirtual 108, 3) := by decide +kernel
theorem dX2_remove_68 : decode cX2_remove 68 = .ok (.ifCond .ne 20, 3) := by decide +kernel
theorem dX2_remove_71 : decode cX2_remove 71 = .ok (.aload_n 0, 1) := by decide +kernel
theorem dX2_remove_72 : decode cX2_remove 72 = .ok (.getfield 24, 3) := by decide +kernel
theorem dX2_remove_75 : decode cX2_remove 75 = .ok (.getfield 97, 3) := by decide +kernel
theorem dX2_remove_78 : decode cX2_remove 78 = .ok (.iconst 1, 1) := by decide +kernel
theorem dX2_remove_79 : decode cX2_remove 79 = .ok (.if_icmp .le 9, 3) := by decide +kernel
theorem dX2_remove_82 : decode cX2_remove 82 = .ok (.aload_n 0, 1) := by decide +kernel
theorem dX2_remove_83 : decode cX2_remove 83 = .ok (.iload 4, 2) := by decide +kernel
theorem dX2_remove_85 : decode cX2_remove 85 = .ok (.invokevirtual 121, 3) := by decide +kernel
theorem dX2_remove_88 : decode cX2_remove 88 = .ok (.iconst 1, 1) := by decide +kernel
theorem dX2_remove_89 : decode cX2_remove 89 = .ok (.ireturn, 1) := by decide +kernel
theorem dX2_interval_0 : decode cX2_interval 0 = .ok (.aload_n 0, 1) := by decide +kernel
theorem dX2_interval_1 : decode cX2_interval 1 = .ok (.getfield 24, 3) := by decide +kernel
theorem dX2_interval_4 : decode cX2_interval 4 = .ok (.iload_n 1, 1) := by decide +kernel
theorem dX2_interval_5 : decode cX2_interval 5 = .ok (.invokevirtual 124, 3) := by decide +kernel
theorem dX2_interval_8 : decode cX2_interval 8 = .ok (.ifCond .ne 5, 3) := by decide +kernel
theorem dX2_interval_11 : decode cX2_interval 11 = .ok (.iconst (-1), 1) := by decide +kernel
theorem dX2_interval_12 : decode cX2_interval 12 = .ok (.ireturn, 1) := by decide +kernel
theorem dX2_interval_13 : decode cX2_interval 13 = .ok (.iload_n 2, 1) := by decide +kernel
theorem dX2_interval_14 : decode cX2_interval 14 = .ok (.tableswitch 63 0 3 #[30, 39, 48, 54], 30) := by decide +kernel
theorem dX2_interval_44 : decode cX2_interval 44 = .ok (.aload_n 0, 1) := by decide +kernel
theorem dX2_interval_45 : decode cX2_interval 45 = .ok (.getfield 21, 3) := by decide +kernel
theorem dX2_interval_48 : decode cX2_interval 48 = .ok (.iload_n 1, 1) := by decide +kernel
theorem dX2_interval_49 : decode cX2_interval 49 = .ok (.invokevirtual 108, 3) := by decide +kernel
theorem dX2_interval_52 : decode cX2_interval 52 = .ok (.ireturn, 1) := by decide +kernel
theorem dX2_interval_53 : decode cX2_interval 53 = .ok (.aload_n 0, 1) := by decide +kernel
theorem dX2_interval_54 : decode cX2_interval 54 = .ok (.getfield 24, 3) := by decide +kernel
theorem dX2_interval_57 : decode cX2_interval 57 = .ok (.iload_n 1, 1) := by decide +kernel
theorem dX2_interval_58 : decode cX2_interval 58 = .ok (.invokevirtual 108, 3) := by decide +kernel
theorem dX2_interval_61 : decode cX2_interval 61 = .ok (.ireturn, 1) := by decide +kernel
theorem dX2_interval_62 : decode cX2_interval 62 = .ok (.aload_n 0, 1) := by decide +kernel
theorem dX2_interval_63 : decode cX2_interval 63 = .ok (.iload_n 1, 1) := by decide +kernel
theorem dX2_interval_64 : decode cX2_interval 64 = .ok (.invokevirtual 128, 3) := by decide +kernel
theorem dX2_interval_67 : decode cX2_interval 67 = .ok (.ireturn, 1) := by decide +kernel
theorem dX2_interval_68 : decode cX2_interval 68 = .ok (.aload_n 0, 1) := by decide +kernel
theorem dX2_interval_69 : decode cX2_interval 69 = .ok (.getfield 27, 3) := by decide +kernel
theorem dX2_interval_72 : decode cX2_interval 72 = .ok (.iload_n 1, 1) := by decide +kernel
theorem dX2_interval_73 : decode cX2_interval 73 = .ok (.invokevirtual 104, 3) := by decide +kernel
theorem dX2_interval_76 : decode cX2_interval 76 = .ok (.ireturn, 1) := by decide +kernel
theorem dX2_interval_77 : decode cX2_interval 77 = .ok (.iconst (-1), 1) := by decide +kernel
theorem dX2_interval_78 : decode cX2_interval 78 = .ok (.ireturn, 1) := by decide +kernel
theorem dX2_cut_0 : decode cX2_cut 0 = .ok (.aload_n 0, 1) := by decide +kernel
theorem dX2_cut_1 : decode cX2_cut 1 = .ok (.getfield 37, 3) := by decide +kernel
theorem dX2_cut_4 : decode cX2_cut 4 = .ok (.ifCond .eq 6, 3) := by decide +kernel
theorem dX2_cut_7 : decode cX2_cut 7 = .ok (.bipush (-5), 2) := by decide +kernel
theorem dX2_cut_9 : decode cX2_cut 9 = .ok (.ireturn, 1) := by decide +kernel
theorem dX2_cut_10 : decode cX2_cut 10 = .ok (.iload_n 1, 1) := by decide +kernel
theorem dX2_cut_11 : decode cX2_cut 11 = .ok (.ifCond .lt 8, 3) := by decide +kernel
theorem dX2_cut_14 : decode cX2_cut 14 = .ok (.iload_n 1, 1) := by decide +kernel
theorem dX2_cut_15 : decode cX2_cut 15 = .ok (.iconst 4, 1) := by decide +kernel
theorem dX2_cut_16 : decode cX2_cut 16 = .ok (.if_icmp .le 5, 3) := by decide +kernel
theorem dX2_cut_19 : decode cX2_cut 19 = .ok (.iconst (-1), 1) := by decide +kernel
theorem dX2_cut_20 : decode cX2_cut 20 = .ok (.ireturn, 1) := by decide +kernel
theorem dX2_cut_21 : decode cX2_cut 21 = .ok (.aload_n 0, 1) := by decide +kernel
theorem dX2_cut_22 : decode cX2_cut 22 = .ok (.getfield 34, 3) := by decide +kernel
theorem dX2_cut_25 : decode cX2_cut 25 = .ok (.istore_n 2, 1) := by decide +kernel
theorem dX2_cut_26 : decode cX2_cut 26 = .ok (.aload_n 0, 1) := by decide +kernel
theorem dX2_cut_27 : decode cX2_cut 27 = .ok (.iload_n 1, 1) := by decide +kernel
theorem dX2_cut_28 : decode cX2_cut 28 = .ok (.putfield 34, 3) := by decide +kernel
theorem dX2_cut_31 : decode cX2_cut 31 = .ok (.iload_n 2, 1) := by decide +kernel
theorem dX2_cut_32 : decode cX2_cut 32 = .ok (.ireturn, 1) := by decide +kernel
theorem dX2_open_0 : decode cX2_open 0 = .ok (.aload_n 0, 1) := by decide +kernel
theorem dX2_open_1 : decode cX2_open 1 = .ok (.getfield 37, 3) := by decide +kernel
theorem dX2_open_4 : decode cX2_open 4 = .ok (.ifCond .ne 5, 3) := by decide +kernel
theorem dX2_open_7 : decode cX2_open 7 = .ok (.iconst 0, 1) := by decide +kernel
theorem dX2_open_8 : decode cX2_open 8 = .ok (.ireturn, 1) := by decide +kernel
theorem dX2_open_9 : decode cX2_open 9 = .ok (.aload_n 0, 1) := by decide +kernel
theorem dX2_open_10 : decode cX2_open 10 = .ok (.iconst 0, 1) := by decide +kernel
theorem dX2_open_11 : decode cX2_open 11 = .ok (.putfield 37, 3) := by decide +kernel
theorem dX2_open_14 : decode cX2_open 14 = .ok (.aload_n 0, 1) := by decide +kernel
theorem dX2_open_15 : decode cX2_open 15 = .ok (.getfield 41, 3) := by decide +kernel
theorem dX2_open_18 : decode cX2_open 18 = .ok (.ifCond .ne 15, 3) := by decide +kernel
theorem dX2_open_21 : decode cX2_open 21 = .ok (.aload_n 0, 1) := by decide +kernel
theorem dX2_open_22 : decode cX2_open 22 = .ok (.dup, 1) := by decide +kernel
theorem dX2_open_23 : decode cX2_open 23 = .ok (.getfield 62, 3) := by decide +kernel
theorem dX2_open_26 : decode cX2_open 26 = .ok (.iconst 1, 1) := by decide +kernel
theorem dX2_open_27 : decode cX2_open 27 = .ok (.iadd, 1) := by decide +kernel
theorem dX2_open_28 : decode cX2_open 28 = .ok (.putfield 62, 3) := by decide +kernel
theorem dX2_open_31 : decode cX2_open 31 = .ok (.iconst 1, 1) := by decide +kernel
theorem dX2_open_32 : decode cX2_open 32 = .ok (.ireturn, 1) := by decide +kernel
theorem dX2_open_33 : decode cX2_open 33 = .ok (.aload_n 0, 1) := by decide +kernel
theorem dX2_open_34 : decode cX2_open 34 = .ok (.invokevirtual 131, 3) := by decide +kernel
theorem dX2_open_37 : decode cX2_open 37 = .ok (.aload_n 0, 1) := by decide +kernel
theorem dX2_open_38 : decode cX2_open 38 = .ok (.dup, 1) := by decide +kernel
theorem dX2_open_39 : decode cX2_open 39 = .ok (.getfield 65, 3) := by decide +kernel
theorem dX2_open_42 : decode cX2_open 42 = .ok (.iconst 1, 1) := by decide +kernel
theorem dX2_open_43 : decode cX2_open 43 = .ok (.iadd, 1) := by decide +kernel
theorem dX2_open_44 : decode cX2_open 44 = .ok (.putfield 65, 3) := by decide +kernel
theorem dX2_open_47 : decode cX2_open 47 = .ok (.iconst 2, 1) := by decide +kernel
theorem dX2_open_48 : decode cX2_open 48 = .ok (.ireturn, 1) := by decide +kernel
theorem dX2_split_0 : decode cX2_split 0 = .ok (.iload_n 1, 1) := by decide +kernel
theorem dX2_split_1 : decode cX2_split 1 = .ok (.tableswitch 51 0 3 #[31, 36, 41, 46], 31) := by decide +kernel
theorem dX2_split_32 : decode cX2_split 32 = .ok (.aload_n 0, 1) := by decide +kernel
theorem dX2_split_33 : decode cX2_split 33 = .ok (.getfield 56, 3) := by decide +kernel
theorem dX2_split_36 : decode cX2_split 36 = .ok (.ireturn, 1) := by decide +kernel
theorem dX2_split_37 : decode cX2_split 37 = .ok (.aload_n 0, 1) := by decide +kernel
theorem dX2_split_38 : decode cX2_split 38 = .ok (.getfield 59, 3) := by decide +kernel
theorem dX2_split_41 : decode cX2_split 41 = .ok (.ireturn, 1) := by decide +kernel
theorem dX2_split_42 : decode cX2_split 42 = .ok (.aload_n 0, 1) := by decide +kernel
theorem dX2_split_43 : decode cX2_split 43 = .ok (.getfield 62, 3) := by decide +kernel
theorem dX2_split_46 : decode cX2_split 46 = .ok (.ireturn, 1) := by decide +kernel
theorem dX2_split_47 : decode cX2_split 47 = .ok (.aload_n 0, 1) := by decide +kernel
theorem dX2_split_48 : decode cX2_split 48 = .ok (.getfield 65, 3) := by decide +kernel
theorem dX2_split_51 : decode cX2_split 51 = .ok (.ireturn, 1) := by decide +kernel
theorem dX2_split_52 : decode cX2_split 52 = .ok (.iconst (-1), 1) := by decide +kernel
theorem dX2_split_53 : decode cX2_split 53 = .ok (.ireturn, 1) := by decide +kernel
theorem dX2_index_0 : decode cX2_index 0 = .ok (.iload_n 1, 1) := by decide +kernel
theorem dX2_index_1 : decode cX2_index 1 = .ok (.ifCond .ne 20, 3) := by decide +kernel
theorem dX2_index_4 : decode cX2_index 4 = .ok (.aload_n 0, 1) := by decide +kernel
theorem dX2_index_5 : decode cX2_index 5 = .ok (.getfield 24, 3) := by decide +kernel
theorem dX2_index_8 : decode cX2_index 8 = .ok (.iload_n 2, 1) := by decide +kernel
theorem dX2_index_9 : decode cX2_index 9 = .ok (.invokevirtual 124, 3) := by decide +kernel
theorem dX2_index_12 : decode cX2_index 12 = .ok (.ifCond .eq 9, 3) := by decide +kernel
theorem dX2_index_15 : decode cX2_index 15 = .ok (.aload_n 0, 1) := by decide +kernel
theorem dX2_index_16 : decode cX2_index 16 = .ok (.iload_n 2, 1) := by decide +kernel
theorem dX2_index_17 : decode cX2_index 17 = .ok (.invokevirtual 134, 3) := by decide +kernel
theorem dX2_index_20 : decode cX2_index 20 = .ok (.ireturn, 1) := by decide +kernel
theorem dX2_index_21 : decode cX2_index 21 = .ok (.iload_n 1, 1) := by decide +kernel
theorem dX2_index_22 : decode cX2_index 22 = .ok (.iconst 1, 1) := by decide +kernel
theorem dX2_index_23 : decode cX2_index 23 = .ok (.if_icmp .ne 28, 3) := by decide +kernel
theorem dX2_index_26 : decode cX2_index 26 = .ok (.aload_n 0, 1) := by decide +kernel
theorem dX2_index_27 : decode cX2_index 27 = .ok (.getfield 27, 3) := by decide +kernel
theorem dX2_index_30 : decode cX2_index 30 = .ok (.iload_n 2, 1) := by decide +kernel
theorem dX2_index_31 : decode cX2_index 31 = .ok (.invokevirtual 124, 3) := by decide +kernel
theorem dX2_index_34 : decode cX2_index 34 = .ok (.ifCond .eq 17, 3) := by decide +kernel
theorem dX2_index_37 : decode cX2_index 37 = .ok (.aload_n 0, 1) := by decide +kernel
theorem dX2_index_38 : decode cX2_index 38 = .ok (.aload_n 0, 1) := by decide +kernel
theorem dX2_index_39 : decode cX2_index 39 = .ok (.getfield 27, 3) := by decide +kernel
theorem dX2_index_42 : decode cX2_index 42 = .ok (.iconst 0, 1) := by decide +kernel
theorem dX2_index_43 : decode cX2_index 43 = .ok (.iload_n 2, 1) := by decide +kernel
theorem dX2_index_44 : decode cX2_index 44 = .ok (.invokevirtual 137, 3) := by decide +kernel
theorem dX2_index_47 : decode cX2_index 47 = .ok (.invokevirtual 134, 3) := by decide +kernel
theorem dX2_index_50 : decode cX2_index 50 = .ok (.ireturn, 1) := by decide +kernel
theorem dX2_index_51 : decode cX2_index 51 = .ok (.new 140, 3) := by decide +kernel
theorem dX2_index_54 : decode cX2_index 54 = .ok (.dup, 1) := by decide +kernel
theorem dX2_index_55 : decode cX2_index 55 = .ok (.ldc 142, 2) := by decide +kernel
theorem dX2_index_57 : decode cX2_index 57 = .ok (.invokespecial 144, 3) := by decide +kernel
theorem dX2_index_60 : decode cX2_index 60 = .ok (.athrow, 1) := by decide +kernel
theorem dX2_verify_0 : decode cX2_verify 0 = .ok (.aload_n 0, 1) := by decide +kernel
theorem dX2_verify_1 : decode cX2_verify 1 = .ok (.invokevirtual 147, 3) := by decide +kernel
theorem dX2_verify_4 : decode cX2_verify 4 = .ok (.aload_n 0, 1) := by decide +kernel
theorem dX2_verify_5 : decode cX2_verify 5 = .ok (.invokevirtual 151, 3) := by decide +kernel
theorem dX2_verify_8 : decode cX2_verify 8 = .ok (.iadd, 1) := by decide +kernel
theorem dX2_verify_9 : decode cX2_verify 9 = .ok (.aload_n 0, 1) := by decide +kernel
theorem dX2_verify_10 : decode cX2_verify 10 = .ok (.invokevirtual 154, 3) := by decide +kernel
theorem dX2_verify_13 : decode cX2_verify 13 = .ok (.iadd, 1) := by decide +kernel
theorem dX2_verify_14 : decode cX2_verify 14 = .ok (.ireturn, 1) := by decide +kernel
theorem dX2_reorganise_0 : decode cX2_reorganise 0 = .ok (.aload_n 0, 1) := by decide +kernel
theorem dX2_reorganise_1 : decode cX2_reorganise 1 = .ok (.getfield 37, 3) := by decide +kernel
theorem dX2_reorganise_4 : decode cX2_reorganise 4 = .ok (.ifCond .eq 6, 3) := by decide +kernel
theorem dX2_reorganise_7 : decode cX2_reorganise 7 = .ok (.bipush (-5), 2) := by decide +kernel
theorem dX2_reorganise_9 : decode cX2_reorganise 9 = .ok (.ireturn, 1) := by decide +kernel
theorem dX2_reorganise_10 : decode cX2_reorganise 10 = .ok (.aload_n 0, 1) := by decide +kernel
theorem dX2_reorganise_11 : decode cX2_reorganise 11 = .ok (.getfield 21, 3) := by decide +kernel
theorem dX2_reorganise_14 : decode cX2_reorganise 14 = .ok (.iconst 0, 1) := by decide +kernel
theorem dX2_reorganise_15 : decode cX2_reorganise 15 = .ok (.putfield 97, 3) := by decide +kernel
theorem dX2_reorganise_18 : decode cX2_reorganise 18 = .ok (.aload_n 0, 1) := by decide +kernel
theorem dX2_reorganise_19 : decode cX2_reorganise 19 = .ok (.getfield 24, 3) := by decide +kernel
theorem dX2_reorganise_22 : decode cX2_reorganise 22 = .ok (.iconst 0, 1) := by decide +kernel
theorem dX2_reorganise_23 : decode cX2_reorganise 23 = .ok (.putfield 97, 3) := by decide +kernel
theorem dX2_reorganise_26 : decode cX2_reorganise 26 = .ok (.aload_n 0, 1) := by decide +kernel
theorem dX2_reorganise_27 : decode cX2_reorganise 27 = .ok (.getfield 27, 3) := by decide +kernel
theorem dX2_reorganise_30 : decode cX2_reorganise 30 = .ok (.iconst 0, 1) := by decide +kernel
theorem dX2_reorganise_31 : decode cX2_reorganise 31 = .ok (.putfield 97, 3) := by decide +kernel
theorem dX2_reorganise_34 : decode cX2_reorganise 34 = .ok (.iconst 0, 1) := by decide +kernel
theorem dX2_reorganise_35 : decode cX2_reorganise 35 = .ok (.istore_n 1, 1) := by decide +kernel
theorem dX2_reorganise_36 : decode cX2_reorganise 36 = .ok (.iconst 0, 1) := by decide +kernel
theorem dX2_reorganise_37 : decode cX2_reorganise 37 = .ok (.istore_n 2, 1) := by decide +kernel
theorem dX2_reorganise_38 : decode cX2_reorganise 38 = .ok (.iconst 0, 1) := by decide +kernel
theorem dX2_reorganise_39 : decode cX2_reorganise 39 = .ok (.istore_n 3, 1) := by decide +kernel
theorem dX2_reorganise_40 : decode cX2_reorganise 40 = .ok (.iload_n 3, 1) := by decide +kernel
theorem dX2_reorganise_41 : decode cX2_reorganise 41 = .ok (.aload_n 0, 1) := by decide +kernel
theorem dX2_reorganise_42 : decode cX2_reorganise 42 = .ok (.getfield 18, 3) := by decide +kernel
theorem dX2_reorganise_45 : decode cX2_reorganise 45 = .ok (.getfield 97, 3) := by decide +kernel
theorem dX2_reorganise_48 : decode cX2_reorganise 48 = .ok (.if_icmp .ge 51, 3) := by decide +kernel
theorem dX2_reorganise_51 : decode cX2_reorganise 51 = .ok (.aload_n 0, 1) := by decide +kernel
theorem dX2_reorganise_52 : decode cX2_reorganise 52 = .ok (.getfield 18, 3) := by decide +kernel
theorem dX2_reorganise_55 : decode cX2_reorganise 55 = .ok (.iload_n 3, 1) := by decide +kernel
theorem dX2_reorganise_56 : decode cX2_reorganise 56 = .ok (.invokevirtual 108, 3) := by decide +kernel
theorem dX2_reorganise_59 : decode cX2_reorganise 59 = .ok (.istore 4, 2) := by decide +kernel
theorem dX2_reorganise_61 : decode cX2_reorganise 61 = .ok (.iload_n 1, 1) := by decide +kernel
theorem dX2_reorganise_62 : decode cX2_reorganise 62 = .ok (.ifCond .le 23, 3) := by decide +kernel
theorem dX2_reorganise_65 : decode cX2_reorganise 65 = .ok (.iload_n 2, 1) := by decide +kernel
theorem dX2_reorganise_66 : decode cX2_reorganise 66 = .ok (.iload 4, 2) := by decide +kernel
theorem dX2_reorganise_68 : decode cX2_reorganise 68 = .ok (.iadd, 1) := by decide +kernel
theorem dX2_reorganise_69 : decode cX2_reorganise 69 = .ok (.aload_n 0, 1) := by decide +kernel
theorem dX2_reorganise_70 : decode cX2_reorganise 70 = .ok (.getfield 78, 3) := by decide +kernel
theorem dX2_reorganise_73 : decode cX2_reorganise 73 = .ok (.if_icmp .le 12, 3) := by decide +kernel
theorem dX2_reorganise_76 : decode cX2_reorganise 76 = .ok (.aload_n 0, 1) := by decide +kernel
theorem dX2_reorganise_77 : decode cX2_reorganise 77 = .ok (.iload_n 1, 1) := by decide +kernel
theorem dX2_reorganise_78 : decode cX2_reorganise 78 = .ok (.invokevirtual 90, 3) := by decide +kernel
theorem dX2_reorganise_81 : decode cX2_reorganise 81 = .ok (.iconst 0, 1) := by decide +kernel
theorem dX2_reorganise_82 : decode cX2_reorganise 82 = .ok (.istore_n 1, 1) := by decide +kernel
theorem dX2_reorganise_83 : decode cX2_reorganise 83 = .ok (.iconst 0, 1) := by decide +kernel
theorem dX2_reorganise_84 : decode cX2_reorganise 84 = .ok (.istore_n 2, 1) := by decide +kernel
theorem dX2_reorganise_85 : decode cX2_reorganise 85 = .ok (.iinc 1 1, 3) := by decide +kernel
theorem dX2_reorganise_88 : decode cX2_reorganise 88 = .ok (.iload_n 2, 1) := by decide +kernel
theorem dX2_reorganise_89 : decode cX2_reorganise 89 = .ok (.iload 4, 2) := by decide +kernel
theorem dX2_reorganise_91 : decode cX2_reorganise 91 = .ok (.iadd, 1) := by decide +kernel
theorem dX2_reorganise_92 : decode cX2_reorganise 92 = .ok (.istore_n 2, 1) := by decide +kernel
theorem dX2_reorganise_93 : decode cX2_reorganise 93 = .ok (.iinc 3 1, 3) := by decide +kernel
theorem dX2_reorganise_96 : decode cX2_reorganise 96 = .ok (.goto (-56), 3) := by decide +kernel
theorem dX2_reorganise_99 : decode cX2_reorganise 99 = .ok (.aload_n 0, 1) := by decide +kernel
theorem dX2_reorganise_100 : decode cX2_reorganise 100 = .ok (.iload_n 1, 1) := by decide +kernel
theorem dX2_reorganise_101 : decode cX2_reorganise 101 = .ok (.invokevirtual 90, 3) := by decide +kernel
theorem dX2_reorganise_104 : decode cX2_reorganise 104 = .ok (.aload_n 0, 1) := by decide +kernel
theorem dX2_reorganise_105 : decode cX2_reorganise 105 = .ok (.getfield 24, 3) := by decide +kernel
theorem dX2_reorganise_108 : decode cX2_reorganise 108 = .ok (.getfield 97, 3) := by decide +kernel
theorem dX2_reorganise_111 : decode cX2_reorganise 111 = .ok (.ireturn, 1) := by decide +kernel
theorem dX2_order_0 : decode cX2_order 0 = .ok (.aload_n 0, 1) := by decide +kernel
theorem dX2_order_1 : decode cX2_order 1 = .ok (.getfield 14, 3) := by decide +kernel
theorem dX2_order_4 : decode cX2_order 4 = .ok (.iload_n 1, 1) := by decide +kernel
theorem dX2_order_5 : decode cX2_order 5 = .ok (.invokevirtual 157, 3) := by decide +kernel
theorem dX2_order_8 : decode cX2_order 8 = .ok (.lreturn, 1) := by decide +kernel
theorem dX2_count_0 : decode cX2_count 0 = .ok (.iload_n 1, 1) := by decide +kernel
theorem dX2_count_1 : decode cX2_count 1 = .ok (.tableswitch 97 0 5 #[39, 47, 55, 63, 76, 81], 39) := by decide +kernel
theorem dX2_count_40 : decode cX2_count 40 = .ok (.aload_n 0, 1) := by decide +kernel
theorem dX2_count_41 : decode cX2_count 41 = .ok (.getfield 14, 3) := by decide +kernel
theorem dX2_count_44 : decode cX2_count 44 = .ok (.getfield 97, 3) := by decide +kernel
theorem dX2_count_47 : decode cX2_count 47 = .ok (.ireturn, 1) := by decide +kernel
theorem dX2_count_48 : decode cX2_count 48 = .ok (.aload_n 0, 1) := by decide +kernel
theorem dX2_count_49 : decode cX2_count 49 = .ok (.getfield 24, 3) := by decide +kernel
theorem dX2_count_52 : decode cX2_count 52 = .ok (.getfield 97, 3) := by decide +kernel
theorem dX2_count_55 : decode cX2_count 55 = .ok (.ireturn, 1) := by decide +kernel
theorem dX2_count_56 : decode cX2_count 56 = .ok (.aload_n 0, 1) := by decide +kernel
theorem dX2_count_57 : decode cX2_count 57 = .ok (.getfield 27, 3) := by decide +kernel
theorem dX2_count_60 : decode cX2_count 60 = .ok (.getfield 97, 3) := by decide +kernel
theorem dX2_count_63 : decode cX2_count 63 = .ok (.ireturn, 1) := by decide +kernel
theorem dX2_count_64 : decode cX2_count 64 = .ok (.aload_n 0, 1) := by decide +kernel
theorem dX2_count_65 : decode cX2_count 65 = .ok (.getfield 37, 3) := by decide +kernel
theorem dX2_count_68 : decode cX2_count 68 = .ok (.ifCond .eq 7, 3) := by decide +kernel
theorem dX2_count_71 : decode cX2_count 71 = .ok (.iconst 1, 1) := by decide +kernel
theorem dX2_count_72 : decode cX2_count 72 = .ok (.goto 4, 3) := by decide +kernel
theorem dX2_count_75 : decode cX2_count 75 = .ok (.iconst 0, 1) := by decide +kernel
theorem dX2_count_76 : decode cX2_count 76 = .ok (.ireturn, 1) := by decide +kernel
theorem dX2_count_77 : decode cX2_count 77 = .ok (.aload_n 0, 1) := by decide +kernel
theorem dX2_count_78 : decode cX2_count 78 = .ok (.getfield 30, 3) := by decide +kernel
theorem dX2_count_81 : decode cX2_count 81 = .ok (.ireturn, 1) := by decide +kernel
theorem dX2_count_82 : decode cX2_count 82 = .ok (.aload_n 0, 1) := by decide +kernel
theorem dX2_count_83 : decode cX2_count 83 = .ok (.getfield 18, 3) := by decide +kernel
theorem dX2_count_86 : decode cX2_count 86 = .ok (.iconst 0, 1) := by decide +kernel
theorem dX2_count_87 : decode cX2_count 87 = .ok (.aload_n 0, 1) := by decide +kernel
theorem dX2_count_88 : decode cX2_count 88 = .ok (.getfield 18, 3) := by decide +kernel
theorem dX2_count_91 : decode cX2_count 91 = .ok (.getfield 97, 3) := by decide +kernel
theorem dX2_count_94 : decode cX2_count 94 = .ok (.invokevirtual 137, 3) := by decide +kernel
theorem dX2_count_97 : decode cX2_count 97 = .ok (.ireturn, 1) := by decide +kernel
theorem dX2_count_98 : decode cX2_count 98 = .ok (.iconst (-1), 1) := by decide +kernel
theorem dX2_count_99 : decode cX2_count 99 = .ok (.ireturn, 1) := by decide +kernel
theorem dX2_heldTo_0 : decode cX2_heldTo 0 = .ok (.iload_n 1, 1) := by decide +kernel
theorem dX2_heldTo_1 : decode cX2_heldTo 1 = .ok (.iload_n 2, 1) := by decide +kernel
theorem dX2_heldTo_2 : decode cX2_heldTo 2 = .ok (.iload_n 0, 1) := by decide +kernel
theorem dX2_heldTo_3 : decode cX2_heldTo 3 = .ok (.invokestatic 161, 3) := by decide +kernel
theorem dX2_heldTo_6 : decode cX2_heldTo 6 = .ok (.invokestatic 81, 3) := by decide +kernel
theorem dX2_heldTo_9 : decode cX2_heldTo 9 = .ok (.ireturn, 1) := by decide +kernel
theorem dX2_notGreaterThan_0 : decode cX2_notGreaterThan 0 = .ok (.iconst 0, 1) := by decide +kernel
theorem dX2_notGreaterThan_1 : decode cX2_notGreaterThan 1 = .ok (.istore_n 3, 1) := by decide +kernel
theorem dX2_notGreaterThan_2 : decode cX2_notGreaterThan 2 = .ok (.iload_n 3, 1) := by decide +kernel
theorem dX2_notGreaterThan_3 : decode cX2_notGreaterThan 3 = .ok (.aload_n 0, 1) := by decide +kernel
theorem dX2_notGreaterThan_4 : decode cX2_notGreaterThan 4 = .ok (.getfield 14, 3) := by decide +kernel
theorem dX2_notGreaterThan_7 : decode cX2_notGreaterThan 7 = .ok (.getfield 97, 3) := by decide +kernel
theorem dX2_notGreaterThan_10 : decode cX2_notGreaterThan 10 = .ok (.if_icmp .ge 22, 3) := by decide +kernel
theorem dX2_notGreaterThan_13 : decode cX2_notGreaterThan 13 = .ok (.aload_n 0, 1) := by decide +kernel
theorem dX2_notGreaterThan_14 : decode cX2_notGreaterThan 14 = .ok (.getfield 14, 3) := by decide +kernel
theorem dX2_notGreaterThan_17 : decode cX2_notGreaterThan 17 = .ok (.iload_n 3, 1) := by decide +kernel
theorem dX2_notGreaterThan_18 : decode cX2_notGreaterThan 18 = .ok (.invokevirtual 157, 3) := by decide +kernel
theorem dX2_notGreaterThan_21 : decode cX2_notGreaterThan 21 = .ok (.lload_n 1, 1) := by decide +kernel
theorem dX2_notGreaterThan_22 : decode cX2_notGreaterThan 22 = .ok (.lcmp, 1) := by decide +kernel
theorem dX2_notGreaterThan_23 : decode cX2_notGreaterThan 23 = .ok (.ifCond .gt 9, 3) := by decide +kernel
theorem dX2_notGreaterThan_26 : decode cX2_notGreaterThan 26 = .ok (.iinc 3 1, 3) := by decide +kernel
theorem dX2_notGreaterThan_29 : decode cX2_notGreaterThan 29 = .ok (.goto (-27), 3) := by decide +kernel
theorem dX2_notGreaterThan_32 : decode cX2_notGreaterThan 32 = .ok (.iload_n 3, 1) := by decide +kernel
theorem dX2_notGreaterThan_33 : decode cX2_notGreaterThan 33 = .ok (.ireturn, 1) := by decide +kernel
theorem dX2_positionOf_0 : decode cX2_positionOf 0 = .ok (.aload_n 0, 1) := by decide +kernel
theorem dX2_positionOf_1 : decode cX2_positionOf 1 = .ok (.lload_n 1, 1) := by decide +kernel
theorem dX2_positionOf_2 : decode cX2_positionOf 2 = .ok (.invokevirtual 111, 3) := by decide +kernel
theorem dX2_positionOf_5 : decode cX2_positionOf 5 = .ok (.iconst 1, 1) := by decide +kernel
theorem dX2_positionOf_6 : decode cX2_positionOf 6 = .ok (.isub, 1) := by decide +kernel
theorem dX2_positionOf_7 : decode cX2_positionOf 7 = .ok (.istore_n 3, 1) := by decide +kernel
theorem dX2_positionOf_8 : decode cX2_positionOf 8 = .ok (.iload_n 3, 1) := by decide +kernel
theorem dX2_positionOf_9 : decode cX2_positionOf 9 = .ok (.ifCond .lt 20, 3) := by decide +kernel
theorem dX2_positionOf_12 : decode cX2_positionOf 12 = .ok (.aload_n 0, 1) := by decide +kernel
theorem dX2_positionOf_13 : decode cX2_positionOf 13 = .ok (.getfield 14, 3) := by decide +kernel
theorem dX2_positionOf_16 : decode cX2_positionOf 16 = .ok (.iload_n 3, 1) := by decide +kernel
theorem dX2_positionOf_17 : decode cX2_positionOf 17 = .ok (.invokevirtual 157, 3) := by decide +kernel
theorem dX2_positionOf_20 : decode cX2_positionOf 20 = .ok (.lload_n 1, 1) := by decide +kernel
theorem dX2_positionOf_21 : decode cX2_positionOf 21 = .ok (.lcmp, 1) := by decide +kernel
theorem dX2_positionOf_22 : decode cX2_positionOf 22 = .ok (.ifCond .ne 7, 3) := by decide +kernel
theorem dX2_positionOf_25 : decode cX2_positionOf 25 = .ok (.iload_n 3, 1) := by decide +kernel
theorem dX2_positionOf_26 : decode cX2_positionOf 26 = .ok (.goto 4, 3) := by decide +kernel
theorem dX2_positionOf_29 : decode cX2_positionOf 29 = .ok (.iconst (-1), 1) := by decide +kernel
theorem dX2_positionOf_30 : decode cX2_positionOf 30 = .ok (.ireturn, 1) := by decide +kernel
theorem dX2_lengthsIn_0 : decode cX2_lengthsIn 0 = .ok (.aload_n 0, 1) := by decide +kernel
theorem dX2_lengthsIn_1 : decode cX2_lengthsIn 1 = .ok (.getfield 24, 3) := by decide +kernel
theorem dX2_lengthsIn_4 : decode cX2_lengthsIn 4 = .ok (.iconst 0, 1) := by decide +kernel
theorem dX2_lengthsIn_5 : decode cX2_lengthsIn 5 = .ok (.iload_n 1, 1) := by decide +kernel
theorem dX2_lengthsIn_6 : decode cX2_lengthsIn 6 = .ok (.invokevirtual 137, 3) := by decide +kernel
theorem dX2_lengthsIn_9 : decode cX2_lengthsIn 9 = .ok (.istore_n 2, 1) := by decide +kernel
theorem dX2_lengthsIn_10 : decode cX2_lengthsIn 10 = .ok (.aload_n 0, 1) := by decide +kernel
theorem dX2_lengthsIn_11 : decode cX2_lengthsIn 11 = .ok (.getfield 18, 3) := by decide +kernel
theorem dX2_lengthsIn_14 : decode cX2_lengthsIn 14 = .ok (.iload_n 2, 1) := by decide +kernel
theorem dX2_lengthsIn_15 : decode cX2_lengthsIn 15 = .ok (.iload_n 2, 1) := by decide +kernel
theorem dX2_lengthsIn_16 : decode cX2_lengthsIn 16 = .ok (.aload_n 0, 1) := by decide +kernel
theorem dX2_lengthsIn_17 : decode cX2_lengthsIn 17 = .ok (.getfield 24, 3) := by decide +kernel
theorem dX2_lengthsIn_20 : decode cX2_lengthsIn 20 = .ok (.iload_n 1, 1) := by decide +kernel
theorem dX2_lengthsIn_21 : decode cX2_lengthsIn 21 = .ok (.invokevirtual 108, 3) := by decide +kernel
theorem dX2_lengthsIn_24 : decode cX2_lengthsIn 24 = .ok (.iadd, 1) := by decide +kernel
theorem dX2_lengthsIn_25 : decode cX2_lengthsIn 25 = .ok (.invokevirtual 137, 3) := by decide +kernel
theorem dX2_lengthsIn_28 : decode cX2_lengthsIn 28 = .ok (.ireturn, 1) := by decide +kernel
theorem dX2_lowBitsOfFirstKey_0 : decode cX2_lowBitsOfFirstKey 0 = .ok (.aload_n 0, 1) := by decide +kernel
theorem dX2_lowBitsOfFirstKey_1 : decode cX2_lowBitsOfFirstKey 1 = .ok (.getfield 14, 3) := by decide +kernel
theorem dX2_lowBitsOfFirstKey_4 : decode cX2_lowBitsOfFirstKey 4 = .ok (.aload_n 0, 1) := by decide +kernel
theorem dX2_lowBitsOfFirstKey_5 : decode cX2_lowBitsOfFirstKey 5 = .ok (.getfield 24, 3) := by decide +kernel
theorem dX2_lowBitsOfFirstKey_8 : decode cX2_lowBitsOfFirstKey 8 = .ok (.iconst 0, 1) := by decide +kernel
theorem dX2_lowBitsOfFirstKey_9 : decode cX2_lowBitsOfFirstKey 9 = .ok (.iload_n 1, 1) := by decide +kernel
theorem dX2_lowBitsOfFirstKey_10 : decode cX2_lowBitsOfFirstKey 10 = .ok (.invokevirtual 137, 3) := by decide +kernel
theorem dX2_lowBitsOfFirstKey_13 : decode cX2_lowBitsOfFirstKey 13 = .ok (.invokevirtual 157, 3) := by decide +kernel
theorem dX2_lowBitsOfFirstKey_16 : decode cX2_lowBitsOfFirstKey 16 = .ok (.l2i, 1) := by decide +kernel
theorem dX2_lowBitsOfFirstKey_17 : decode cX2_lowBitsOfFirstKey 17 = .ok (.ireturn, 1) := by decide +kernel
theorem dX2_place_0 : decode cX2_place 0 = .ok (.iconst 0, 1) := by decide +kernel
theorem dX2_place_1 : decode cX2_place 1 = .ok (.istore 4, 2) := by decide +kernel
theorem dX2_place_3 : decode cX2_place 3 = .ok (.iload 4, 2) := by decide +kernel
theorem dX2_place_5 : decode cX2_place 5 = .ok (.sipush 2400, 3) := by decide +kernel
theorem dX2_place_8 : decode cX2_place 8 = .ok (.if_icmp .ge 131, 3) := by decide +kernel
theorem dX2_place_11 : decode cX2_place 11 = .ok (.aload_n 0, 1) := by decide +kernel
theorem dX2_place_12 : decode cX2_place 12 = .ok (.getfield 24, 3) := by decide +kernel
theorem dX2_place_15 : decode cX2_place 15 = .ok (.iconst 0, 1) := by decide +kernel
theorem dX2_place_16 : decode cX2_place 16 = .ok (.aload_n 0, 1) := by decide +kernel
theorem dX2_place_17 : decode cX2_place 17 = .ok (.lload_n 1, 1) := by decide +kernel
theorem dX2_place_18 : decode cX2_place 18 = .ok (.invokevirtual 111, 3) := by decide +kernel
theorem dX2_place_21 : decode cX2_place 21 = .ok (.iconst 1, 1) := by decide +kernel
theorem dX2_place_22 : decode cX2_place 22 = .ok (.isub, 1) := by decide +kernel
theorem dX2_place_23 : decode cX2_place 23 = .ok (.invokestatic 81, 3) := by decide +kernel
theorem dX2_place_26 : decode cX2_place 26 = .ok (.invokevirtual 104, 3) := by decide +kernel
theorem dX2_place_29 : decode cX2_place 29 = .ok (.istore 5, 2) := by decide +kernel
theorem dX2_place_31 : decode cX2_place 31 = .ok (.aload_n 0, 1) := by decide +kernel
theorem dX2_place_32 : decode cX2_place 32 = .ok (.iload 5, 2) := by decide +kernel
theorem dX2_place_34 : decode cX2_place 34 = .ok (.invokevirtual 128, 3) := by decide +kernel
theorem dX2_place_37 : decode cX2_place 37 = .ok (.iload_n 3, 1) := by decide +kernel
theorem dX2_place_38 : decode cX2_place 38 = .ok (.iadd, 1) := by decide +kernel
theorem dX2_place_39 : decode cX2_place 39 = .ok (.aload_n 0, 1) := by decide +kernel
theorem dX2_place_40 : decode cX2_place 40 = .ok (.getfield 72, 3) := by decide +kernel
theorem dX2_place_43 : decode cX2_place 43 = .ok (.if_icmp .gt 13, 3) := by decide +kernel
theorem dX2_place_46 : decode cX2_place 46 = .ok (.aload_n 0, 1) := by decide +kernel
theorem dX2_place_47 : decode cX2_place 47 = .ok (.iload 5, 2) := by decide +kernel
theorem dX2_place_49 : decode cX2_place 49 = .ok (.lload_n 1, 1) := by decide +kernel
theorem dX2_place_50 : decode cX2_place 50 = .ok (.iload_n 3, 1) := by decide +kernel
theorem dX2_place_51 : decode cX2_place 51 = .ok (.invokevirtual 164, 3) := by decide +kernel
theorem dX2_place_54 : decode cX2_place 54 = .ok (.iconst 1, 1) := by decide +kernel
theorem dX2_place_55 : decode cX2_place 55 = .ok (.ireturn, 1) := by decide +kernel
theorem dX2_place_56 : decode cX2_place 56 = .ok (.aload_n 0, 1) := by decide +kernel
theorem dX2_place_57 : decode cX2_place 57 = .ok (.iload 5, 2) := by decide +kernel
theorem dX2_place_59 : decode cX2_place 59 = .ok (.invokevirtual 168, 3) := by decide +kernel
theorem dX2_place_62 : decode cX2_place 62 = .ok (.astore 6, 2) := by decide +kernel
theorem dX2_place_64 : decode cX2_place 64 = .ok (.aload_n 0, 1) := by decide +kernel
theorem dX2_place_65 : decode cX2_place 65 = .ok (.getfield 34, 3) := by decide +kernel
theorem dX2_place_68 : decode cX2_place 68 = .ok (.ifCond .eq 13, 3) := by decide +kernel
theorem dX2_place_71 : decode cX2_place 71 = .ok (.aload_n 0, 1) := by decide +kernel
theorem dX2_place_72 : decode cX2_place 72 = .ok (.aload 6, 2) := by decide +kernel
theorem dX2_place_74 : decode cX2_place 74 = .ok (.iload 5, 2) := by decide +kernel
theorem dX2_place_76 : decode cX2_place 76 = .ok (.invokevirtual 172, 3) := by decide +kernel
theorem dX2_place_79 : decode cX2_place 79 = .ok (.iconst 0, 1) := by decide +kernel
theorem dX2_place_80 : decode cX2_place 80 = .ok (.ireturn, 1) := by decide +kernel
theorem dX2_place_81 : decode cX2_place 81 = .ok (.aload 6, 2) := by decide +kernel
theorem dX2_place_83 : decode cX2_place 83 = .ok (.getstatic 176, 3) := by decide +kernel
theorem dX2_place_86 : decode cX2_place 86 = .ok (.if_acmp .ne 13, 3) := by decide +kernel
theorem dX2_place_89 : decode cX2_place 89 = .ok (.aload_n 0, 1) := by decide +kernel
theorem dX2_place_90 : decode cX2_place 90 = .ok (.iload 5, 2) := by decide +kernel
theorem dX2_place_92 : decode cX2_place 92 = .ok (.lload_n 1, 1) := by decide +kernel
theorem dX2_place_93 : decode cX2_place 93 = .ok (.iload_n 3, 1) := by decide +kernel
theorem dX2_place_94 : decode cX2_place 94 = .ok (.invokevirtual 179, 3) := by decide +kernel
theorem dX2_place_97 : decode cX2_place 97 = .ok (.iconst 1, 1) := by decide +kernel
theorem dX2_place_98 : decode cX2_place 98 = .ok (.ireturn, 1) := by decide +kernel
theorem dX2_place_99 : decode cX2_place 99 = .ok (.aload 6, 2) := by decide +kernel
theorem dX2_place_101 : decode cX2_place 101 = .ok (.getstatic 182, 3) := by decide +kernel
theorem dX2_place_104 : decode cX2_place 104 = .ok (.if_acmp .ne 19, 3) := by decide +kernel
theorem dX2_place_107 : decode cX2_place 107 = .ok (.aload_n 0, 1) := by decide +kernel
theorem dX2_place_108 : decode cX2_place 108 = .ok (.aload_n 0, 1) := by decide +kernel
theorem dX2_place_109 : decode cX2_place 109 = .ok (.getfield 27, 3) := by decide +kernel
theorem dX2_place_112 : decode cX2_place 112 = .ok (.iload 5, 2) := by decide +kernel
theorem dX2_place_114 : decode cX2_place 114 = .ok (.invokevirtual 104, 3) := by decide +kernel
theorem dX2_place_117 : decode cX2_place 117 = .ok (.invokevirtual 185, 3) := by decide +kernel
theorem dX2_place_120 : decode cX2_place 120 = .ok (.goto 13, 3) := by decide +kernel
theorem dX2_place_123 : decode cX2_place 123 = .ok (.aload_n 0, 1) := by decide +kernel
theorem dX2_place_124 : decode cX2_place 124 = .ok (.iload 5, 2) := by decide +kernel
theorem dX2_place_126 : decode cX2_place 126 = .ok (.aload_n 0, 1) := by decide +kernel
theorem dX2_place_127 : decode cX2_place 127 = .ok (.invokevirtual 188, 3) := by decide +kernel
theorem dX2_place_130 : decode cX2_place 130 = .ok (.invokevirtual 191, 3) := by decide +kernel
theorem dX2_place_133 : decode cX2_place 133 = .ok (.iinc 4 1, 3) := by decide +kernel
theorem dX2_place_136 : decode cX2_place 136 = .ok (.goto (-133), 3) := by decide +kernel
theorem dX2_place_139 : decode cX2_place 139 = .ok (.iconst 0, 1) := by decide +kernel
theorem dX2_place_140 : decode cX2_place 140 = .ok (.ireturn, 1) := by decide +kernel
theorem dX2_insertRecord_0 : decode cX2_insertRecord 0 = .ok (.aload_n 0, 1) := by decide +kernel
theorem dX2_insertRecord_1 : decode cX2_insertRecord 1 = .ok (.lload_n 2, 1) := by decide +kernel
theorem dX2_insertRecord_2 : decode cX2_insertRecord 2 = .ok (.invokevirtual 111, 3) := by decide +kernel
theorem dX2_insertRecord_5 : decode cX2_insertRecord 5 = .ok (.istore 5, 2) := by decide +kernel
theorem dX2_insertRecord_7 : decode cX2_insertRecord 7 = .ok (.aload_n 0, 1) := by decide +kernel
theorem dX2_insertRecord_8 : decode cX2_insertRecord 8 = .ok (.getfield 14, 3) := by decide +kernel
theorem dX2_insertRecord_11 : decode cX2_insertRecord 11 = .ok (.iload 5, 2) := by decide +kernel
theorem dX2_insertRecord_13 : decode cX2_insertRecord 13 = .ok (.lload_n 2, 1) := by decide +kernel
theorem dX2_insertRecord_14 : decode cX2_insertRecord 14 = .ok (.invokevirtual 194, 3) := by decide +kernel
theorem dX2_insertRecord_17 : decode cX2_insertRecord 17 = .ok (.aload_n 0, 1) := by decide +kernel
theorem dX2_insertRecord_18 : decode cX2_insertRecord 18 = .ok (.getfield 18, 3) := by decide +kernel
theorem dX2_insertRecord_21 : decode cX2_insertRecord 21 = .ok (.iload 5, 2) := by decide +kernel
theorem dX2_insertRecord_23 : decode cX2_insertRecord 23 = .ok (.iload 4, 2) := by decide +kernel
theorem dX2_insertRecord_25 : decode cX2_insertRecord 25 = .ok (.i2l, 1) := by decide +kernel
theorem dX2_insertRecord_26 : decode cX2_insertRecord 26 = .ok (.invokevirtual 194, 3) := by decide +kernel
theorem dX2_insertRecord_29 : decode cX2_insertRecord 29 = .ok (.aload_n 0, 1) := by decide +kernel
theorem dX2_insertRecord_30 : decode cX2_insertRecord 30 = .ok (.getfield 24, 3) := by decide +kernel
theorem dX2_insertRecord_33 : decode cX2_insertRecord 33 = .ok (.iload_n 1, 1) := by decide +kernel
theorem dX2_insertRecord_34 : decode cX2_insertRecord 34 = .ok (.iconst 1, 1) := by decide +kernel
theorem dX2_insertRecord_35 : decode cX2_insertRecord 35 = .ok (.invokevirtual 117, 3) := by decide +kernel
theorem dX2_insertRecord_38 : decode cX2_insertRecord 38 = .ok (.return_, 1) := by decide +kernel
theorem dX2_kindOfSplit_0 : decode cX2_kindOfSplit 0 = .ok (.aload_n 0, 1) := by decide +kernel
theorem dX2_kindOfSplit_1 : decode cX2_kindOfSplit 1 = .ok (.getfield 27, 3) := by decide +kernel
theorem dX2_kindOfSplit_4 : decode cX2_kindOfSplit 4 = .ok (.aload_n 0, 1) := by decide +kernel
theorem dX2_kindOfSplit_5 : decode cX2_kindOfSplit 5 = .ok (.getfield 27, 3) := by decide +kernel
theorem dX2_kindOfSplit_8 : decode cX2_kindOfSplit 8 = .ok (.iload_n 1, 1) := by decide +kernel
theorem dX2_kindOfSplit_9 : decode cX2_kindOfSplit 9 = .ok (.invokevirtual 104, 3) := by decide +kernel
theorem dX2_kindOfSplit_12 : decode cX2_kindOfSplit 12 = .ok (.invokevirtual 108, 3) := by decide +kernel
theorem dX2_kindOfSplit_15 : decode cX2_kindOfSplit 15 = .ok (.aload_n 0, 1) := by decide +kernel
theorem dX2_kindOfSplit_16 : decode cX2_kindOfSplit 16 = .ok (.getfield 75, 3) := by decide +kernel
theorem dX2_kindOfSplit_19 : decode cX2_kindOfSplit 19 = .ok (.if_icmp .lt 7, 3) := by decide +kernel
theorem dX2_kindOfSplit_22 : decode cX2_kindOfSplit 22 = .ok (.getstatic 182, 3) := by decide +kernel
theorem dX2_kindOfSplit_25 : decode cX2_kindOfSplit 25 = .ok (.areturn, 1) := by decide +kernel
theorem dX2_kindOfSplit_26 : decode cX2_kindOfSplit 26 = .ok (.aload_n 0, 1) := by decide +kernel
theorem dX2_kindOfSplit_27 : decode cX2_kindOfSplit 27 = .ok (.getfield 24, 3) := by decide +kernel
theorem dX2_kindOfSplit_30 : decode cX2_kindOfSplit 30 = .ok (.iload_n 1, 1) := by decide +kernel
theorem dX2_kindOfSplit_31 : decode cX2_kindOfSplit 31 = .ok (.invokevirtual 108, 3) := by decide +kernel
theorem dX2_kindOfSplit_34 : decode cX2_kindOfSplit 34 = .ok (.iconst 1, 1) := by decide +kernel
theorem dX2_kindOfSplit_35 : decode cX2_kindOfSplit 35 = .ok (.if_icmp .gt 9, 3) := by decide +kernel
theorem dX2_kindOfSplit_38 : decode cX2_kindOfSplit 38 = .ok (.getstatic 176, 3) := by decide +kernel
theorem dX2_kindOfSplit_41 : decode cX2_kindOfSplit 41 = .ok (.goto 6, 3) := by decide +kernel
theorem dX2_kindOfSplit_44 : decode cX2_kindOfSplit 44 = .ok (.getstatic 44, 3) := by decide +kernel
theorem dX2_kindOfSplit_47 : decode cX2_kindOfSplit 47 = .ok (.areturn, 1) := by decide +kernel
theorem dX2_takeNumber_0 : decode cX2_takeNumber 0 = .ok (.aload_n 0, 1) := by decide +kernel
theorem dX2_takeNumber_1 : decode cX2_takeNumber 1 = .ok (.getfield 30, 3) := by decide +kernel
theorem dX2_takeNumber_4 : decode cX2_takeNumber 4 = .ok (.istore_n 1, 1) := by decide +kernel
theorem dX2_takeNumber_5 : decode cX2_takeNumber 5 = .ok (.aload_n 0, 1) := by decide +kernel
theorem dX2_takeNumber_6 : decode cX2_takeNumber 6 = .ok (.dup, 1) := by decide +kernel
theorem dX2_takeNumber_7 : decode cX2_takeNumber 7 = .ok (.getfield 30, 3) := by decide +kernel
theorem dX2_takeNumber_10 : decode cX2_takeNumber 10 = .ok (.iconst 1, 1) := by decide +kernel
theorem dX2_takeNumber_11 : decode cX2_takeNumber 11 = .ok (.iadd, 1) := by decide +kernel
theorem dX2_takeNumber_12 : decode cX2_takeNumber 12 = .ok (.putfield 30, 3) := by decide +kernel
theorem dX2_takeNumber_15 : decode cX2_takeNumber 15 = .ok (.iload_n 1, 1) := by decide +kernel
theorem dX2_takeNumber_16 : decode cX2_takeNumber 16 = .ok (.ireturn, 1) := by decide +kernel
theorem dX2_splitArea_0 : decode cX2_splitArea 0 = .ok (.aload_n 0, 1) := by decide +kernel
theorem dX2_splitArea_1 : decode cX2_splitArea 1 = .ok (.getfield 75, 3) := by decide +kernel
theorem dX2_splitArea_4 : decode cX2_splitArea 4 = .ok (.iconst 2, 1) := by decide +kernel
theorem dX2_splitArea_5 : decode cX2_splitArea 5 = .ok (.idiv, 1) := by decide +kernel
theorem dX2_splitArea_6 : decode cX2_splitArea 6 = .ok (.istore_n 2, 1) := by decide +kernel
theorem dX2_splitArea_7 : decode cX2_splitArea 7 = .ok (.aload_n 0, 1) := by decide +kernel
theorem dX2_splitArea_8 : decode cX2_splitArea 8 = .ok (.getfield 27, 3) := by decide +kernel
theorem dX2_splitArea_11 : decode cX2_splitArea 11 = .ok (.iload_n 1, 1) := by decide +kernel
theorem dX2_splitArea_12 : decode cX2_splitArea 12 = .ok (.iload_n 2, 1) := by decide +kernel
theorem dX2_splitArea_13 : decode cX2_splitArea 13 = .ok (.ineg, 1) := by decide +kernel
theorem dX2_splitArea_14 : decode cX2_splitArea 14 = .ok (.invokevirtual 117, 3) := by decide +kernel
theorem dX2_splitArea_17 : decode cX2_splitArea 17 = .ok (.aload_n 0, 1) := by decide +kernel
theorem dX2_splitArea_18 : decode cX2_splitArea 18 = .ok (.getfield 27, 3) := by decide +kernel
theorem dX2_splitArea_21 : decode cX2_splitArea 21 = .ok (.iload_n 1, 1) := by decide +kernel
theorem dX2_splitArea_22 : decode cX2_splitArea 22 = .ok (.iconst 1, 1) := by decide +kernel
theorem dX2_splitArea_23 : decode cX2_splitArea 23 = .ok (.iadd, 1) := by decide +kernel
theorem dX2_splitArea_24 : decode cX2_splitArea 24 = .ok (.iload_n 2, 1) := by decide +kernel
theorem dX2_splitArea_25 : decode cX2_splitArea 25 = .ok (.i2l, 1) := by decide +kernel
theorem dX2_splitArea_26 : decode cX2_splitArea 26 = .ok (.invokevirtual 194, 3) := by decide +kernel
theorem dX2_splitArea_29 : decode cX2_splitArea 29 = .ok (.aload_n 0, 1) := by decide +kernel
theorem dX2_splitArea_30 : decode cX2_splitArea 30 = .ok (.dup, 1) := by decide +kernel
theorem dX2_splitArea_31 : decode cX2_splitArea 31 = .ok (.getfield 59, 3) := by decide +kernel
theorem dX2_splitArea_34 : decode cX2_splitArea 34 = .ok (.iconst 1, 1) := by decide +kernel
theorem dX2_splitArea_35 : decode cX2_splitArea 35 = .ok (.iadd, 1) := by decide +kernel
theorem dX2_splitArea_36 : decode cX2_splitArea 36 = .ok (.putfield 59, 3) := by decide +kernel
theorem dX2_splitArea_39 : decode cX2_splitArea 39 = .ok (.return_, 1) := by decide +kernel
theorem dX2_halveInterval_0 : decode cX2_halveInterval 0 = .ok (.aload_n 0, 1) := by decide +kernel
theorem dX2_halveInterval_1 : decode cX2_halveInterval 1 = .ok (.iload_n 1, 1) := by decide +kernel
theorem dX2_halveInterval_2 : decode cX2_halveInterval 2 = .ok (.invokevirtual 198, 3) := by decide +kernel
theorem dX2_halveInterval_5 : decode cX2_halveInterval 5 = .ok (.istore_n 3, 1) := by decide +kernel
theorem dX2_halveInterval_6 : decode cX2_halveInterval 6 = .ok (.aload_n 0, 1) := by decide +kernel
theorem dX2_halveInterval_7 : decode cX2_halveInterval 7 = .ok (.getfield 24, 3) := by decide +kernel
theorem dX2_halveInterval_10 : decode cX2_halveInterval 10 = .ok (.iload_n 1, 1) := by decide +kernel
theorem dX2_halveInterval_11 : decode cX2_halveInterval 11 = .ok (.invokevirtual 108, 3) := by decide +kernel
theorem dX2_halveInterval_14 : decode cX2_halveInterval 14 = .ok (.iload_n 3, 1) := by decide +kernel
theorem dX2_halveInterval_15 : decode cX2_halveInterval 15 = .ok (.isub, 1) := by decide +kernel
theorem dX2_halveInterval_16 : decode cX2_halveInterval 16 = .ok (.istore 4, 2) := by decide +kernel
theorem dX2_halveInterval_18 : decode cX2_halveInterval 18 = .ok (.aload_n 0, 1) := by decide +kernel
theorem dX2_halveInterval_19 : decode cX2_halveInterval 19 = .ok (.getfield 24, 3) := by decide +kernel
theorem dX2_halveInterval_22 : decode cX2_halveInterval 22 = .ok (.iload_n 1, 1) := by decide +kernel
theorem dX2_halveInterval_23 : decode cX2_halveInterval 23 = .ok (.iload 4, 2) := by decide +kernel
theorem dX2_halveInterval_25 : decode cX2_halveInterval 25 = .ok (.ineg, 1) := by decide +kernel
theorem dX2_halveInterval_26 : decode cX2_halveInterval 26 = .ok (.invokevirtual 117, 3) := by decide +kernel
theorem dX2_halveInterval_29 : decode cX2_halveInterval 29 = .ok (.aload_n 0, 1) := by decide +kernel
theorem dX2_halveInterval_30 : decode cX2_halveInterval 30 = .ok (.iload_n 1, 1) := by decide +kernel
theorem dX2_halveInterval_31 : decode cX2_halveInterval 31 = .ok (.iconst 1, 1) := by decide +kernel
theorem dX2_halveInterval_32 : decode cX2_halveInterval 32 = .ok (.iadd, 1) := by decide +kernel
theorem dX2_halveInterval_33 : decode cX2_halveInterval 33 = .ok (.aload_n 0, 1) := by decide +kernel
theorem dX2_halveInterval_34 : decode cX2_halveInterval 34 = .ok (.getfield 27, 3) := by decide +kernel
theorem dX2_halveInterval_37 : decode cX2_halveInterval 37 = .ok (.iload_n 1, 1) := by decide +kernel
theorem dX2_halveInterval_38 : decode cX2_halveInterval 38 = .ok (.invokevirtual 104, 3) := by decide +kernel
theorem dX2_halveInterval_41 : decode cX2_halveInterval 41 = .ok (.iload_n 2, 1) := by decide +kernel
theorem dX2_halveInterval_42 : decode cX2_halveInterval 42 = .ok (.iload 4, 2) := by decide +kernel
theorem dX2_halveInterval_44 : decode cX2_halveInterval 44 = .ok (.invokevirtual 201, 3) := by decide +kernel
theorem dX2_halveInterval_47 : decode cX2_halveInterval 47 = .ok (.aload_n 0, 1) := by decide +kernel
theorem dX2_halveInterval_48 : decode cX2_halveInterval 48 = .ok (.dup, 1) := by decide +kernel
theorem dX2_halveInterval_49 : decode cX2_halveInterval 49 = .ok (.getfield 56, 3) := by decide +kernel
theorem dX2_halveInterval_52 : decode cX2_halveInterval 52 = .ok (.iconst 1, 1) := by decide +kernel
theorem dX2_halveInterval_53 : decode cX2_halveInterval 53 = .ok (.iadd, 1) := by decide +kernel
theorem dX2_halveInterval_54 : decode cX2_halveInterval 54 = .ok (.putfield 56, 3) := by decide +kernel
theorem dX2_halveInterval_57 : decode cX2_halveInterval 57 = .ok (.return_, 1) := by decide +kernel
theorem dX2_keptByHalving_0 : decode cX2_keptByHalving 0 = .ok (.aload_n 0, 1) := by decide +kernel
theorem dX2_keptByHalving_1 : decode cX2_keptByHalving 1 = .ok (.getfield 24, 3) := by decide +kernel
theorem dX2_keptByHalving_4 : decode cX2_keptByHalving 4 = .ok (.iconst 0, 1) := by decide +kernel
theorem dX2_keptByHalving_5 : decode cX2_keptByHalving 5 = .ok (.iload_n 1, 1) := by decide +kernel
theorem dX2_keptByHalving_6 : decode cX2_keptByHalving 6 = .ok (.invokevirtual 137, 3) := by decide +kernel
theorem dX2_keptByHalving_9 : decode cX2_keptByHalving 9 = .ok (.istore_n 2, 1) := by decide +kernel
theorem dX2_keptByHalving_10 : decode cX2_keptByHalving 10 = .ok (.aload_n 0, 1) := by decide +kernel
theorem dX2_keptByHalving_11 : decode cX2_keptByHalving 11 = .ok (.getfield 24, 3) := by decide +kernel
theorem dX2_keptByHalving_14 : decode cX2_keptByHalving 14 = .ok (.iload_n 1, 1) := by decide +kernel
theorem dX2_keptByHalving_15 : decode cX2_keptByHalving 15 = .ok (.invokevirtual 108, 3) := by decide +kernel
theorem dX2_keptByHalving_18 : decode cX2_keptByHalving 18 = .ok (.iconst 1, 1) := by decide +kernel
theorem dX2_keptByHalving_19 : decode cX2_keptByHalving 19 = .ok (.isub, 1) := by decide +kernel
theorem dX2_keptByHalving_20 : decode cX2_keptByHalving 20 = .ok (.istore_n 3, 1) := by decide +kernel
theorem dX2_keptByHalving_21 : decode cX2_keptByHalving 21 = .ok (.aload_n 0, 1) := by decide +kernel
theorem dX2_keptByHalving_22 : decode cX2_keptByHalving 22 = .ok (.iload_n 1, 1) := by decide +kernel
theorem dX2_keptByHalving_23 : decode cX2_keptByHalving 23 = .ok (.invokevirtual 128, 3) := by decide +kernel
theorem dX2_keptByHalving_26 : decode cX2_keptByHalving 26 = .ok (.iconst 2, 1) := by decide +kernel
theorem dX2_keptByHalving_27 : decode cX2_keptByHalving 27 = .ok (.idiv, 1) := by decide +kernel
theorem dX2_keptByHalving_28 : decode cX2_keptByHalving 28 = .ok (.istore 4, 2) := by decide +kernel
theorem dX2_keptByHalving_30 : decode cX2_keptByHalving 30 = .ok (.iconst 1, 1) := by decide +kernel
theorem dX2_keptByHalving_31 : decode cX2_keptByHalving 31 = .ok (.istore 5, 2) := by decide +kernel
theorem dX2_keptByHalving_33 : decode cX2_keptByHalving 33 = .ok (.aload_n 0, 1) := by decide +kernel
theorem dX2_keptByHalving_34 : decode cX2_keptByHalving 34 = .ok (.getfield 18, 3) := by decide +kernel
theorem dX2_keptByHalving_37 : decode cX2_keptByHalving 37 = .ok (.iload_n 2, 1) := by decide +kernel
theorem dX2_keptByHalving_38 : decode cX2_keptByHalving 38 = .ok (.invokevirtual 108, 3) := by decide +kernel
theorem dX2_keptByHalving_41 : decode cX2_keptByHalving 41 = .ok (.istore 6, 2) := by decide +kernel
theorem dX2_keptByHalving_43 : decode cX2_keptByHalving 43 = .ok (.iload 5, 2) := by decide +kernel
theorem dX2_keptByHalving_45 : decode cX2_keptByHalving 45 = .ok (.iload_n 3, 1) := by decide +kernel
theorem dX2_keptByHalving_46 : decode cX2_keptByHalving 46 = .ok (.if_icmp .ge 44, 3) := by decide +kernel
theorem dX2_keptByHalving_49 : decode cX2_keptByHalving 49 = .ok (.iload 6, 2) := by decide +kernel
theorem dX2_keptByHalving_51 : decode cX2_keptByHalving 51 = .ok (.aload_n 0, 1) := by decide +kernel
theorem dX2_keptByHalving_52 : decode cX2_keptByHalving 52 = .ok (.getfield 18, 3) := by decide +kernel
theorem dX2_keptByHalving_55 : decode cX2_keptByHalving 55 = .ok (.iload_n 2, 1) := by decide +kernel
theorem dX2_keptByHalving_56 : decode cX2_keptByHalving 56 = .ok (.iload 5, 2) := by decide +kernel
theorem dX2_keptByHalving_58 : decode cX2_keptByHalving 58 = .ok (.iadd, 1) := by decide +kernel
theorem dX2_keptByHalving_59 : decode cX2_keptByHalving 59 = .ok (.invokevirtual 108, 3) := by decide +kernel
theorem dX2_keptByHalving_62 : decode cX2_keptByHalving 62 = .ok (.iadd, 1) := by decide +kernel
theorem dX2_keptByHalving_63 : decode cX2_keptByHalving 63 = .ok (.iload 4, 2) := by decide +kernel
theorem dX2_keptByHalving_65 : decode cX2_keptByHalving 65 = .ok (.if_icmp .gt 25, 3) := by decide +kernel
theorem dX2_keptByHalving_68 : decode cX2_keptByHalving 68 = .ok (.iload 6, 2) := by decide +kernel
theorem dX2_keptByHalving_70 : decode cX2_keptByHalving 70 = .ok (.aload_n 0, 1) := by decide +kernel
theorem dX2_keptByHalving_71 : decode cX2_keptByHalving 71 = .ok (.getfield 18, 3) := by decide +kernel
theorem dX2_keptByHalving_74 : decode cX2_keptByHalving 74 = .ok (.iload_n 2, 1) := by decide +kernel
theorem dX2_keptByHalving_75 : decode cX2_keptByHalving 75 = .ok (.iload 5, 2) := by decide +kernel
theorem dX2_keptByHalving_77 : decode cX2_keptByHalving 77 = .ok (.iadd, 1) := by decide +kernel
theorem dX2_keptByHalving_78 : decode cX2_keptByHalving 78 = .ok (.invokevirtual 108, 3) := by decide +kernel
theorem dX2_keptByHalving_81 : decode cX2_keptByHalving 81 = .ok (.iadd, 1) := by decide +kernel
theorem dX2_keptByHalving_82 : decode cX2_keptByHalving 82 = .ok (.istore 6, 2) := by decide +kernel
theorem dX2_keptByHalving_84 : decode cX2_keptByHalving 84 = .ok (.iinc 5 1, 3) := by decide +kernel
theorem dX2_keptByHalving_87 : decode cX2_keptByHalving 87 = .ok (.goto (-44), 3) := by decide +kernel
theorem dX2_keptByHalving_90 : decode cX2_keptByHalving 90 = .ok (.iload 5, 2) := by decide +kernel
theorem dX2_keptByHalving_92 : decode cX2_keptByHalving 92 = .ok (.ireturn, 1) := by decide +kernel
theorem dX2_giveOwnInterval_0 : decode cX2_giveOwnInterval 0 = .ok (.lload_n 2, 1) := by decide +kernel
theorem dX2_giveOwnInterval_1 : decode cX2_giveOwnInterval 1 = .ok (.aload_n 0, 1) := by decide +kernel
theorem dX2_giveOwnInterval_2 : decode cX2_giveOwnInterval 2 = .ok (.getfield 14, 3) := by decide +kernel
theorem dX2_giveOwnInterval_5 : decode cX2_giveOwnInterval 5 = .ok (.aload_n 0, 1) := by decide +kernel
theorem dX2_giveOwnInterval_6 : decode cX2_giveOwnInterval 6 = .ok (.getfield 24, 3) := by decide +kernel
theorem dX2_giveOwnInterval_9 : decode cX2_giveOwnInterval 9 = .ok (.iconst 0, 1) := by decide +kernel
theorem dX2_giveOwnInterval_10 : decode cX2_giveOwnInterval 10 = .ok (.iload_n 1, 1) := by decide +kernel
theorem dX2_giveOwnInterval_11 : decode cX2_giveOwnInterval 11 = .ok (.invokevirtual 137, 3) := by decide +kernel
theorem dX2_giveOwnInterval_14 : decode cX2_giveOwnInterval 14 = .ok (.invokevirtual 157, 3) := by decide +kernel
theorem dX2_giveOwnInterval_17 : decode cX2_giveOwnInterval 17 = .ok (.lcmp, 1) := by decide +kernel
theorem dX2_giveOwnInterval_18 : decode cX2_giveOwnInterval 18 = .ok (.ifCond .le 7, 3) := by decide +kernel
theorem dX2_giveOwnInterval_21 : decode cX2_giveOwnInterval 21 = .ok (.iconst 1, 1) := by decide +kernel
theorem dX2_giveOwnInterval_22 : decode cX2_giveOwnInterval 22 = .ok (.goto 4, 3) := by decide +kernel
theorem dX2_giveOwnInterval_25 : decode cX2_giveOwnInterval 25 = .ok (.iconst 0, 1) := by decide +kernel
theorem dX2_giveOwnInterval_26 : decode cX2_giveOwnInterval 26 = .ok (.istore 5, 2) := by decide +kernel
theorem dX2_giveOwnInterval_28 : decode cX2_giveOwnInterval 28 = .ok (.iload 5, 2) := by decide +kernel
theorem dX2_giveOwnInterval_30 : decode cX2_giveOwnInterval 30 = .ok (.ifCond .eq 9, 3) := by decide +kernel
theorem dX2_giveOwnInterval_33 : decode cX2_giveOwnInterval 33 = .ok (.iload_n 1, 1) := by decide +kernel
theorem dX2_giveOwnInterval_34 : decode cX2_giveOwnInterval 34 = .ok (.iconst 1, 1) := by decide +kernel
theorem dX2_giveOwnInterval_35 : decode cX2_giveOwnInterval 35 = .ok (.iadd, 1) := by decide +kernel
theorem dX2_giveOwnInterval_36 : decode cX2_giveOwnInterval 36 = .ok (.goto 4, 3) := by decide +kernel
theorem dX2_giveOwnInterval_39 : decode cX2_giveOwnInterval 39 = .ok (.iload_n 1, 1) := by decide +kernel
theorem dX2_giveOwnInterval_40 : decode cX2_giveOwnInterval 40 = .ok (.istore 6, 2) := by decide +kernel
theorem dX2_giveOwnInterval_42 : decode cX2_giveOwnInterval 42 = .ok (.aload_n 0, 1) := by decide +kernel
theorem dX2_giveOwnInterval_43 : decode cX2_giveOwnInterval 43 = .ok (.iload 6, 2) := by decide +kernel
theorem dX2_giveOwnInterval_45 : decode cX2_giveOwnInterval 45 = .ok (.aload_n 0, 1) := by decide +kernel
theorem dX2_giveOwnInterval_46 : decode cX2_giveOwnInterval 46 = .ok (.getfield 27, 3) := by decide +kernel
theorem dX2_giveOwnInterval_49 : decode cX2_giveOwnInterval 49 = .ok (.iload_n 1, 1) := by decide +kernel
theorem dX2_giveOwnInterval_50 : decode cX2_giveOwnInterval 50 = .ok (.invokevirtual 104, 3) := by decide +kernel
theorem dX2_giveOwnInterval_53 : decode cX2_giveOwnInterval 53 = .ok (.aload_n 0, 1) := by decide +kernel
theorem dX2_giveOwnInterval_54 : decode cX2_giveOwnInterval 54 = .ok (.invokevirtual 188, 3) := by decide +kernel
theorem dX2_giveOwnInterval_57 : decode cX2_giveOwnInterval 57 = .ok (.iconst 0, 1) := by decide +kernel
theorem dX2_giveOwnInterval_58 : decode cX2_giveOwnInterval 58 = .ok (.invokevirtual 201, 3) := by decide +kernel
theorem dX2_giveOwnInterval_61 : decode cX2_giveOwnInterval 61 = .ok (.aload_n 0, 1) := by decide +kernel
theorem dX2_giveOwnInterval_62 : decode cX2_giveOwnInterval 62 = .ok (.iload 6, 2) := by decide +kernel
theorem dX2_giveOwnInterval_64 : decode cX2_giveOwnInterval 64 = .ok (.lload_n 2, 1) := by decide +kernel
theorem dX2_giveOwnInterval_65 : decode cX2_giveOwnInterval 65 = .ok (.iload 4, 2) := by decide +kernel
theorem dX2_giveOwnInterval_67 : decode cX2_giveOwnInterval 67 = .ok (.invokevirtual 164, 3) := by decide +kernel
theorem dX2_giveOwnInterval_70 : decode cX2_giveOwnInterval 70 = .ok (.aload_n 0, 1) := by decide +kernel
theorem dX2_giveOwnInterval_71 : decode cX2_giveOwnInterval 71 = .ok (.dup, 1) := by decide +kernel
theorem dX2_giveOwnInterval_72 : decode cX2_giveOwnInterval 72 = .ok (.getfield 56, 3) := by decide +kernel
theorem dX2_giveOwnInterval_75 : decode cX2_giveOwnInterval 75 = .ok (.iconst 1, 1) := by decide +kernel
theorem dX2_giveOwnInterval_76 : decode cX2_giveOwnInterval 76 = .ok (.iadd, 1) := by decide +kernel
theorem dX2_giveOwnInterval_77 : decode cX2_giveOwnInterval 77 = .ok (.putfield 56, 3) := by decide +kernel
theorem dX2_giveOwnInterval_80 : decode cX2_giveOwnInterval 80 = .ok (.return_, 1) := by decide +kernel
theorem dX2_insertInterval_0 : decode cX2_insertInterval 0 = .ok (.aload_n 0, 1) := by decide +kernel
theorem dX2_insertInterval_1 : decode cX2_insertInterval 1 = .ok (.getfield 21, 3) := by decide +kernel
theorem dX2_insertInterval_4 : decode cX2_insertInterval 4 = .ok (.iload_n 1, 1) := by decide +kernel
theorem dX2_insertInterval_5 : decode cX2_insertInterval 5 = .ok (.iload_n 3, 1) := by decide +kernel
theorem dX2_insertInterval_6 : decode cX2_insertInterval 6 = .ok (.i2l, 1) := by decide +kernel
theorem dX2_insertInterval_7 : decode cX2_insertInterval 7 = .ok (.invokevirtual 194, 3) := by decide +kernel
theorem dX2_insertInterval_10 : decode cX2_insertInterval 10 = .ok (.aload_n 0, 1) := by decide +kernel
theorem dX2_insertInterval_11 : decode cX2_insertInterval 11 = .ok (.getfield 24, 3) := by decide +kernel
theorem dX2_insertInterval_14 : decode cX2_insertInterval 14 = .ok (.iload_n 1, 1) := by decide +kernel
theorem dX2_insertInterval_15 : decode cX2_insertInterval 15 = .ok (.iload 4, 2) := by decide +kernel
theorem dX2_insertInterval_17 : decode cX2_insertInterval 17 = .ok (.i2l, 1) := by decide +kernel
theorem dX2_insertInterval_18 : decode cX2_insertInterval 18 = .ok (.invokevirtual 194, 3) := by decide +kernel
theorem dX2_insertInterval_21 : decode cX2_insertInterval 21 = .ok (.aload_n 0, 1) := by decide +kernel
theorem dX2_insertInterval_22 : decode cX2_insertInterval 22 = .ok (.getfield 27, 3) := by decide +kernel
theorem dX2_insertInterval_25 : decode cX2_insertInterval 25 = .ok (.iload_n 2, 1) := by decide +kernel
theorem dX2_insertInterval_26 : decode cX2_insertInterval 26 = .ok (.iconst 1, 1) := by decide +kernel
theorem dX2_insertInterval_27 : decode cX2_insertInterval 27 = .ok (.invokevirtual 117, 3) := by decide +kernel
theorem dX2_insertInterval_30 : decode cX2_insertInterval 30 = .ok (.return_, 1) := by decide +kernel
theorem dX2_dropInterval_0 : decode cX2_dropInterval 0 = .ok (.aload_n 0, 1) := by decide +kernel
theorem dX2_dropInterval_1 : decode cX2_dropInterval 1 = .ok (.getfield 27, 3) := by decide +kernel
theorem dX2_dropInterval_4 : decode cX2_dropInterval 4 = .ok (.iload_n 1, 1) := by decide +kernel
theorem dX2_dropInterval_5 : decode cX2_dropInterval 5 = .ok (.invokevirtual 104, 3) := by decide +kernel
theorem dX2_dropInterval_8 : decode cX2_dropInterval 8 = .ok (.istore_n 2, 1) := by decide +kernel
theorem dX2_dropInterval_9 : decode cX2_dropInterval 9 = .ok (.aload_n 0, 1) := by decide +kernel
theorem dX2_dropInterval_10 : decode cX2_dropInterval 10 = .ok (.getfield 21, 3) := by decide +kernel
theorem dX2_dropInterval_13 : decode cX2_dropInterval 13 = .ok (.iload_n 1, 1) := by decide +kernel
theorem dX2_dropInterval_14 : decode cX2_dropInterval 14 = .ok (.invokevirtual 114, 3) := by decide +kernel
theorem dX2_dropInterval_17 : decode cX2_dropInterval 17 = .ok (.aload_n 0, 1) := by decide +kernel
theorem dX2_dropInterval_18 : decode cX2_dropInterval 18 = .ok (.getfield 24, 3) := by decide +kernel
theorem dX2_dropInterval_21 : decode cX2_dropInterval 21 = .ok (.iload_n 1, 1) := by decide +kernel
theorem dX2_dropInterval_22 : decode cX2_dropInterval 22 = .ok (.invokevirtual 114, 3) := by decide +kernel
theorem dX2_dropInterval_25 : decode cX2_dropInterval 25 = .ok (.aload_n 0, 1) := by decide +kernel
theorem dX2_dropInterval_26 : decode cX2_dropInterval 26 = .ok (.getfield 27, 3) := by decide +kernel
theorem dX2_dropInterval_29 : decode cX2_dropInterval 29 = .ok (.iload_n 2, 1) := by decide +kernel
theorem dX2_dropInterval_30 : decode cX2_dropInterval 30 = .ok (.iconst (-1), 1) := by decide +kernel
theorem dX2_dropInterval_31 : decode cX2_dropInterval 31 = .ok (.invokevirtual 117, 3) := by decide +kernel
theorem dX2_dropInterval_34 : decode cX2_dropInterval 34 = .ok (.aload_n 0, 1) := by decide +kernel
theorem dX2_dropInterval_35 : decode cX2_dropInterval 35 = .ok (.getfield 27, 3) := by decide +kernel
theorem dX2_dropInterval_38 : decode cX2_dropInterval 38 = .ok (.iload_n 2, 1) := by decide +kernel
theorem dX2_dropInterval_39 : decode cX2_dropInterval 39 = .ok (.invokevirtual 108, 3) := by decide +kernel
theorem dX2_dropInterval_42 : decode cX2_dropInterval 42 = .ok (.ifCond .ne 11, 3) := by decide +kernel
theorem dX2_dropInterval_45 : decode cX2_dropInterval 45 = .ok (.aload_n 0, 1) := by decide +kernel
theorem dX2_dropInterval_46 : decode cX2_dropInterval 46 = .ok (.getfield 27, 3) := by decide +kernel
theorem dX2_dropInterval_49 : decode cX2_dropInterval 49 = .ok (.iload_n 2, 1) := by decide +kernel
theorem dX2_dropInterval_50 : decode cX2_dropInterval 50 = .ok (.invokevirtual 114, 3) := by decide +kernel
theorem dX2_dropInterval_53 : decode cX2_dropInterval 53 = .ok (.return_, 1) := by decide +kernel
theorem dX2_closeAhead_0 : decode cX2_closeAhead 0 = .ok (.aload_n 0, 1) := by decide +kernel
theorem dX2_closeAhead_1 : decode cX2_closeAhead 1 = .ok (.getfield 34, 3) := by decide +kernel
theorem dX2_closeAhead_4 : decode cX2_closeAhead 4 = .ok (.iconst 2, 1) := by decide +kernel
theorem dX2_closeAhead_5 : decode cX2_closeAhead 5 = .ok (.if_icmp .le 20, 3) := by decide +kernel
theorem dX2_closeAhead_8 : decode cX2_closeAhead 8 = .ok (.aload_n 1, 1) := by decide +kernel
theorem dX2_closeAhead_9 : decode cX2_closeAhead 9 = .ok (.getstatic 182, 3) := by decide +kernel
theorem dX2_closeAhead_12 : decode cX2_closeAhead 12 = .ok (.if_acmp .eq 13, 3) := by decide +kernel
theorem dX2_closeAhead_15 : decode cX2_closeAhead 15 = .ok (.aload_n 0, 1) := by decide +kernel
theorem dX2_closeAhead_16 : decode cX2_closeAhead 16 = .ok (.dup, 1) := by decide +kernel
theorem dX2_closeAhead_17 : decode cX2_closeAhead 17 = .ok (.getfield 30, 3) := by decide +kernel
theorem dX2_closeAhead_20 : decode cX2_closeAhead 20 = .ok (.iconst 1, 1) := by decide +kernel
theorem dX2_closeAhead_21 : decode cX2_closeAhead 21 = .ok (.iadd, 1) := by decide +kernel
theorem dX2_closeAhead_22 : decode cX2_closeAhead 22 = .ok (.putfield 30, 3) := by decide +kernel
theorem dX2_closeAhead_25 : decode cX2_closeAhead 25 = .ok (.aload_n 0, 1) := by decide +kernel
theorem dX2_closeAhead_26 : decode cX2_closeAhead 26 = .ok (.aload_n 0, 1) := by decide +kernel
theorem dX2_closeAhead_27 : decode cX2_closeAhead 27 = .ok (.getfield 34, 3) := by decide +kernel
theorem dX2_closeAhead_30 : decode cX2_closeAhead 30 = .ok (.iconst 3, 1) := by decide +kernel
theorem dX2_closeAhead_31 : decode cX2_closeAhead 31 = .ok (.if_icmp .le 7, 3) := by decide +kernel
theorem dX2_closeAhead_34 : decode cX2_closeAhead 34 = .ok (.iconst 1, 1) := by decide +kernel
theorem dX2_closeAhead_35 : decode cX2_closeAhead 35 = .ok (.goto 4, 3) := by decide +kernel
theorem dX2_closeAhead_38 : decode cX2_closeAhead 38 = .ok (.iconst 0, 1) := by decide +kernel
theorem dX2_closeAhead_39 : decode cX2_closeAhead 39 = .ok (.putfield 41, 3) := by decide +kernel
theorem dX2_closeAhead_42 : decode cX2_closeAhead 42 = .ok (.aload_n 0, 1) := by decide +kernel
theorem dX2_closeAhead_43 : decode cX2_closeAhead 43 = .ok (.aload_n 1, 1) := by decide +kernel
theorem dX2_closeAhead_44 : decode cX2_closeAhead 44 = .ok (.putfield 50, 3) := by decide +kernel
theorem dX2_closeAhead_47 : decode cX2_closeAhead 47 = .ok (.aload_n 0, 1) := by decide +kernel
theorem dX2_closeAhead_48 : decode cX2_closeAhead 48 = .ok (.iload_n 2, 1) := by decide +kernel
theorem dX2_closeAhead_49 : decode cX2_closeAhead 49 = .ok (.putfield 53, 3) := by decide +kernel
theorem dX2_closeAhead_52 : decode cX2_closeAhead 52 = .ok (.aload_n 0, 1) := by decide +kernel
theorem dX2_closeAhead_53 : decode cX2_closeAhead 53 = .ok (.iconst 0, 1) := by decide +kernel
theorem dX2_closeAhead_54 : decode cX2_closeAhead 54 = .ok (.putfield 34, 3) := by decide +kernel
theorem dX2_closeAhead_57 : decode cX2_closeAhead 57 = .ok (.aload_n 0, 1) := by decide +kernel
theorem dX2_closeAhead_58 : decode cX2_closeAhead 58 = .ok (.iconst 1, 1) := by decide +kernel
theorem dX2_closeAhead_59 : decode cX2_closeAhead 59 = .ok (.putfield 37, 3) := by decide +kernel
theorem dX2_closeAhead_62 : decode cX2_closeAhead 62 = .ok (.return_, 1) := by decide +kernel
theorem dX2_finishCutSplit_0 : decode cX2_finishCutSplit 0 = .ok (.aload_n 0, 1) := by decide +kernel
theorem dX2_finishCutSplit_1 : decode cX2_finishCutSplit 1 = .ok (.getfield 50, 3) := by decide +kernel
theorem dX2_finishCutSplit_4 : decode cX2_finishCutSplit 4 = .ok (.getstatic 182, 3) := by decide +kernel
theorem dX2_finishCutSplit_7 : decode cX2_finishCutSplit 7 = .ok (.if_acmp .ne 21, 3) := by decide +kernel
theorem dX2_finishCutSplit_10 : decode cX2_finishCutSplit 10 = .ok (.aload_n 0, 1) := by decide +kernel
theorem dX2_finishCutSplit_11 : decode cX2_finishCutSplit 11 = .ok (.aload_n 0, 1) := by decide +kernel
theorem dX2_finishCutSplit_12 : decode cX2_finishCutSplit 12 = .ok (.getfield 27, 3) := by decide +kernel
theorem dX2_finishCutSplit_15 : decode cX2_finishCutSplit 15 = .ok (.aload_n 0, 1) := by decide +kernel
theorem dX2_finishCutSplit_16 : decode cX2_finishCutSplit 16 = .ok (.getfield 53, 3) := by decide +kernel
theorem dX2_finishCutSplit_19 : decode cX2_finishCutSplit 19 = .ok (.invokevirtual 104, 3) := by decide +kernel
theorem dX2_finishCutSplit_22 : decode cX2_finishCutSplit 22 = .ok (.invokevirtual 185, 3) := by decide +kernel
theorem dX2_finishCutSplit_25 : decode cX2_finishCutSplit 25 = .ok (.goto 40, 3) := by decide +kernel
theorem dX2_finishCutSplit_28 : decode cX2_finishCutSplit 28 = .ok (.aload_n 0, 1) := by decide +kernel
theorem dX2_finishCutSplit_29 : decode cX2_finishCutSplit 29 = .ok (.getfield 50, 3) := by decide +kernel
theorem dX2_finishCutSplit_32 : decode cX2_finishCutSplit 32 = .ok (.getstatic 44, 3) := by decide +kernel
theorem dX2_finishCutSplit_35 : decode cX2_finishCutSplit 35 = .ok (.if_acmp .ne 20, 3) := by decide +kernel
theorem dX2_finishCutSplit_38 : decode cX2_finishCutSplit 38 = .ok (.aload_n 0, 1) := by decide +kernel
theorem dX2_finishCutSplit_39 : decode cX2_finishCutSplit 39 = .ok (.aload_n 0, 1) := by decide +kernel
theorem dX2_finishCutSplit_40 : decode cX2_finishCutSplit 40 = .ok (.getfield 53, 3) := by decide +kernel
theorem dX2_finishCutSplit_43 : decode cX2_finishCutSplit 43 = .ok (.aload_n 0, 1) := by decide +kernel
theorem dX2_finishCutSplit_44 : decode cX2_finishCutSplit 44 = .ok (.getfield 30, 3) := by decide +kernel
theorem dX2_finishCutSplit_47 : decode cX2_finishCutSplit 47 = .ok (.iconst 1, 1) := by decide +kernel
theorem dX2_finishCutSplit_48 : decode cX2_finishCutSplit 48 = .ok (.isub, 1) := by decide +kernel
theorem dX2_finishCutSplit_49 : decode cX2_finishCutSplit 49 = .ok (.invokevirtual 191, 3) := by decide +kernel
theorem dX2_finishCutSplit_52 : decode cX2_finishCutSplit 52 = .ok (.goto 13, 3) := by decide +kernel
theorem dX2_finishCutSplit_55 : decode cX2_finishCutSplit 55 = .ok (.aload_n 0, 1) := by decide +kernel
theorem dX2_finishCutSplit_56 : decode cX2_finishCutSplit 56 = .ok (.dup, 1) := by decide +kernel
theorem dX2_finishCutSplit_57 : decode cX2_finishCutSplit 57 = .ok (.getfield 56, 3) := by decide +kernel
theorem dX2_finishCutSplit_60 : decode cX2_finishCutSplit 60 = .ok (.iconst 1, 1) := by decide +kernel
theorem dX2_finishCutSplit_61 : decode cX2_finishCutSplit 61 = .ok (.iadd, 1) := by decide +kernel
theorem dX2_finishCutSplit_62 : decode cX2_finishCutSplit 62 = .ok (.putfield 56, 3) := by decide +kernel
theorem dX2_finishCutSplit_65 : decode cX2_finishCutSplit 65 = .ok (.return_, 1) := by decide +kernel
theorem dX2_layInterval_0 : decode cX2_layInterval 0 = .ok (.aload_n 0, 1) := by decide +kernel
theorem dX2_layInterval_1 : decode cX2_layInterval 1 = .ok (.getfield 21, 3) := by decide +kernel
theorem dX2_layInterval_4 : decode cX2_layInterval 4 = .ok (.aload_n 0, 1) := by decide +kernel
theorem dX2_layInterval_5 : decode cX2_layInterval 5 = .ok (.getfield 21, 3) := by decide +kernel
theorem dX2_layInterval_8 : decode cX2_layInterval 8 = .ok (.getfield 97, 3) := by decide +kernel
theorem dX2_layInterval_11 : decode cX2_layInterval 11 = .ok (.aload_n 0, 1) := by decide +kernel
theorem dX2_layInterval_12 : decode cX2_layInterval 12 = .ok (.invokevirtual 188, 3) := by decide +kernel
theorem dX2_layInterval_15 : decode cX2_layInterval 15 = .ok (.i2l, 1) := by decide +kernel
theorem dX2_layInterval_16 : decode cX2_layInterval 16 = .ok (.invokevirtual 194, 3) := by decide +kernel
theorem dX2_layInterval_19 : decode cX2_layInterval 19 = .ok (.aload_n 0, 1) := by decide +kernel
theorem dX2_layInterval_20 : decode cX2_layInterval 20 = .ok (.getfield 24, 3) := by decide +kernel
theorem dX2_layInterval_23 : decode cX2_layInterval 23 = .ok (.aload_n 0, 1) := by decide +kernel
theorem dX2_layInterval_24 : decode cX2_layInterval 24 = .ok (.getfield 24, 3) := by decide +kernel
theorem dX2_layInterval_27 : decode cX2_layInterval 27 = .ok (.getfield 97, 3) := by decide +kernel
theorem dX2_layInterval_30 : decode cX2_layInterval 30 = .ok (.iload_n 1, 1) := by decide +kernel
theorem dX2_layInterval_31 : decode cX2_layInterval 31 = .ok (.i2l, 1) := by decide +kernel
theorem dX2_layInterval_32 : decode cX2_layInterval 32 = .ok (.invokevirtual 194, 3) := by decide +kernel
theorem dX2_layInterval_35 : decode cX2_layInterval 35 = .ok (.aload_n 0, 1) := by decide +kernel
theorem dX2_layInterval_36 : decode cX2_layInterval 36 = .ok (.getfield 27, 3) := by decide +kernel
theorem dX2_layInterval_39 : decode cX2_layInterval 39 = .ok (.getfield 97, 3) := by decide +kernel
theorem dX2_layInterval_42 : decode cX2_layInterval 42 = .ok (.iconst 1, 1) := by decide +kernel
theorem dX2_layInterval_43 : decode cX2_layInterval 43 = .ok (.isub, 1) := by decide +kernel
theorem dX2_layInterval_44 : decode cX2_layInterval 44 = .ok (.istore_n 2, 1) := by decide +kernel
theorem dX2_layInterval_45 : decode cX2_layInterval 45 = .ok (.iload_n 2, 1) := by decide +kernel
theorem dX2_layInterval_46 : decode cX2_layInterval 46 = .ok (.ifCond .lt 30, 3) := by decide +kernel
theorem dX2_layInterval_49 : decode cX2_layInterval 49 = .ok (.aload_n 0, 1) := by decide +kernel
theorem dX2_layInterval_50 : decode cX2_layInterval 50 = .ok (.getfield 27, 3) := by decide +kernel
theorem dX2_layInterval_53 : decode cX2_layInterval 53 = .ok (.iload_n 2, 1) := by decide +kernel
theorem dX2_layInterval_54 : decode cX2_layInterval 54 = .ok (.invokevirtual 108, 3) := by decide +kernel
theorem dX2_layInterval_57 : decode cX2_layInterval 57 = .ok (.aload_n 0, 1) := by decide +kernel
theorem dX2_layInterval_58 : decode cX2_layInterval 58 = .ok (.getfield 87, 3) := by decide +kernel
theorem dX2_layInterval_61 : decode cX2_layInterval 61 = .ok (.if_icmp .ge 15, 3) := by decide +kernel
theorem dX2_layInterval_64 : decode cX2_layInterval 64 = .ok (.aload_n 0, 1) := by decide +kernel
theorem dX2_layInterval_65 : decode cX2_layInterval 65 = .ok (.getfield 27, 3) := by decide +kernel
theorem dX2_layInterval_68 : decode cX2_layInterval 68 = .ok (.iload_n 2, 1) := by decide +kernel
theorem dX2_layInterval_69 : decode cX2_layInterval 69 = .ok (.iconst 1, 1) := by decide +kernel
theorem dX2_layInterval_70 : decode cX2_layInterval 70 = .ok (.invokevirtual 117, 3) := by decide +kernel
theorem dX2_layInterval_73 : decode cX2_layInterval 73 = .ok (.goto 18, 3) := by decide +kernel
theorem dX2_layInterval_76 : decode cX2_layInterval 76 = .ok (.aload_n 0, 1) := by decide +kernel
theorem dX2_layInterval_77 : decode cX2_layInterval 77 = .ok (.getfield 27, 3) := by decide +kernel
theorem dX2_layInterval_80 : decode cX2_layInterval 80 = .ok (.aload_n 0, 1) := by decide +kernel
theorem dX2_layInterval_81 : decode cX2_layInterval 81 = .ok (.getfield 27, 3) := by decide +kernel
theorem dX2_layInterval_84 : decode cX2_layInterval 84 = .ok (.getfield 97, 3) := by decide +kernel
theorem dX2_layInterval_87 : decode cX2_layInterval 87 = .ok (.lconst 1, 1) := by decide +kernel
theorem dX2_layInterval_88 : decode cX2_layInterval 88 = .ok (.invokevirtual 194, 3) := by decide +kernel
theorem dX2_layInterval_91 : decode cX2_layInterval 91 = .ok (.return_, 1) := by decide +kernel
theorem dX2_brokenOrders_0 : decode cX2_brokenOrders 0 = .ok (.iconst 0, 1) := by decide +kernel
theorem dX2_brokenOrders_1 : decode cX2_brokenOrders 1 = .ok (.istore_n 1, 1) := by decide +kernel
theorem dX2_brokenOrders_2 : decode cX2_brokenOrders 2 = .ok (.iconst 1, 1) := by decide +kernel
theorem dX2_brokenOrders_3 : decode cX2_brokenOrders 3 = .ok (.istore_n 2, 1) := by decide +kernel
theorem dX2_brokenOrders_4 : decode cX2_brokenOrders 4 = .ok (.iload_n 2, 1) := by decide +kernel
theorem dX2_brokenOrders_5 : decode cX2_brokenOrders 5 = .ok (.aload_n 0, 1) := by decide +kernel
theorem dX2_brokenOrders_6 : decode cX2_brokenOrders 6 = .ok (.getfield 14, 3) := by decide +kernel
theorem dX2_brokenOrders_9 : decode cX2_brokenOrders 9 = .ok (.getfield 97, 3) := by decide +kernel
theorem dX2_brokenOrders_12 : decode cX2_brokenOrders 12 = .ok (.if_icmp .ge 34, 3) := by decide +kernel
theorem dX2_brokenOrders_15 : decode cX2_brokenOrders 15 = .ok (.aload_n 0, 1) := by decide +kernel
theorem dX2_brokenOrders_16 : decode cX2_brokenOrders 16 = .ok (.getfield 14, 3) := by decide +kernel
theorem dX2_brokenOrders_19 : decode cX2_brokenOrders 19 = .ok (.iload_n 2, 1) := by decide +kernel
theorem dX2_brokenOrders_20 : decode cX2_brokenOrders 20 = .ok (.iconst 1, 1) := by decide +kernel
theorem dX2_brokenOrders_21 : decode cX2_brokenOrders 21 = .ok (.isub, 1) := by decide +kernel
theorem dX2_brokenOrders_22 : decode cX2_brokenOrders 22 = .ok (.invokevirtual 157, 3) := by decide +kernel
theorem dX2_brokenOrders_25 : decode cX2_brokenOrders 25 = .ok (.aload_n 0, 1) := by decide +kernel
theorem dX2_brokenOrders_26 : decode cX2_brokenOrders 26 = .ok (.getfield 14, 3) := by decide +kernel
theorem dX2_brokenOrders_29 : decode cX2_brokenOrders 29 = .ok (.iload_n 2, 1) := by decide +kernel
theorem dX2_brokenOrders_30 : decode cX2_brokenOrders 30 = .ok (.invokevirtual 157, 3) := by decide +kernel
theorem dX2_brokenOrders_33 : decode cX2_brokenOrders 33 = .ok (.lcmp, 1) := by decide +kernel
theorem dX2_brokenOrders_34 : decode cX2_brokenOrders 34 = .ok (.ifCond .lt 6, 3) := by decide +kernel
theorem dX2_brokenOrders_37 : decode cX2_brokenOrders 37 = .ok (.iinc 1 1, 3) := by decide +kernel
theorem dX2_brokenOrders_40 : decode cX2_brokenOrders 40 = .ok (.iinc 2 1, 3) := by decide +kernel
theorem dX2_brokenOrders_43 : decode cX2_brokenOrders 43 = .ok (.goto (-39), 3) := by decide +kernel
theorem dX2_brokenOrders_46 : decode cX2_brokenOrders 46 = .ok (.iload_n 1, 1) := by decide +kernel
theorem dX2_brokenOrders_47 : decode cX2_brokenOrders 47 = .ok (.ireturn, 1) := by decide +kernel
theorem dX2_brokenRooms_0 : decode cX2_brokenRooms 0 = .ok (.iconst 0, 1) := by decide +kernel
theorem dX2_brokenRooms_1 : decode cX2_brokenRooms 1 = .ok (.istore_n 1, 1) := by decide +kernel
theorem dX2_brokenRooms_2 : decode cX2_brokenRooms 2 = .ok (.iconst 0, 1) := by decide +kernel
theorem dX2_brokenRooms_3 : decode cX2_brokenRooms 3 = .ok (.istore_n 2, 1) := by decide +kernel
theorem dX2_brokenRooms_4 : decode cX2_brokenRooms 4 = .ok (.iconst 0, 1) := by decide +kernel
theorem dX2_brokenRooms_5 : decode cX2_brokenRooms 5 = .ok (.istore_n 3, 1) := by decide +kernel
theorem dX2_brokenRooms_6 : decode cX2_brokenRooms 6 = .ok (.iload_n 3, 1) := by decide +kernel
theorem dX2_brokenRooms_7 : decode cX2_brokenRooms 7 = .ok (.aload_n 0, 1) := by decide +kernel
theorem dX2_brokenRooms_8 : decode cX2_brokenRooms 8 = .ok (.getfield 24, 3) := by decide +kernel
theorem dX2_brokenRooms_11 : decode cX2_brokenRooms 11 = .ok (.getfield 97, 3) := by decide +kernel
theorem dX2_brokenRooms_14 : decode cX2_brokenRooms 14 = .ok (.if_icmp .ge 44, 3) := by decide +kernel
theorem dX2_brokenRooms_17 : decode cX2_brokenRooms 17 = .ok (.iload_n 2, 1) := by decide +kernel
theorem dX2_brokenRooms_18 : decode cX2_brokenRooms 18 = .ok (.aload_n 0, 1) := by decide +kernel
theorem dX2_brokenRooms_19 : decode cX2_brokenRooms 19 = .ok (.getfield 24, 3) := by decide +kernel
theorem dX2_brokenRooms_22 : decode cX2_brokenRooms 22 = .ok (.iload_n 3, 1) := by decide +kernel
theorem dX2_brokenRooms_23 : decode cX2_brokenRooms 23 = .ok (.invokevirtual 108, 3) := by decide +kernel
theorem dX2_brokenRooms_26 : decode cX2_brokenRooms 26 = .ok (.iadd, 1) := by decide +kernel
theorem dX2_brokenRooms_27 : decode cX2_brokenRooms 27 = .ok (.istore 4, 2) := by decide +kernel
theorem dX2_brokenRooms_29 : decode cX2_brokenRooms 29 = .ok (.aload_n 0, 1) := by decide +kernel
theorem dX2_brokenRooms_30 : decode cX2_brokenRooms 30 = .ok (.getfield 18, 3) := by decide +kernel
theorem dX2_brokenRooms_33 : decode cX2_brokenRooms 33 = .ok (.iload_n 2, 1) := by decide +kernel
theorem dX2_brokenRooms_34 : decode cX2_brokenRooms 34 = .ok (.iload 4, 2) := by decide +kernel
theorem dX2_brokenRooms_36 : decode cX2_brokenRooms 36 = .ok (.invokevirtual 137, 3) := by decide +kernel
theorem dX2_brokenRooms_39 : decode cX2_brokenRooms 39 = .ok (.aload_n 0, 1) := by decide +kernel
theorem dX2_brokenRooms_40 : decode cX2_brokenRooms 40 = .ok (.getfield 72, 3) := by decide +kernel
theorem dX2_brokenRooms_43 : decode cX2_brokenRooms 43 = .ok (.if_icmp .le 6, 3) := by decide +kernel
theorem dX2_brokenRooms_46 : decode cX2_brokenRooms 46 = .ok (.iinc 1 1, 3) := by decide +kernel
theorem dX2_brokenRooms_49 : decode cX2_brokenRooms 49 = .ok (.iload 4, 2) := by decide +kernel
theorem dX2_brokenRooms_51 : decode cX2_brokenRooms 51 = .ok (.istore_n 2, 1) := by decide +kernel
theorem dX2_brokenRooms_52 : decode cX2_brokenRooms 52 = .ok (.iinc 3 1, 3) := by decide +kernel
theorem dX2_brokenRooms_55 : decode cX2_brokenRooms 55 = .ok (.goto (-49), 3) := by decide +kernel
theorem dX2_brokenRooms_58 : decode cX2_brokenRooms 58 = .ok (.iload_n 1, 1) := by decide +kernel
theorem dX2_brokenRooms_59 : decode cX2_brokenRooms 59 = .ok (.ireturn, 1) := by decide +kernel
theorem dX2_brokenWidths_0 : decode cX2_brokenWidths 0 = .ok (.iconst 0, 1) := by decide +kernel
theorem dX2_brokenWidths_1 : decode cX2_brokenWidths 1 = .ok (.istore_n 1, 1) := by decide +kernel
theorem dX2_brokenWidths_2 : decode cX2_brokenWidths 2 = .ok (.iconst 0, 1) := by decide +kernel
theorem dX2_brokenWidths_3 : decode cX2_brokenWidths 3 = .ok (.istore_n 2, 1) := by decide +kernel
theorem dX2_brokenWidths_4 : decode cX2_brokenWidths 4 = .ok (.iload_n 2, 1) := by decide +kernel
theorem dX2_brokenWidths_5 : decode cX2_brokenWidths 5 = .ok (.aload_n 0, 1) := by decide +kernel
theorem dX2_brokenWidths_6 : decode cX2_brokenWidths 6 = .ok (.getfield 27, 3) := by decide +kernel
theorem dX2_brokenWidths_9 : decode cX2_brokenWidths 9 = .ok (.getfield 97, 3) := by decide +kernel
theorem dX2_brokenWidths_12 : decode cX2_brokenWidths 12 = .ok (.if_icmp .ge 27, 3) := by decide +kernel
theorem dX2_brokenWidths_15 : decode cX2_brokenWidths 15 = .ok (.aload_n 0, 1) := by decide +kernel
theorem dX2_brokenWidths_16 : decode cX2_brokenWidths 16 = .ok (.getfield 27, 3) := by decide +kernel
theorem dX2_brokenWidths_19 : decode cX2_brokenWidths 19 = .ok (.iload_n 2, 1) := by decide +kernel
theorem dX2_brokenWidths_20 : decode cX2_brokenWidths 20 = .ok (.invokevirtual 108, 3) := by decide +kernel
theorem dX2_brokenWidths_23 : decode cX2_brokenWidths 23 = .ok (.aload_n 0, 1) := by decide +kernel
theorem dX2_brokenWidths_24 : decode cX2_brokenWidths 24 = .ok (.getfield 75, 3) := by decide +kernel
theorem dX2_brokenWidths_27 : decode cX2_brokenWidths 27 = .ok (.if_icmp .le 6, 3) := by decide +kernel
theorem dX2_brokenWidths_30 : decode cX2_brokenWidths 30 = .ok (.iinc 1 1, 3) := by decide +kernel
theorem dX2_brokenWidths_33 : decode cX2_brokenWidths 33 = .ok (.iinc 2 1, 3) := by decide +kernel
theorem dX2_brokenWidths_36 : decode cX2_brokenWidths 36 = .ok (.goto (-32), 3) := by decide +kernel
theorem dX2_brokenWidths_39 : decode cX2_brokenWidths 39 = .ok (.iload_n 1, 1) := by decide +kernel
theorem dX2_brokenWidths_40 : decode cX2_brokenWidths 40 = .ok (.ireturn, 1) := by decide +kernel
