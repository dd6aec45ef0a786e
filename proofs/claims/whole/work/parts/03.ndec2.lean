theorem dX4_rank_40 : decode cX4_rank 40 = .ok (.goto 9, 3) := by decide +kernel
theorem dX4_rank_43 : decode cX4_rank 43 = .ok (.aload_n 3, 1) := by decide +kernel
theorem dX4_rank_44 : decode cX4_rank 44 = .ok (.getfield 151, 3) := by decide +kernel
theorem dX4_rank_47 : decode cX4_rank 47 = .ok (.iload_n 2, 1) := by decide +kernel
theorem dX4_rank_48 : decode cX4_rank 48 = .ok (.iaload, 1) := by decide +kernel
theorem dX4_rank_49 : decode cX4_rank 49 = .ok (.ireturn, 1) := by decide +kernel
theorem dX4_same_0 : decode cX4_same 0 = .ok (.aload_n 0, 1) := by decide +kernel
theorem dX4_same_1 : decode cX4_same 1 = .ok (.iload_n 1, 1) := by decide +kernel
theorem dX4_same_2 : decode cX4_same 2 = .ok (.invokevirtual 147, 3) := by decide +kernel
theorem dX4_same_5 : decode cX4_same 5 = .ok (.astore 4, 2) := by decide +kernel
theorem dX4_same_7 : decode cX4_same 7 = .ok (.iload_n 2, 1) := by decide +kernel
theorem dX4_same_8 : decode cX4_same 8 = .ok (.invokestatic 156, 3) := by decide +kernel
theorem dX4_same_11 : decode cX4_same 11 = .ok (.ifCond .ne 10, 3) := by decide +kernel
theorem dX4_same_14 : decode cX4_same 14 = .ok (.iload_n 3, 1) := by decide +kernel
theorem dX4_same_15 : decode cX4_same 15 = .ok (.invokestatic 156, 3) := by decide +kernel
theorem dX4_same_18 : decode cX4_same 18 = .ok (.ifCond .eq 13, 3) := by decide +kernel
theorem dX4_same_21 : decode cX4_same 21 = .ok (.new 48, 3) := by decide +kernel
theorem dX4_same_24 : decode cX4_same 24 = .ok (.dup, 1) := by decide +kernel
theorem dX4_same_25 : decode cX4_same 25 = .ok (.ldc 159, 2) := by decide +kernel
theorem dX4_same_27 : decode cX4_same 27 = .ok (.invokespecial 52, 3) := by decide +kernel
theorem dX4_same_30 : decode cX4_same 30 = .ok (.athrow, 1) := by decide +kernel
theorem dX4_same_31 : decode cX4_same 31 = .ok (.aload 4, 2) := by decide +kernel
theorem dX4_same_33 : decode cX4_same 33 = .ok (.iload_n 2, 1) := by decide +kernel
theorem dX4_same_34 : decode cX4_same 34 = .ok (.iload_n 3, 1) := by decide +kernel
theorem dX4_same_35 : decode cX4_same 35 = .ok (.invokevirtual 161, 3) := by decide +kernel
theorem dX4_same_38 : decode cX4_same 38 = .ok (.ireturn, 1) := by decide +kernel
theorem dX4_prints_0 : decode cX4_prints 0 = .ok (.aload_n 0, 1) := by decide +kernel
theorem dX4_prints_1 : decode cX4_prints 1 = .ok (.iload_n 1, 1) := by decide +kernel
theorem dX4_prints_2 : decode cX4_prints 2 = .ok (.invokevirtual 147, 3) := by decide +kernel
theorem dX4_prints_5 : decode cX4_prints 5 = .ok (.astore 5, 2) := by decide +kernel
theorem dX4_prints_7 : decode cX4_prints 7 = .ok (.aload_n 0, 1) := by decide +kernel
theorem dX4_prints_8 : decode cX4_prints 8 = .ok (.iload_n 2, 1) := by decide +kernel
theorem dX4_prints_9 : decode cX4_prints 9 = .ok (.invokevirtual 75, 3) := by decide +kernel
theorem dX4_prints_12 : decode cX4_prints 12 = .ok (.aload_n 0, 1) := by decide +kernel
theorem dX4_prints_13 : decode cX4_prints 13 = .ok (.iload_n 3, 1) := by decide +kernel
theorem dX4_prints_14 : decode cX4_prints 14 = .ok (.iload 4, 2) := by decide +kernel
theorem dX4_prints_16 : decode cX4_prints 16 = .ok (.invokevirtual 100, 3) := by decide +kernel
theorem dX4_prints_19 : decode cX4_prints 19 = .ok (.aload_n 0, 1) := by decide +kernel
theorem dX4_prints_20 : decode cX4_prints 20 = .ok (.getfield 30, 3) := by decide +kernel
theorem dX4_prints_23 : decode cX4_prints 23 = .ok (.aload_n 0, 1) := by decide +kernel
theorem dX4_prints_24 : decode cX4_prints 24 = .ok (.getfield 23, 3) := by decide +kernel
theorem dX4_prints_27 : decode cX4_prints 27 = .ok (.iload_n 2, 1) := by decide +kernel
theorem dX4_prints_28 : decode cX4_prints 28 = .ok (.iload_n 3, 1) := by decide +kernel
theorem dX4_prints_29 : decode cX4_prints 29 = .ok (.aload_n 0, 1) := by decide +kernel
theorem dX4_prints_30 : decode cX4_prints 30 = .ok (.getfield 23, 3) := by decide +kernel
theorem dX4_prints_33 : decode cX4_prints 33 = .ok (.getfield 83, 3) := by decide +kernel
theorem dX4_prints_36 : decode cX4_prints 36 = .ok (.iload 4, 2) := by decide +kernel
theorem dX4_prints_38 : decode cX4_prints 38 = .ok (.imul, 1) := by decide +kernel
theorem dX4_prints_39 : decode cX4_prints 39 = .ok (.iadd, 1) := by decide +kernel
theorem dX4_prints_40 : decode cX4_prints 40 = .ok (.invokevirtual 164, 3) := by decide +kernel
theorem dX4_prints_43 : decode cX4_prints 43 = .ok (.invokevirtual 110, 3) := by decide +kernel
theorem dX4_prints_46 : decode cX4_prints 46 = .ok (.istore 6, 2) := by decide +kernel
theorem dX4_prints_48 : decode cX4_prints 48 = .ok (.aload 5, 2) := by decide +kernel
theorem dX4_prints_50 : decode cX4_prints 50 = .ok (.iload 6, 2) := by decide +kernel
theorem dX4_prints_52 : decode cX4_prints 52 = .ok (.iload_n 3, 1) := by decide +kernel
theorem dX4_prints_53 : decode cX4_prints 53 = .ok (.iload 4, 2) := by decide +kernel
theorem dX4_prints_55 : decode cX4_prints 55 = .ok (.invokevirtual 167, 3) := by decide +kernel
theorem dX4_prints_58 : decode cX4_prints 58 = .ok (.ireturn, 1) := by decide +kernel
theorem dX4_covered_0 : decode cX4_covered 0 = .ok (.aload_n 0, 1) := by decide +kernel
theorem dX4_covered_1 : decode cX4_covered 1 = .ok (.iload_n 1, 1) := by decide +kernel
theorem dX4_covered_2 : decode cX4_covered 2 = .ok (.invokevirtual 75, 3) := by decide +kernel
theorem dX4_covered_5 : decode cX4_covered 5 = .ok (.lconst 0, 1) := by decide +kernel
theorem dX4_covered_6 : decode cX4_covered 6 = .ok (.lstore_n 2, 1) := by decide +kernel
theorem dX4_covered_7 : decode cX4_covered 7 = .ok (.iconst 0, 1) := by decide +kernel
theorem dX4_covered_8 : decode cX4_covered 8 = .ok (.istore 4, 2) := by decide +kernel
theorem dX4_covered_10 : decode cX4_covered 10 = .ok (.iload 4, 2) := by decide +kernel
theorem dX4_covered_12 : decode cX4_covered 12 = .ok (.aload_n 0, 1) := by decide +kernel
theorem dX4_covered_13 : decode cX4_covered 13 = .ok (.getfield 23, 3) := by decide +kernel
theorem dX4_covered_16 : decode cX4_covered 16 = .ok (.getfield 171, 3) := by decide +kernel
theorem dX4_covered_19 : decode cX4_covered 19 = .ok (.if_icmp .ge 23, 3) := by decide +kernel
theorem dX4_covered_22 : decode cX4_covered 22 = .ok (.lload_n 2, 1) := by decide +kernel
theorem dX4_covered_23 : decode cX4_covered 23 = .ok (.aload_n 0, 1) := by decide +kernel
theorem dX4_covered_24 : decode cX4_covered 24 = .ok (.getfield 23, 3) := by decide +kernel
theorem dX4_covered_27 : decode cX4_covered 27 = .ok (.iload_n 1, 1) := by decide +kernel
theorem dX4_covered_28 : decode cX4_covered 28 = .ok (.iload 4, 2) := by decide +kernel
theorem dX4_covered_30 : decode cX4_covered 30 = .ok (.invokevirtual 164, 3) := by decide +kernel
theorem dX4_covered_33 : decode cX4_covered 33 = .ok (.i2l, 1) := by decide +kernel
theorem dX4_covered_34 : decode cX4_covered 34 = .ok (.ladd, 1) := by decide +kernel
theorem dX4_covered_35 : decode cX4_covered 35 = .ok (.lstore_n 2, 1) := by decide +kernel
theorem dX4_covered_36 : decode cX4_covered 36 = .ok (.iinc 4 1, 3) := by decide +kernel
theorem dX4_covered_39 : decode cX4_covered 39 = .ok (.goto (-29), 3) := by decide +kernel
theorem dX4_covered_42 : decode cX4_covered 42 = .ok (.lload_n 2, 1) := by decide +kernel
theorem dX4_covered_43 : decode cX4_covered 43 = .ok (.lreturn, 1) := by decide +kernel
theorem dX4_packed_0 : decode cX4_packed 0 = .ok (.aload_n 0, 1) := by decide +kernel
theorem dX4_packed_1 : decode cX4_packed 1 = .ok (.iload_n 1, 1) := by decide +kernel
theorem dX4_packed_2 : decode cX4_packed 2 = .ok (.invokevirtual 75, 3) := by decide +kernel
theorem dX4_packed_5 : decode cX4_packed 5 = .ok (.iload_n 2, 1) := by decide +kernel
theorem dX4_packed_6 : decode cX4_packed 6 = .ok (.iconst (-1), 1) := by decide +kernel
theorem dX4_packed_7 : decode cX4_packed 7 = .ok (.if_icmp .ne 14, 3) := by decide +kernel
theorem dX4_packed_10 : decode cX4_packed 10 = .ok (.iconst 2, 1) := by decide +kernel
theorem dX4_packed_11 : decode cX4_packed 11 = .ok (.aload_n 0, 1) := by decide +kernel
theorem dX4_packed_12 : decode cX4_packed 12 = .ok (.getfield 23, 3) := by decide +kernel
theorem dX4_packed_15 : decode cX4_packed 15 = .ok (.iload_n 1, 1) := by decide +kernel
theorem dX4_packed_16 : decode cX4_packed 16 = .ok (.invokevirtual 174, 3) := by decide +kernel
theorem dX4_packed_19 : decode cX4_packed 19 = .ok (.imul, 1) := by decide +kernel
theorem dX4_packed_20 : decode cX4_packed 20 = .ok (.ireturn, 1) := by decide +kernel
theorem dX4_packed_21 : decode cX4_packed 21 = .ok (.iload_n 2, 1) := by decide +kernel
theorem dX4_packed_22 : decode cX4_packed 22 = .ok (.ifCond .ge 7, 3) := by decide +kernel
theorem dX4_packed_25 : decode cX4_packed 25 = .ok (.iconst (-1), 1) := by decide +kernel
theorem dX4_packed_26 : decode cX4_packed 26 = .ok (.goto 14, 3) := by decide +kernel
theorem dX4_packed_29 : decode cX4_packed 29 = .ok (.aload_n 0, 1) := by decide +kernel
theorem dX4_packed_30 : decode cX4_packed 30 = .ok (.getfield 23, 3) := by decide +kernel
theorem dX4_packed_33 : decode cX4_packed 33 = .ok (.iload_n 1, 1) := by decide +kernel
theorem dX4_packed_34 : decode cX4_packed 34 = .ok (.iload_n 2, 1) := by decide +kernel
theorem dX4_packed_35 : decode cX4_packed 35 = .ok (.iconst 2, 1) := by decide +kernel
theorem dX4_packed_36 : decode cX4_packed 36 = .ok (.idiv, 1) := by decide +kernel
theorem dX4_packed_37 : decode cX4_packed 37 = .ok (.invokevirtual 177, 3) := by decide +kernel
theorem dX4_packed_40 : decode cX4_packed 40 = .ok (.istore_n 3, 1) := by decide +kernel
theorem dX4_packed_41 : decode cX4_packed 41 = .ok (.iload_n 3, 1) := by decide +kernel
theorem dX4_packed_42 : decode cX4_packed 42 = .ok (.ifCond .ge 13, 3) := by decide +kernel
theorem dX4_packed_45 : decode cX4_packed 45 = .ok (.new 114, 3) := by decide +kernel
theorem dX4_packed_48 : decode cX4_packed 48 = .ok (.dup, 1) := by decide +kernel
theorem dX4_packed_49 : decode cX4_packed 49 = .ok (.ldc 180, 2) := by decide +kernel
theorem dX4_packed_51 : decode cX4_packed 51 = .ok (.invokespecial 118, 3) := by decide +kernel
theorem dX4_packed_54 : decode cX4_packed 54 = .ok (.athrow, 1) := by decide +kernel
theorem dX4_packed_55 : decode cX4_packed 55 = .ok (.iload_n 2, 1) := by decide +kernel
theorem dX4_packed_56 : decode cX4_packed 56 = .ok (.iconst 2, 1) := by decide +kernel
theorem dX4_packed_57 : decode cX4_packed 57 = .ok (.irem, 1) := by decide +kernel
theorem dX4_packed_58 : decode cX4_packed 58 = .ok (.ifCond .ne 15, 3) := by decide +kernel
theorem dX4_packed_61 : decode cX4_packed 61 = .ok (.aload_n 0, 1) := by decide +kernel
theorem dX4_packed_62 : decode cX4_packed 62 = .ok (.getfield 23, 3) := by decide +kernel
theorem dX4_packed_65 : decode cX4_packed 65 = .ok (.iload_n 1, 1) := by decide +kernel
theorem dX4_packed_66 : decode cX4_packed 66 = .ok (.iload_n 3, 1) := by decide +kernel
theorem dX4_packed_67 : decode cX4_packed 67 = .ok (.invokevirtual 182, 3) := by decide +kernel
theorem dX4_packed_70 : decode cX4_packed 70 = .ok (.goto 12, 3) := by decide +kernel
theorem dX4_packed_73 : decode cX4_packed 73 = .ok (.aload_n 0, 1) := by decide +kernel
theorem dX4_packed_74 : decode cX4_packed 74 = .ok (.getfield 23, 3) := by decide +kernel
theorem dX4_packed_77 : decode cX4_packed 77 = .ok (.iload_n 1, 1) := by decide +kernel
theorem dX4_packed_78 : decode cX4_packed 78 = .ok (.iload_n 3, 1) := by decide +kernel
theorem dX4_packed_79 : decode cX4_packed 79 = .ok (.invokevirtual 164, 3) := by decide +kernel
theorem dX4_packed_82 : decode cX4_packed 82 = .ok (.ireturn, 1) := by decide +kernel
theorem dX4_isByte_0 : decode cX4_isByte 0 = .ok (.iload_n 0, 1) := by decide +kernel
theorem dX4_isByte_1 : decode cX4_isByte 1 = .ok (.ifCond .lt 14, 3) := by decide +kernel
theorem dX4_isByte_4 : decode cX4_isByte 4 = .ok (.iload_n 0, 1) := by decide +kernel
theorem dX4_isByte_5 : decode cX4_isByte 5 = .ok (.sipush 255, 3) := by decide +kernel
theorem dX4_isByte_8 : decode cX4_isByte 8 = .ok (.if_icmp .gt 7, 3) := by decide +kernel
theorem dX4_isByte_11 : decode cX4_isByte 11 = .ok (.iconst 1, 1) := by decide +kernel
theorem dX4_isByte_12 : decode cX4_isByte 12 = .ok (.goto 4, 3) := by decide +kernel
theorem dX4_isByte_15 : decode cX4_isByte 15 = .ok (.iconst 0, 1) := by decide +kernel
theorem dX4_isByte_16 : decode cX4_isByte 16 = .ok (.ireturn, 1) := by decide +kernel
theorem dX4_isTooFar_0 : decode cX4_isTooFar 0 = .ok (.iload_n 0, 1) := by decide +kernel
theorem dX4_isTooFar_1 : decode cX4_isTooFar 1 = .ok (.ldc 185, 2) := by decide +kernel
theorem dX4_isTooFar_3 : decode cX4_isTooFar 3 = .ok (.if_icmp .lt 9, 3) := by decide +kernel
theorem dX4_isTooFar_6 : decode cX4_isTooFar 6 = .ok (.iload_n 0, 1) := by decide +kernel
theorem dX4_isTooFar_7 : decode cX4_isTooFar 7 = .ok (.ldc 186, 2) := by decide +kernel
theorem dX4_isTooFar_9 : decode cX4_isTooFar 9 = .ok (.if_icmp .le 7, 3) := by decide +kernel
theorem dX4_isTooFar_12 : decode cX4_isTooFar 12 = .ok (.iconst 1, 1) := by decide +kernel
theorem dX4_isTooFar_13 : decode cX4_isTooFar 13 = .ok (.goto 4, 3) := by decide +kernel
theorem dX4_isTooFar_16 : decode cX4_isTooFar 16 = .ok (.iconst 0, 1) := by decide +kernel
theorem dX4_isTooFar_17 : decode cX4_isTooFar 17 = .ok (.ireturn, 1) := by decide +kernel
theorem dX4_checkInk_0 : decode cX4_checkInk 0 = .ok (.iload_n 1, 1) := by decide +kernel
theorem dX4_checkInk_1 : decode cX4_checkInk 1 = .ok (.ifCond .lt 17, 3) := by decide +kernel
theorem dX4_checkInk_4 : decode cX4_checkInk 4 = .ok (.iload_n 1, 1) := by decide +kernel
theorem dX4_checkInk_5 : decode cX4_checkInk 5 = .ok (.aload_n 0, 1) := by decide +kernel
theorem dX4_checkInk_6 : decode cX4_checkInk 6 = .ok (.getfield 23, 3) := by decide +kernel
theorem dX4_checkInk_9 : decode cX4_checkInk 9 = .ok (.getfield 55, 3) := by decide +kernel
theorem dX4_checkInk_12 : decode cX4_checkInk 12 = .ok (.getfield 59, 3) := by decide +kernel
theorem dX4_checkInk_15 : decode cX4_checkInk 15 = .ok (.if_icmp .lt 13, 3) := by decide +kernel
theorem dX4_checkInk_18 : decode cX4_checkInk 18 = .ok (.new 114, 3) := by decide +kernel
theorem dX4_checkInk_21 : decode cX4_checkInk 21 = .ok (.dup, 1) := by decide +kernel
theorem dX4_checkInk_22 : decode cX4_checkInk 22 = .ok (.ldc 187, 2) := by decide +kernel
theorem dX4_checkInk_24 : decode cX4_checkInk 24 = .ok (.invokespecial 118, 3) := by decide +kernel
theorem dX4_checkInk_27 : decode cX4_checkInk 27 = .ok (.athrow, 1) := by decide +kernel
theorem dX4_checkInk_28 : decode cX4_checkInk 28 = .ok (.return_, 1) := by decide +kernel
theorem dX4_checkPoint_0 : decode cX4_checkPoint 0 = .ok (.iload_n 1, 1) := by decide +kernel
theorem dX4_checkPoint_1 : decode cX4_checkPoint 1 = .ok (.ifCond .lt 29, 3) := by decide +kernel
theorem dX4_checkPoint_4 : decode cX4_checkPoint 4 = .ok (.iload_n 1, 1) := by decide +kernel
theorem dX4_checkPoint_5 : decode cX4_checkPoint 5 = .ok (.aload_n 0, 1) := by decide +kernel
theorem dX4_checkPoint_6 : decode cX4_checkPoint 6 = .ok (.getfield 23, 3) := by decide +kernel
theorem dX4_checkPoint_9 : decode cX4_checkPoint 9 = .ok (.getfield 83, 3) := by decide +kernel
theorem dX4_checkPoint_12 : decode cX4_checkPoint 12 = .ok (.if_icmp .ge 18, 3) := by decide +kernel
theorem dX4_checkPoint_15 : decode cX4_checkPoint 15 = .ok (.iload_n 2, 1) := by decide +kernel
theorem dX4_checkPoint_16 : decode cX4_checkPoint 16 = .ok (.ifCond .lt 14, 3) := by decide +kernel
theorem dX4_checkPoint_19 : decode cX4_checkPoint 19 = .ok (.iload_n 2, 1) := by decide +kernel
theorem dX4_checkPoint_20 : decode cX4_checkPoint 20 = .ok (.aload_n 0, 1) := by decide +kernel
theorem dX4_checkPoint_21 : decode cX4_checkPoint 21 = .ok (.getfield 23, 3) := by decide +kernel
theorem dX4_checkPoint_24 : decode cX4_checkPoint 24 = .ok (.getfield 86, 3) := by decide +kernel
theorem dX4_checkPoint_27 : decode cX4_checkPoint 27 = .ok (.if_icmp .lt 13, 3) := by decide +kernel
theorem dX4_checkPoint_30 : decode cX4_checkPoint 30 = .ok (.new 114, 3) := by decide +kernel
theorem dX4_checkPoint_33 : decode cX4_checkPoint 33 = .ok (.dup, 1) := by decide +kernel
theorem dX4_checkPoint_34 : decode cX4_checkPoint 34 = .ok (.ldc 189, 2) := by decide +kernel
theorem dX4_checkPoint_36 : decode cX4_checkPoint 36 = .ok (.invokespecial 118, 3) := by decide +kernel
theorem dX4_checkPoint_39 : decode cX4_checkPoint 39 = .ok (.athrow, 1) := by decide +kernel
theorem dX4_checkPoint_40 : decode cX4_checkPoint 40 = .ok (.return_, 1) := by decide +kernel
theorem dX4_checkedCell_0 : decode cX4_checkedCell 0 = .ok (.iload_n 1, 1) := by decide +kernel
theorem dX4_checkedCell_1 : decode cX4_checkedCell 1 = .ok (.ifCond .lt 11, 3) := by decide +kernel
theorem dX4_checkedCell_4 : decode cX4_checkedCell 4 = .ok (.iload_n 1, 1) := by decide +kernel
theorem dX4_checkedCell_5 : decode cX4_checkedCell 5 = .ok (.aload_n 0, 1) := by decide +kernel
theorem dX4_checkedCell_6 : decode cX4_checkedCell 6 = .ok (.getfield 40, 3) := by decide +kernel
theorem dX4_checkedCell_9 : decode cX4_checkedCell 9 = .ok (.if_icmp .lt 7, 3) := by decide +kernel
theorem dX4_checkedCell_12 : decode cX4_checkedCell 12 = .ok (.aconst_null, 1) := by decide +kernel
theorem dX4_checkedCell_13 : decode cX4_checkedCell 13 = .ok (.goto 9, 3) := by decide +kernel
theorem dX4_checkedCell_16 : decode cX4_checkedCell 16 = .ok (.aload_n 0, 1) := by decide +kernel
theorem dX4_checkedCell_17 : decode cX4_checkedCell 17 = .ok (.getfield 36, 3) := by decide +kernel
theorem dX4_checkedCell_20 : decode cX4_checkedCell 20 = .ok (.iload_n 1, 1) := by decide +kernel
theorem dX4_checkedCell_21 : decode cX4_checkedCell 21 = .ok (.aaload, 1) := by decide +kernel
theorem dX4_checkedCell_22 : decode cX4_checkedCell 22 = .ok (.astore_n 2, 1) := by decide +kernel
theorem dX4_checkedCell_23 : decode cX4_checkedCell 23 = .ok (.aload_n 2, 1) := by decide +kernel
theorem dX4_checkedCell_24 : decode cX4_checkedCell 24 = .ok (.ifnonnull 13, 3) := by decide +kernel
theorem dX4_checkedCell_27 : decode cX4_checkedCell 27 = .ok (.new 114, 3) := by decide +kernel
theorem dX4_checkedCell_30 : decode cX4_checkedCell 30 = .ok (.dup, 1) := by decide +kernel
theorem dX4_checkedCell_31 : decode cX4_checkedCell 31 = .ok (.ldc 191, 2) := by decide +kernel
theorem dX4_checkedCell_33 : decode cX4_checkedCell 33 = .ok (.invokespecial 118, 3) := by decide +kernel
theorem dX4_checkedCell_36 : decode cX4_checkedCell 36 = .ok (.athrow, 1) := by decide +kernel
theorem dX4_checkedCell_37 : decode cX4_checkedCell 37 = .ok (.aload_n 2, 1) := by decide +kernel
theorem dX4_checkedCell_38 : decode cX4_checkedCell 38 = .ok (.areturn, 1) := by decide +kernel
theorem dX5_init_0 : decode cX5_init 0 = .ok (.aload_n 0, 1) := by decide +kernel
theorem dX5_init_1 : decode cX5_init 1 = .ok (.invokespecial 1, 3) := by decide +kernel
theorem dX5_init_4 : decode cX5_init 4 = .ok (.aload_n 0, 1) := by decide +kernel
theorem dX5_init_5 : decode cX5_init 5 = .ok (.iconst 4, 1) := by decide +kernel
theorem dX5_init_6 : decode cX5_init 6 = .ok (.putfield 7, 3) := by decide +kernel
theorem dX5_init_9 : decode cX5_init 9 = .ok (.aload_n 0, 1) := by decide +kernel
theorem dX5_init_10 : decode cX5_init 10 = .ok (.bipush 32, 2) := by decide +kernel
theorem dX5_init_12 : decode cX5_init 12 = .ok (.newarray .int, 2) := by decide +kernel
theorem dX5_init_14 : decode cX5_init 14 = .ok (.putfield 13, 3) := by decide +kernel
theorem dX5_init_17 : decode cX5_init 17 = .ok (.aload_n 0, 1) := by decide +kernel
theorem dX5_init_18 : decode cX5_init 18 = .ok (.sipush 1536, 3) := by decide +kernel
theorem dX5_init_21 : decode cX5_init 21 = .ok (.newarray .int, 2) := by decide +kernel
theorem dX5_init_23 : decode cX5_init 23 = .ok (.putfield 17, 3) := by decide +kernel
theorem dX5_init_26 : decode cX5_init 26 = .ok (.aload_n 0, 1) := by decide +kernel
theorem dX5_init_27 : decode cX5_init 27 = .ok (.bipush 8, 2) := by decide +kernel
theorem dX5_init_29 : decode cX5_init 29 = .ok (.newarray .int, 2) := by decide +kernel
theorem dX5_init_31 : decode cX5_init 31 = .ok (.putfield 20, 3) := by decide +kernel
theorem dX5_init_34 : decode cX5_init 34 = .ok (.aload_n 0, 1) := by decide +kernel
theorem dX5_init_35 : decode cX5_init 35 = .ok (.sipush 2040, 3) := by decide +kernel
theorem dX5_init_38 : decode cX5_init 38 = .ok (.putfield 23, 3) := by decide +kernel
theorem dX5_init_41 : decode cX5_init 41 = .ok (.aload_n 0, 1) := by decide +kernel
theorem dX5_init_42 : decode cX5_init 42 = .ok (.iconst 1, 1) := by decide +kernel
theorem dX5_init_43 : decode cX5_init 43 = .ok (.putfield 26, 3) := by decide +kernel
theorem dX5_init_46 : decode cX5_init 46 = .ok (.aload_n 0, 1) := by decide +kernel
theorem dX5_init_47 : decode cX5_init 47 = .ok (.sipush 256, 3) := by decide +kernel
theorem dX5_init_50 : decode cX5_init 50 = .ok (.newarray .int, 2) := by decide +kernel
theorem dX5_init_52 : decode cX5_init 52 = .ok (.putfield 29, 3) := by decide +kernel
theorem dX5_init_55 : decode cX5_init 55 = .ok (.aload_n 0, 1) := by decide +kernel
theorem dX5_init_56 : decode cX5_init 56 = .ok (.iconst 2, 1) := by decide +kernel
theorem dX5_init_57 : decode cX5_init 57 = .ok (.putfield 32, 3) := by decide +kernel
theorem dX5_init_60 : decode cX5_init 60 = .ok (.aload_n 0, 1) := by decide +kernel
theorem dX5_init_61 : decode cX5_init 61 = .ok (.bipush 6, 2) := by decide +kernel
theorem dX5_init_63 : decode cX5_init 63 = .ok (.newarray .int, 2) := by decide +kernel
theorem dX5_init_65 : decode cX5_init 65 = .ok (.putfield 35, 3) := by decide +kernel
theorem dX5_init_68 : decode cX5_init 68 = .ok (.aload_n 0, 1) := by decide +kernel
theorem dX5_init_69 : decode cX5_init 69 = .ok (.bipush 6, 2) := by decide +kernel
theorem dX5_init_71 : decode cX5_init 71 = .ok (.newarray .int, 2) := by decide +kernel
theorem dX5_init_73 : decode cX5_init 73 = .ok (.putfield 38, 3) := by decide +kernel
theorem dX5_init_76 : decode cX5_init 76 = .ok (.aload_n 0, 1) := by decide +kernel
theorem dX5_init_77 : decode cX5_init 77 = .ok (.bipush 6, 2) := by decide +kernel
theorem dX5_init_79 : decode cX5_init 79 = .ok (.newarray .int, 2) := by decide +kernel
theorem dX5_init_81 : decode cX5_init 81 = .ok (.putfield 41, 3) := by decide +kernel
theorem dX5_init_84 : decode cX5_init 84 = .ok (.aload_n 0, 1) := by decide +kernel
theorem dX5_init_85 : decode cX5_init 85 = .ok (.bipush 6, 2) := by decide +kernel
theorem dX5_init_87 : decode cX5_init 87 = .ok (.newarray .int, 2) := by decide +kernel
theorem dX5_init_89 : decode cX5_init 89 = .ok (.putfield 44, 3) := by decide +kernel
theorem dX5_init_92 : decode cX5_init 92 = .ok (.aload_n 0, 1) := by decide +kernel
theorem dX5_init_93 : decode cX5_init 93 = .ok (.bipush 6, 2) := by decide +kernel
theorem dX5_init_95 : decode cX5_init 95 = .ok (.newarray .int, 2) := by decide +kernel
theorem dX5_init_97 : decode cX5_init 97 = .ok (.putfield 47, 3) := by decide +kernel
theorem dX5_init_100 : decode cX5_init 100 = .ok (.aload_n 0, 1) := by decide +kernel
theorem dX5_init_101 : decode cX5_init 101 = .ok (.sipush 1800, 3) := by decide +kernel
theorem dX5_init_104 : decode cX5_init 104 = .ok (.newarray .int, 2) := by decide +kernel
theorem dX5_init_106 : decode cX5_init 106 = .ok (.putfield 50, 3) := by decide +kernel
theorem dX5_init_109 : decode cX5_init 109 = .ok (.aload_n 0, 1) := by decide +kernel
theorem dX5_init_110 : decode cX5_init 110 = .ok (.sipush 1800, 3) := by decide +kernel
theorem dX5_init_113 : decode cX5_init 113 = .ok (.newarray .int, 2) := by decide +kernel
theorem dX5_init_115 : decode cX5_init 115 = .ok (.putfield 53, 3) := by decide +kernel
theorem dX5_init_118 : decode cX5_init 118 = .ok (.aload_n 0, 1) := by decide +kernel
theorem dX5_init_119 : decode cX5_init 119 = .ok (.iload_n 1, 1) := by decide +kernel
theorem dX5_init_120 : decode cX5_init 120 = .ok (.iconst 1, 1) := by decide +kernel
theorem dX5_init_121 : decode cX5_init 121 = .ok (.if_icmp .ge 7, 3) := by decide +kernel
theorem dX5_init_124 : decode cX5_init 124 = .ok (.iconst 1, 1) := by decide +kernel
theorem dX5_init_125 : decode cX5_init 125 = .ok (.goto 15, 3) := by decide +kernel
theorem dX5_init_128 : decode cX5_init 128 = .ok (.iload_n 1, 1) := by decide +kernel
theorem dX5_init_129 : decode cX5_init 129 = .ok (.bipush 16, 2) := by decide +kernel
theorem dX5_init_131 : decode cX5_init 131 = .ok (.if_icmp .le 8, 3) := by decide +kernel
theorem dX5_init_134 : decode cX5_init 134 = .ok (.bipush 16, 2) := by decide +kernel
theorem dX5_init_136 : decode cX5_init 136 = .ok (.goto 4, 3) := by decide +kernel
theorem dX5_init_139 : decode cX5_init 139 = .ok (.iload_n 1, 1) := by decide +kernel
theorem dX5_init_140 : decode cX5_init 140 = .ok (.putfield 56, 3) := by decide +kernel
theorem dX5_init_143 : decode cX5_init 143 = .ok (.aload_n 0, 1) := by decide +kernel
theorem dX5_init_144 : decode cX5_init 144 = .ok (.iload_n 2, 1) := by decide +kernel
theorem dX5_init_145 : decode cX5_init 145 = .ok (.iconst 1, 1) := by decide +kernel
theorem dX5_init_146 : decode cX5_init 146 = .ok (.if_icmp .ge 7, 3) := by decide +kernel
theorem dX5_init_149 : decode cX5_init 149 = .ok (.iconst 1, 1) := by decide +kernel
theorem dX5_init_150 : decode cX5_init 150 = .ok (.goto 15, 3) := by decide +kernel
theorem dX5_init_153 : decode cX5_init 153 = .ok (.iload_n 2, 1) := by decide +kernel
theorem dX5_init_154 : decode cX5_init 154 = .ok (.bipush 12, 2) := by decide +kernel
theorem dX5_init_156 : decode cX5_init 156 = .ok (.if_icmp .le 8, 3) := by decide +kernel
theorem dX5_init_159 : decode cX5_init 159 = .ok (.bipush 12, 2) := by decide +kernel
theorem dX5_init_161 : decode cX5_init 161 = .ok (.goto 4, 3) := by decide +kernel
theorem dX5_init_164 : decode cX5_init 164 = .ok (.iload_n 2, 1) := by decide +kernel
theorem dX5_init_165 : decode cX5_init 165 = .ok (.putfield 59, 3) := by decide +kernel
theorem dX5_init_168 : decode cX5_init 168 = .ok (.iconst 0, 1) := by decide +kernel
theorem dX5_init_169 : decode cX5_init 169 = .ok (.istore_n 3, 1) := by decide +kernel
theorem dX5_init_170 : decode cX5_init 170 = .ok (.iload_n 3, 1) := by decide +kernel
theorem dX5_init_171 : decode cX5_init 171 = .ok (.iconst 4, 1) := by decide +kernel
theorem dX5_init_172 : decode cX5_init 172 = .ok (.if_icmp .ge 20, 3) := by decide +kernel
theorem dX5_init_175 : decode cX5_init 175 = .ok (.aload_n 0, 1) := by decide +kernel
theorem dX5_init_176 : decode cX5_init 176 = .ok (.getfield 13, 3) := by decide +kernel
theorem dX5_init_179 : decode cX5_init 179 = .ok (.iconst 5, 1) := by decide +kernel
theorem dX5_init_180 : decode cX5_init 180 = .ok (.iload_n 3, 1) := by decide +kernel
theorem dX5_init_181 : decode cX5_init 181 = .ok (.imul, 1) := by decide +kernel
theorem dX5_init_182 : decode cX5_init 182 = .ok (.sipush 255, 3) := by decide +kernel
theorem dX5_init_185 : decode cX5_init 185 = .ok (.iastore, 1) := by decide +kernel
theorem dX5_init_186 : decode cX5_init 186 = .ok (.iinc 3 1, 3) := by decide +kernel
theorem dX5_init_189 : decode cX5_init 189 = .ok (.goto (-19), 3) := by decide +kernel
theorem dX5_init_192 : decode cX5_init 192 = .ok (.iconst 0, 1) := by decide +kernel
theorem dX5_init_193 : decode cX5_init 193 = .ok (.istore_n 3, 1) := by decide +kernel
theorem dX5_init_194 : decode cX5_init 194 = .ok (.iload_n 3, 1) := by decide +kernel
theorem dX5_init_195 : decode cX5_init 195 = .ok (.bipush 8, 2) := by decide +kernel
theorem dX5_init_197 : decode cX5_init 197 = .ok (.if_icmp .ge 16, 3) := by decide +kernel
theorem dX5_init_200 : decode cX5_init 200 = .ok (.aload_n 0, 1) := by decide +kernel
theorem dX5_init_201 : decode cX5_init 201 = .ok (.getfield 20, 3) := by decide +kernel
theorem dX5_init_204 : decode cX5_init 204 = .ok (.iload_n 3, 1) := by decide +kernel
theorem dX5_init_205 : decode cX5_init 205 = .ok (.iconst (-1), 1) := by decide +kernel
theorem dX5_init_206 : decode cX5_init 206 = .ok (.iastore, 1) := by decide +kernel
theorem dX5_init_207 : decode cX5_init 207 = .ok (.iinc 3 1, 3) := by decide +kernel
theorem dX5_init_210 : decode cX5_init 210 = .ok (.goto (-16), 3) := by decide +kernel
theorem dX5_init_213 : decode cX5_init 213 = .ok (.iconst 1, 1) := by decide +kernel
theorem dX5_init_214 : decode cX5_init 214 = .ok (.istore_n 3, 1) := by decide +kernel
theorem dX5_init_215 : decode cX5_init 215 = .ok (.iload_n 3, 1) := by decide +kernel
theorem dX5_init_216 : decode cX5_init 216 = .ok (.sipush 255, 3) := by decide +kernel
theorem dX5_init_219 : decode cX5_init 219 = .ok (.if_icmp .ge 16, 3) := by decide +kernel
theorem dX5_init_222 : decode cX5_init 222 = .ok (.aload_n 0, 1) := by decide +kernel
theorem dX5_init_223 : decode cX5_init 223 = .ok (.getfield 29, 3) := by decide +kernel
theorem dX5_init_226 : decode cX5_init 226 = .ok (.iload_n 3, 1) := by decide +kernel
theorem dX5_init_227 : decode cX5_init 227 = .ok (.iconst (-1), 1) := by decide +kernel
theorem dX5_init_228 : decode cX5_init 228 = .ok (.iastore, 1) := by decide +kernel
theorem dX5_init_229 : decode cX5_init 229 = .ok (.iinc 3 1, 3) := by decide +kernel
theorem dX5_init_232 : decode cX5_init 232 = .ok (.goto (-17), 3) := by decide +kernel
theorem dX5_init_235 : decode cX5_init 235 = .ok (.aload_n 0, 1) := by decide +kernel
theorem dX5_init_236 : decode cX5_init 236 = .ok (.getfield 29, 3) := by decide +kernel
theorem dX5_init_239 : decode cX5_init 239 = .ok (.sipush 255, 3) := by decide +kernel
theorem dX5_init_242 : decode cX5_init 242 = .ok (.sipush 255, 3) := by decide +kernel
theorem dX5_init_245 : decode cX5_init 245 = .ok (.iastore, 1) := by decide +kernel
theorem dX5_init_246 : decode cX5_init 246 = .ok (.return_, 1) := by decide +kernel
theorem dX5_thrown_0 : decode cX5_thrown 0 = .ok (.aload_n 0, 1) := by decide +kernel
theorem dX5_thrown_1 : decode cX5_thrown 1 = .ok (.getfield 62, 3) := by decide +kernel
theorem dX5_thrown_4 : decode cX5_thrown 4 = .ok (.ireturn, 1) := by decide +kernel
theorem dX5_isByte_0 : decode cX5_isByte 0 = .ok (.iload_n 0, 1) := by decide +kernel
theorem dX5_isByte_1 : decode cX5_isByte 1 = .ok (.ifCond .lt 14, 3) := by decide +kernel
theorem dX5_isByte_4 : decode cX5_isByte 4 = .ok (.iload_n 0, 1) := by decide +kernel
theorem dX5_isByte_5 : decode cX5_isByte 5 = .ok (.sipush 255, 3) := by decide +kernel
theorem dX5_isByte_8 : decode cX5_isByte 8 = .ok (.if_icmp .gt 7, 3) := by decide +kernel
theorem dX5_isByte_11 : decode cX5_isByte 11 = .ok (.iconst 1, 1) := by decide +kernel
theorem dX5_isByte_12 : decode cX5_isByte 12 = .ok (.goto 4, 3) := by decide +kernel
theorem dX5_isByte_15 : decode cX5_isByte 15 = .ok (.iconst 0, 1) := by decide +kernel
theorem dX5_isByte_16 : decode cX5_isByte 16 = .ok (.ireturn, 1) := by decide +kernel
theorem dX5_isInk_0 : decode cX5_isInk 0 = .ok (.iload_n 1, 1) := by decide +kernel
theorem dX5_isInk_1 : decode cX5_isInk 1 = .ok (.ifCond .lt 15, 3) := by decide +kernel
theorem dX5_isInk_4 : decode cX5_isInk 4 = .ok (.iload_n 1, 1) := by decide +kernel
theorem dX5_isInk_5 : decode cX5_isInk 5 = .ok (.aload_n 0, 1) := by decide +kernel
theorem dX5_isInk_6 : decode cX5_isInk 6 = .ok (.getfield 7, 3) := by decide +kernel
theorem dX5_isInk_9 : decode cX5_isInk 9 = .ok (.if_icmp .ge 7, 3) := by decide +kernel
theorem dX5_isInk_12 : decode cX5_isInk 12 = .ok (.iconst 1, 1) := by decide +kernel
theorem dX5_isInk_13 : decode cX5_isInk 13 = .ok (.goto 4, 3) := by decide +kernel
theorem dX5_isInk_16 : decode cX5_isInk 16 = .ok (.iconst 0, 1) := by decide +kernel
theorem dX5_isInk_17 : decode cX5_isInk 17 = .ok (.ireturn, 1) := by decide +kernel
theorem dX5_isPoint_0 : decode cX5_isPoint 0 = .ok (.iload_n 1, 1) := by decide +kernel
theorem dX5_isPoint_1 : decode cX5_isPoint 1 = .ok (.ifCond .lt 27, 3) := by decide +kernel
theorem dX5_isPoint_4 : decode cX5_isPoint 4 = .ok (.iload_n 1, 1) := by decide +kernel
theorem dX5_isPoint_5 : decode cX5_isPoint 5 = .ok (.aload_n 0, 1) := by decide +kernel
theorem dX5_isPoint_6 : decode cX5_isPoint 6 = .ok (.getfield 56, 3) := by decide +kernel
theorem dX5_isPoint_9 : decode cX5_isPoint 9 = .ok (.if_icmp .ge 19, 3) := by decide +kernel
theorem dX5_isPoint_12 : decode cX5_isPoint 12 = .ok (.iload_n 2, 1) := by decide +kernel
theorem dX5_isPoint_13 : decode cX5_isPoint 13 = .ok (.ifCond .lt 15, 3) := by decide +kernel
theorem dX5_isPoint_16 : decode cX5_isPoint 16 = .ok (.iload_n 2, 1) := by decide +kernel
theorem dX5_isPoint_17 : decode cX5_isPoint 17 = .ok (.aload_n 0, 1) := by decide +kernel
theorem dX5_isPoint_18 : decode cX5_isPoint 18 = .ok (.getfield 59, 3) := by decide +kernel
theorem dX5_isPoint_21 : decode cX5_isPoint 21 = .ok (.if_icmp .ge 7, 3) := by decide +kernel
theorem dX5_isPoint_24 : decode cX5_isPoint 24 = .ok (.iconst 1, 1) := by decide +kernel
theorem dX5_isPoint_25 : decode cX5_isPoint 25 = .ok (.goto 4, 3) := by decide +kernel
theorem dX5_isPoint_28 : decode cX5_isPoint 28 = .ok (.iconst 0, 1) := by decide +kernel
theorem dX5_isPoint_29 : decode cX5_isPoint 29 = .ok (.ireturn, 1) := by decide +kernel
theorem dX5_byteAt_0 : decode cX5_byteAt 0 = .ok (.aload_n 0, 1) := by decide +kernel
theorem dX5_byteAt_1 : decode cX5_byteAt 1 = .ok (.getfield 17, 3) := by decide +kernel
theorem dX5_byteAt_4 : decode cX5_byteAt 4 = .ok (.bipush 8, 2) := by decide +kernel
theorem dX5_byteAt_6 : decode cX5_byteAt 6 = .ok (.bipush 16, 2) := by decide +kernel
theorem dX5_byteAt_8 : decode cX5_byteAt 8 = .ok (.iload_n 2, 1) := by decide +kernel
theorem dX5_byteAt_9 : decode cX5_byteAt 9 = .ok (.imul, 1) := by decide +kernel
theorem dX5_byteAt_10 : decode cX5_byteAt 10 = .ok (.iload_n 1, 1) := by decide +kernel
theorem dX5_byteAt_11 : decode cX5_byteAt 11 = .ok (.iadd, 1) := by decide +kernel
theorem dX5_byteAt_12 : decode cX5_byteAt 12 = .ok (.imul, 1) := by decide +kernel
theorem dX5_byteAt_13 : decode cX5_byteAt 13 = .ok (.iload_n 3, 1) := by decide +kernel
theorem dX5_byteAt_14 : decode cX5_byteAt 14 = .ok (.iadd, 1) := by decide +kernel
theorem dX5_byteAt_15 : decode cX5_byteAt 15 = .ok (.iaload, 1) := by decide +kernel
theorem dX5_byteAt_16 : decode cX5_byteAt 16 = .ok (.ireturn, 1) := by decide +kernel
theorem dX5_ink_0 : decode cX5_ink 0 = .ok (.aload_n 0, 1) := by decide +kernel
theorem dX5_ink_1 : decode cX5_ink 1 = .ok (.iload_n 1, 1) := by decide +kernel
theorem dX5_ink_2 : decode cX5_ink 2 = .ok (.invokestatic 65, 3) := by decide +kernel
theorem dX5_ink_5 : decode cX5_ink 5 = .ok (.ifCond .eq 25, 3) := by decide +kernel
theorem dX5_ink_8 : decode cX5_ink 8 = .ok (.iload_n 2, 1) := by decide +kernel
theorem dX5_ink_9 : decode cX5_ink 9 = .ok (.invokestatic 65, 3) := by decide +kernel
theorem dX5_ink_12 : decode cX5_ink 12 = .ok (.ifCond .eq 18, 3) := by decide +kernel
theorem dX5_ink_15 : decode cX5_ink 15 = .ok (.iload_n 3, 1) := by decide +kernel
theorem dX5_ink_16 : decode cX5_ink 16 = .ok (.invokestatic 65, 3) := by decide +kernel
theorem dX5_ink_19 : decode cX5_ink 19 = .ok (.ifCond .eq 11, 3) := by decide +kernel
theorem dX5_ink_22 : decode cX5_ink 22 = .ok (.iload 4, 2) := by decide +kernel
theorem dX5_ink_24 : decode cX5_ink 24 = .ok (.invokestatic 65, 3) := by decide +kernel
theorem dX5_ink_27 : decode cX5_ink 27 = .ok (.ifCond .ne 7, 3) := by decide +kernel
theorem dX5_ink_30 : decode cX5_ink 30 = .ok (.iconst 1, 1) := by decide +kernel
theorem dX5_ink_31 : decode cX5_ink 31 = .ok (.goto 17, 3) := by decide +kernel
theorem dX5_ink_34 : decode cX5_ink 34 = .ok (.aload_n 0, 1) := by decide +kernel
theorem dX5_ink_35 : decode cX5_ink 35 = .ok (.getfield 7, 3) := by decide +kernel
theorem dX5_ink_38 : decode cX5_ink 38 = .ok (.bipush 8, 2) := by decide +kernel
theorem dX5_ink_40 : decode cX5_ink 40 = .ok (.if_icmp .ne 7, 3) := by decide +kernel
theorem dX5_ink_43 : decode cX5_ink 43 = .ok (.iconst 2, 1) := by decide +kernel
theorem dX5_ink_44 : decode cX5_ink 44 = .ok (.goto 4, 3) := by decide +kernel
theorem dX5_ink_47 : decode cX5_ink 47 = .ok (.iconst 0, 1) := by decide +kernel
theorem dX5_ink_48 : decode cX5_ink 48 = .ok (.putfield 62, 3) := by decide +kernel
theorem dX5_ink_51 : decode cX5_ink 51 = .ok (.aload_n 0, 1) := by decide +kernel
theorem dX5_ink_52 : decode cX5_ink 52 = .ok (.getfield 62, 3) := by decide +kernel
theorem dX5_ink_55 : decode cX5_ink 55 = .ok (.ifCond .le 5, 3) := by decide +kernel
theorem dX5_ink_58 : decode cX5_ink 58 = .ok (.iconst 0, 1) := by decide +kernel
theorem dX5_ink_59 : decode cX5_ink 59 = .ok (.ireturn, 1) := by decide +kernel
theorem dX5_ink_60 : decode cX5_ink 60 = .ok (.aload_n 0, 1) := by decide +kernel
theorem dX5_ink_61 : decode cX5_ink 61 = .ok (.getfield 13, 3) := by decide +kernel
theorem dX5_ink_64 : decode cX5_ink 64 = .ok (.iconst 4, 1) := by decide +kernel
theorem dX5_ink_65 : decode cX5_ink 65 = .ok (.aload_n 0, 1) := by decide +kernel
theorem dX5_ink_66 : decode cX5_ink 66 = .ok (.getfield 7, 3) := by decide +kernel
theorem dX5_ink_69 : decode cX5_ink 69 = .ok (.imul, 1) := by decide +kernel
theorem dX5_ink_70 : decode cX5_ink 70 = .ok (.iload_n 1, 1) := by decide +kernel
theorem dX5_ink_71 : decode cX5_ink 71 = .ok (.iastore, 1) := by decide +kernel
theorem dX5_ink_72 : decode cX5_ink 72 = .ok (.aload_n 0, 1) := by decide +kernel
theorem dX5_ink_73 : decode cX5_ink 73 = .ok (.getfield 13, 3) := by decide +kernel
theorem dX5_ink_76 : decode cX5_ink 76 = .ok (.iconst 4, 1) := by decide +kernel
theorem dX5_ink_77 : decode cX5_ink 77 = .ok (.aload_n 0, 1) := by decide +kernel
theorem dX5_ink_78 : decode cX5_ink 78 = .ok (.getfield 7, 3) := by decide +kernel
theorem dX5_ink_81 : decode cX5_ink 81 = .ok (.imul, 1) := by decide +kernel
theorem dX5_ink_82 : decode cX5_ink 82 = .ok (.iconst 1, 1) := by decide +kernel
theorem dX5_ink_83 : decode cX5_ink 83 = .ok (.iadd, 1) := by decide +kernel
theorem dX5_ink_84 : decode cX5_ink 84 = .ok (.iload_n 2, 1) := by decide +kernel
theorem dX5_ink_85 : decode cX5_ink 85 = .ok (.iastore, 1) := by decide +kernel
theorem dX5_ink_86 : decode cX5_ink 86 = .ok (.aload_n 0, 1) := by decide +kernel
theorem dX5_ink_87 : decode cX5_ink 87 = .ok (.getfield 13, 3) := by decide +kernel
theorem dX5_ink_90 : decode cX5_ink 90 = .ok (.iconst 4, 1) := by decide +kernel
theorem dX5_ink_91 : decode cX5_ink 91 = .ok (.aload_n 0, 1) := by decide +kernel
theorem dX5_ink_92 : decode cX5_ink 92 = .ok (.getfield 7, 3) := by decide +kernel
theorem dX5_ink_95 : decode cX5_ink 95 = .ok (.imul, 1) := by decide +kernel
theorem dX5_ink_96 : decode cX5_ink 96 = .ok (.iconst 2, 1) := by decide +kernel
theorem dX5_ink_97 : decode cX5_ink 97 = .ok (.iadd, 1) := by decide +kernel
theorem dX5_ink_98 : decode cX5_ink 98 = .ok (.iload_n 3, 1) := by decide +kernel
theorem dX5_ink_99 : decode cX5_ink 99 = .ok (.iastore, 1) := by decide +kernel
theorem dX5_ink_100 : decode cX5_ink 100 = .ok (.aload_n 0, 1) := by decide +kernel
theorem dX5_ink_101 : decode cX5_ink 101 = .ok (.getfield 13, 3) := by decide +kernel
theorem dX5_ink_104 : decode cX5_ink 104 = .ok (.iconst 4, 1) := by decide +kernel
theorem dX5_ink_105 : decode cX5_ink 105 = .ok (.aload_n 0, 1) := by decide +kernel
theorem dX5_ink_106 : decode cX5_ink 106 = .ok (.getfield 7, 3) := by decide +kernel
theorem dX5_ink_109 : decode cX5_ink 109 = .ok (.imul, 1) := by decide +kernel
theorem dX5_ink_110 : decode cX5_ink 110 = .ok (.iconst 3, 1) := by decide +kernel
theorem dX5_ink_111 : decode cX5_ink 111 = .ok (.iadd, 1) := by decide +kernel
theorem dX5_ink_112 : decode cX5_ink 112 = .ok (.iload 4, 2) := by decide +kernel
theorem dX5_ink_114 : decode cX5_ink 114 = .ok (.iastore, 1) := by decide +kernel
theorem dX5_ink_115 : decode cX5_ink 115 = .ok (.aload_n 0, 1) := by decide +kernel
theorem dX5_ink_116 : decode cX5_ink 116 = .ok (.dup, 1) := by decide +kernel
theorem dX5_ink_117 : decode cX5_ink 117 = .ok (.getfield 7, 3) := by decide +kernel
theorem dX5_ink_120 : decode cX5_ink 120 = .ok (.iconst 1, 1) := by decide +kernel
theorem dX5_ink_121 : decode cX5_ink 121 = .ok (.iadd, 1) := by decide +kernel
theorem dX5_ink_122 : decode cX5_ink 122 = .ok (.putfield 7, 3) := by decide +kernel
theorem dX5_ink_125 : decode cX5_ink 125 = .ok (.aload_n 0, 1) := by decide +kernel
theorem dX5_ink_126 : decode cX5_ink 126 = .ok (.getfield 7, 3) := by decide +kernel
theorem dX5_ink_129 : decode cX5_ink 129 = .ok (.iconst 1, 1) := by decide +kernel
theorem dX5_ink_130 : decode cX5_ink 130 = .ok (.isub, 1) := by decide +kernel
theorem dX5_ink_131 : decode cX5_ink 131 = .ok (.ireturn, 1) := by decide +kernel
theorem dX5_colour_0 : decode cX5_colour 0 = .ok (.aload_n 0, 1) := by decide +kernel
theorem dX5_colour_1 : decode cX5_colour 1 = .ok (.iload_n 2, 1) := by decide +kernel
theorem dX5_colour_2 : decode cX5_colour 2 = .ok (.iconst (-1), 1) := by decide +kernel
theorem dX5_colour_3 : decode cX5_colour 3 = .ok (.if_icmp .lt 10, 3) := by decide +kernel
theorem dX5_colour_6 : decode cX5_colour 6 = .ok (.iload_n 2, 1) := by decide +kernel
theorem dX5_colour_7 : decode cX5_colour 7 = .ok (.sipush 255, 3) := by decide +kernel
theorem dX5_colour_10 : decode cX5_colour 10 = .ok (.if_icmp .le 7, 3) := by decide +kernel
theorem dX5_colour_13 : decode cX5_colour 13 = .ok (.iconst 1, 1) := by decide +kernel
theorem dX5_colour_14 : decode cX5_colour 14 = .ok (.goto 16, 3) := by decide +kernel
theorem dX5_colour_17 : decode cX5_colour 17 = .ok (.aload_n 0, 1) := by decide +kernel
theorem dX5_colour_18 : decode cX5_colour 18 = .ok (.iload_n 1, 1) := by decide +kernel
theorem dX5_colour_19 : decode cX5_colour 19 = .ok (.invokevirtual 69, 3) := by decide +kernel
theorem dX5_colour_22 : decode cX5_colour 22 = .ok (.ifCond .ne 7, 3) := by decide +kernel
theorem dX5_colour_25 : decode cX5_colour 25 = .ok (.iconst 2, 1) := by decide +kernel
theorem dX5_colour_26 : decode cX5_colour 26 = .ok (.goto 4, 3) := by decide +kernel
theorem dX5_colour_29 : decode cX5_colour 29 = .ok (.iconst 0, 1) := by decide +kernel
theorem dX5_colour_30 : decode cX5_colour 30 = .ok (.putfield 62, 3) := by decide +kernel
theorem dX5_colour_33 : decode cX5_colour 33 = .ok (.aload_n 0, 1) := by decide +kernel
theorem dX5_colour_34 : decode cX5_colour 34 = .ok (.getfield 62, 3) := by decide +kernel
theorem dX5_colour_37 : decode cX5_colour 37 = .ok (.ifCond .ne 10, 3) := by decide +kernel
theorem dX5_colour_40 : decode cX5_colour 40 = .ok (.aload_n 0, 1) := by decide +kernel
theorem dX5_colour_41 : decode cX5_colour 41 = .ok (.getfield 20, 3) := by decide +kernel
theorem dX5_colour_44 : decode cX5_colour 44 = .ok (.iload_n 1, 1) := by decide +kernel
theorem dX5_colour_45 : decode cX5_colour 45 = .ok (.iload_n 2, 1) := by decide +kernel
theorem dX5_colour_46 : decode cX5_colour 46 = .ok (.iastore, 1) := by decide +kernel
theorem dX5_colour_47 : decode cX5_colour 47 = .ok (.return_, 1) := by decide +kernel
theorem dX5_less_0 : decode cX5_less 0 = .ok (.iload_n 0, 1) := by decide +kernel
theorem dX5_less_1 : decode cX5_less 1 = .ok (.iload_n 1, 1) := by decide +kernel
theorem dX5_less_2 : decode cX5_less 2 = .ok (.if_icmp .ge 7, 3) := by decide +kernel
theorem dX5_less_5 : decode cX5_less 5 = .ok (.iload_n 0, 1) := by decide +kernel
theorem dX5_less_6 : decode cX5_less 6 = .ok (.goto 4, 3) := by decide +kernel
theorem dX5_less_9 : decode cX5_less 9 = .ok (.iload_n 1, 1) := by decide +kernel
theorem dX5_less_10 : decode cX5_less 10 = .ok (.ireturn, 1) := by decide +kernel
theorem dX5_more_0 : decode cX5_more 0 = .ok (.iload_n 0, 1) := by decide +kernel
theorem dX5_more_1 : decode cX5_more 1 = .ok (.iload_n 1, 1) := by decide +kernel
theorem dX5_more_2 : decode cX5_more 2 = .ok (.if_icmp .le 7, 3) := by decide +kernel
theorem dX5_more_5 : decode cX5_more 5 = .ok (.iload_n 0, 1) := by decide +kernel
theorem dX5_more_6 : decode cX5_more 6 = .ok (.goto 4, 3) := by decide +kernel
theorem dX5_more_9 : decode cX5_more 9 = .ok (.iload_n 1, 1) := by decide +kernel
theorem dX5_more_10 : decode cX5_more 10 = .ok (.ireturn, 1) := by decide +kernel
theorem dX5_sumAt_0 : decode cX5_sumAt 0 = .ok (.iconst 0, 1) := by decide +kernel
theorem dX5_sumAt_1 : decode cX5_sumAt 1 = .ok (.istore_n 2, 1) := by decide +kernel
theorem dX5_sumAt_2 : decode cX5_sumAt 2 = .ok (.iconst 0, 1) := by decide +kernel
theorem dX5_sumAt_3 : decode cX5_sumAt 3 = .ok (.istore_n 3, 1) := by decide +kernel
theorem dX5_sumAt_4 : decode cX5_sumAt 4 = .ok (.iload_n 3, 1) := by decide +kernel
theorem dX5_sumAt_5 : decode cX5_sumAt 5 = .ok (.bipush 8, 2) := by decide +kernel
theorem dX5_sumAt_7 : decode cX5_sumAt 7 = .ok (.if_icmp .ge 23, 3) := by decide +kernel
theorem dX5_sumAt_10 : decode cX5_sumAt 10 = .ok (.iload_n 2, 1) := by decide +kernel
theorem dX5_sumAt_11 : decode cX5_sumAt 11 = .ok (.aload_n 0, 1) := by decide +kernel
theorem dX5_sumAt_12 : decode cX5_sumAt 12 = .ok (.getfield 17, 3) := by decide +kernel
theorem dX5_sumAt_15 : decode cX5_sumAt 15 = .ok (.bipush 8, 2) := by decide +kernel
theorem dX5_sumAt_17 : decode cX5_sumAt 17 = .ok (.iload_n 1, 1) := by decide +kernel
theorem dX5_sumAt_18 : decode cX5_sumAt 18 = .ok (.imul, 1) := by decide +kernel
theorem dX5_sumAt_19 : decode cX5_sumAt 19 = .ok (.iload_n 3, 1) := by decide +kernel
theorem dX5_sumAt_20 : decode cX5_sumAt 20 = .ok (.iadd, 1) := by decide +kernel
theorem dX5_sumAt_21 : decode cX5_sumAt 21 = .ok (.iaload, 1) := by decide +kernel
theorem dX5_sumAt_22 : decode cX5_sumAt 22 = .ok (.iadd, 1) := by decide +kernel
theorem dX5_sumAt_23 : decode cX5_sumAt 23 = .ok (.istore_n 2, 1) := by decide +kernel
theorem dX5_sumAt_24 : decode cX5_sumAt 24 = .ok (.iinc 3 1, 3) := by decide +kernel
theorem dX5_sumAt_27 : decode cX5_sumAt 27 = .ok (.goto (-23), 3) := by decide +kernel
theorem dX5_sumAt_30 : decode cX5_sumAt 30 = .ok (.iload_n 2, 1) := by decide +kernel
theorem dX5_sumAt_31 : decode cX5_sumAt 31 = .ok (.ireturn, 1) := by decide +kernel
theorem dX5_bind_0 : decode cX5_bind 0 = .ok (.aload_n 0, 1) := by decide +kernel
theorem dX5_bind_1 : decode cX5_bind 1 = .ok (.iload_n 1, 1) := by decide +kernel
theorem dX5_bind_2 : decode cX5_bind 2 = .ok (.invokevirtual 72, 3) := by decide +kernel
theorem dX5_bind_5 : decode cX5_bind 5 = .ok (.istore_n 2, 1) := by decide +kernel
theorem dX5_bind_6 : decode cX5_bind 6 = .ok (.iload_n 2, 1) := by decide +kernel
theorem dX5_bind_7 : decode cX5_bind 7 = .ok (.aload_n 0, 1) := by decide +kernel
theorem dX5_bind_8 : decode cX5_bind 8 = .ok (.getfield 23, 3) := by decide +kernel
theorem dX5_bind_11 : decode cX5_bind 11 = .ok (.if_icmp .gt 4, 3) := by decide +kernel
theorem dX5_bind_14 : decode cX5_bind 14 = .ok (.return_, 1) := by decide +kernel
theorem dX5_bind_15 : decode cX5_bind 15 = .ok (.bipush 8, 2) := by decide +kernel
theorem dX5_bind_17 : decode cX5_bind 17 = .ok (.iload_n 1, 1) := by decide +kernel
theorem dX5_bind_18 : decode cX5_bind 18 = .ok (.imul, 1) := by decide +kernel
theorem dX5_bind_19 : decode cX5_bind 19 = .ok (.istore_n 3, 1) := by decide +kernel
theorem dX5_bind_20 : decode cX5_bind 20 = .ok (.iload_n 2, 1) := by decide +kernel
theorem dX5_bind_21 : decode cX5_bind 21 = .ok (.aload_n 0, 1) := by decide +kernel
theorem dX5_bind_22 : decode cX5_bind 22 = .ok (.getfield 23, 3) := by decide +kernel
theorem dX5_bind_25 : decode cX5_bind 25 = .ok (.isub, 1) := by decide +kernel
theorem dX5_bind_26 : decode cX5_bind 26 = .ok (.iconst 1, 1) := by decide +kernel
theorem dX5_bind_27 : decode cX5_bind 27 = .ok (.iadd, 1) := by decide +kernel
theorem dX5_bind_28 : decode cX5_bind 28 = .ok (.iconst 2, 1) := by decide +kernel
theorem dX5_bind_29 : decode cX5_bind 29 = .ok (.idiv, 1) := by decide +kernel
theorem dX5_bind_30 : decode cX5_bind 30 = .ok (.aload_n 0, 1) := by decide +kernel
theorem dX5_bind_31 : decode cX5_bind 31 = .ok (.getfield 17, 3) := by decide +kernel
theorem dX5_bind_34 : decode cX5_bind 34 = .ok (.iload_n 3, 1) := by decide +kernel
theorem dX5_bind_35 : decode cX5_bind 35 = .ok (.iaload, 1) := by decide +kernel
theorem dX5_bind_36 : decode cX5_bind 36 = .ok (.aload_n 0, 1) := by decide +kernel
theorem dX5_bind_37 : decode cX5_bind 37 = .ok (.getfield 17, 3) := by decide +kernel
theorem dX5_bind_40 : decode cX5_bind 40 = .ok (.iload_n 3, 1) := by decide +kernel
theorem dX5_bind_41 : decode cX5_bind 41 = .ok (.iconst 1, 1) := by decide +kernel
theorem dX5_bind_42 : decode cX5_bind 42 = .ok (.iadd, 1) := by decide +kernel
theorem dX5_bind_43 : decode cX5_bind 43 = .ok (.iaload, 1) := by decide +kernel
theorem dX5_bind_44 : decode cX5_bind 44 = .ok (.aload_n 0, 1) := by decide +kernel
theorem dX5_bind_45 : decode cX5_bind 45 = .ok (.getfield 17, 3) := by decide +kernel
theorem dX5_bind_48 : decode cX5_bind 48 = .ok (.iload_n 3, 1) := by decide +kernel
theorem dX5_bind_49 : decode cX5_bind 49 = .ok (.iconst 2, 1) := by decide +kernel
theorem dX5_bind_50 : decode cX5_bind 50 = .ok (.iadd, 1) := by decide +kernel
theorem dX5_bind_51 : decode cX5_bind 51 = .ok (.iaload, 1) := by decide +kernel
theorem dX5_bind_52 : decode cX5_bind 52 = .ok (.sipush 255, 3) := by decide +kernel
theorem dX5_bind_55 : decode cX5_bind 55 = .ok (.aload_n 0, 1) := by decide +kernel
theorem dX5_bind_56 : decode cX5_bind 56 = .ok (.getfield 17, 3) := by decide +kernel
theorem dX5_bind_59 : decode cX5_bind 59 = .ok (.iload_n 3, 1) := by decide +kernel
theorem dX5_bind_60 : decode cX5_bind 60 = .ok (.iconst 3, 1) := by decide +kernel
theorem dX5_bind_61 : decode cX5_bind 61 = .ok (.iadd, 1) := by decide +kernel
theorem dX5_bind_62 : decode cX5_bind 62 = .ok (.iaload, 1) := by decide +kernel
theorem dX5_bind_63 : decode cX5_bind 63 = .ok (.isub, 1) := by decide +kernel
theorem dX5_bind_64 : decode cX5_bind 64 = .ok (.invokestatic 76, 3) := by decide +kernel
theorem dX5_bind_67 : decode cX5_bind 67 = .ok (.invokestatic 76, 3) := by decide +kernel
theorem dX5_bind_70 : decode cX5_bind 70 = .ok (.invokestatic 76, 3) := by decide +kernel
theorem dX5_bind_73 : decode cX5_bind 73 = .ok (.invokestatic 76, 3) := by decide +kernel
theorem dX5_bind_76 : decode cX5_bind 76 = .ok (.istore 4, 2) := by decide +kernel
theorem dX5_bind_78 : decode cX5_bind 78 = .ok (.iconst 0, 1) := by decide +kernel
theorem dX5_bind_79 : decode cX5_bind 79 = .ok (.istore 5, 2) := by decide +kernel
theorem dX5_bind_81 : decode cX5_bind 81 = .ok (.iload 5, 2) := by decide +kernel
theorem dX5_bind_83 : decode cX5_bind 83 = .ok (.iconst 3, 1) := by decide +kernel
theorem dX5_bind_84 : decode cX5_bind 84 = .ok (.if_icmp .ge 30, 3) := by decide +kernel
theorem dX5_bind_87 : decode cX5_bind 87 = .ok (.aload_n 0, 1) := by decide +kernel
theorem dX5_bind_88 : decode cX5_bind 88 = .ok (.getfield 17, 3) := by decide +kernel
theorem dX5_bind_91 : decode cX5_bind 91 = .ok (.iload_n 3, 1) := by decide +kernel
theorem dX5_bind_92 : decode cX5_bind 92 = .ok (.iload 5, 2) := by decide +kernel
theorem dX5_bind_94 : decode cX5_bind 94 = .ok (.iadd, 1) := by decide +kernel
theorem dX5_bind_95 : decode cX5_bind 95 = .ok (.aload_n 0, 1) := by decide +kernel
theorem dX5_bind_96 : decode cX5_bind 96 = .ok (.getfield 17, 3) := by decide +kernel
theorem dX5_bind_99 : decode cX5_bind 99 = .ok (.iload_n 3, 1) := by decide +kernel
theorem dX5_bind_100 : decode cX5_bind 100 = .ok (.iload 5, 2) := by decide +kernel
theorem dX5_bind_102 : decode cX5_bind 102 = .ok (.iadd, 1) := by decide +kernel
theorem dX5_bind_103 : decode cX5_bind 103 = .ok (.iaload, 1) := by decide +kernel
theorem dX5_bind_104 : decode cX5_bind 104 = .ok (.iload 4, 2) := by decide +kernel
theorem dX5_bind_106 : decode cX5_bind 106 = .ok (.isub, 1) := by decide +kernel
theorem dX5_bind_107 : decode cX5_bind 107 = .ok (.iastore, 1) := by decide +kernel
theorem dX5_bind_108 : decode cX5_bind 108 = .ok (.iinc 5 1, 3) := by decide +kernel
theorem dX5_bind_111 : decode cX5_bind 111 = .ok (.goto (-30), 3) := by decide +kernel
theorem dX5_bind_114 : decode cX5_bind 114 = .ok (.aload_n 0, 1) := by decide +kernel
theorem dX5_bind_115 : decode cX5_bind 115 = .ok (.getfield 17, 3) := by decide +kernel
theorem dX5_bind_118 : decode cX5_bind 118 = .ok (.iload_n 3, 1) := by decide +kernel
theorem dX5_bind_119 : decode cX5_bind 119 = .ok (.iconst 3, 1) := by decide +kernel
theorem dX5_bind_120 : decode cX5_bind 120 = .ok (.iadd, 1) := by decide +kernel
theorem dX5_bind_121 : decode cX5_bind 121 = .ok (.aload_n 0, 1) := by decide +kernel
theorem dX5_bind_122 : decode cX5_bind 122 = .ok (.getfield 17, 3) := by decide +kernel
theorem dX5_bind_125 : decode cX5_bind 125 = .ok (.iload_n 3, 1) := by decide +kernel
theorem dX5_bind_126 : decode cX5_bind 126 = .ok (.iconst 3, 1) := by decide +kernel
theorem dX5_bind_127 : decode cX5_bind 127 = .ok (.iadd, 1) := by decide +kernel
theorem dX5_bind_128 : decode cX5_bind 128 = .ok (.iaload, 1) := by decide +kernel
theorem dX5_bind_129 : decode cX5_bind 129 = .ok (.iload 4, 2) := by decide +kernel
theorem dX5_bind_131 : decode cX5_bind 131 = .ok (.iadd, 1) := by decide +kernel
theorem dX5_bind_132 : decode cX5_bind 132 = .ok (.iastore, 1) := by decide +kernel
theorem dX5_bind_133 : decode cX5_bind 133 = .ok (.aload_n 0, 1) := by decide +kernel
theorem dX5_bind_134 : decode cX5_bind 134 = .ok (.iload_n 1, 1) := by decide +kernel
theorem dX5_bind_135 : decode cX5_bind 135 = .ok (.invokevirtual 72, 3) := by decide +kernel
theorem dX5_bind_138 : decode cX5_bind 138 = .ok (.istore_n 2, 1) := by decide +kernel
theorem dX5_bind_139 : decode cX5_bind 139 = .ok (.iload_n 2, 1) := by decide +kernel
theorem dX5_bind_140 : decode cX5_bind 140 = .ok (.aload_n 0, 1) := by decide +kernel
theorem dX5_bind_141 : decode cX5_bind 141 = .ok (.getfield 23, 3) := by decide +kernel
theorem dX5_bind_144 : decode cX5_bind 144 = .ok (.if_icmp .gt 4, 3) := by decide +kernel
theorem dX5_bind_147 : decode cX5_bind 147 = .ok (.return_, 1) := by decide +kernel
theorem dX5_bind_148 : decode cX5_bind 148 = .ok (.aload_n 0, 1) := by decide +kernel
theorem dX5_bind_149 : decode cX5_bind 149 = .ok (.getfield 17, 3) := by decide +kernel
theorem dX5_bind_152 : decode cX5_bind 152 = .ok (.iload_n 3, 1) := by decide +kernel
theorem dX5_bind_153 : decode cX5_bind 153 = .ok (.iconst 3, 1) := by decide +kernel
theorem dX5_bind_154 : decode cX5_bind 154 = .ok (.iadd, 1) := by decide +kernel
theorem dX5_bind_155 : decode cX5_bind 155 = .ok (.iaload, 1) := by decide +kernel
theorem dX5_bind_156 : decode cX5_bind 156 = .ok (.istore 5, 2) := by decide +kernel
theorem dX5_bind_158 : decode cX5_bind 158 = .ok (.aload_n 0, 1) := by decide +kernel
theorem dX5_bind_159 : decode cX5_bind 159 = .ok (.getfield 23, 3) := by decide +kernel
theorem dX5_bind_162 : decode cX5_bind 162 = .ok (.iload 5, 2) := by decide +kernel
theorem dX5_bind_164 : decode cX5_bind 164 = .ok (.isub, 1) := by decide +kernel
theorem dX5_bind_165 : decode cX5_bind 165 = .ok (.iconst 0, 1) := by decide +kernel
theorem dX5_bind_166 : decode cX5_bind 166 = .ok (.invokestatic 80, 3) := by decide +kernel
theorem dX5_bind_169 : decode cX5_bind 169 = .ok (.istore 6, 2) := by decide +kernel
theorem dX5_bind_171 : decode cX5_bind 171 = .ok (.iconst 0, 1) := by decide +kernel
theorem dX5_bind_172 : decode cX5_bind 172 = .ok (.istore 7, 2) := by decide +kernel
theorem dX5_bind_174 : decode cX5_bind 174 = .ok (.iload 7, 2) := by decide +kernel
theorem dX5_bind_176 : decode cX5_bind 176 = .ok (.bipush 8, 2) := by decide +kernel
theorem dX5_bind_178 : decode cX5_bind 178 = .ok (.if_icmp .ge 65, 3) := by decide +kernel
theorem dX5_bind_181 : decode cX5_bind 181 = .ok (.aload_n 0, 1) := by decide +kernel
theorem dX5_bind_182 : decode cX5_bind 182 = .ok (.getfield 17, 3) := by decide +kernel
theorem dX5_bind_185 : decode cX5_bind 185 = .ok (.iload_n 3, 1) := by decide +kernel
theorem dX5_bind_186 : decode cX5_bind 186 = .ok (.iload 7, 2) := by decide +kernel
theorem dX5_bind_188 : decode cX5_bind 188 = .ok (.iadd, 1) := by decide +kernel
theorem dX5_bind_189 : decode cX5_bind 189 = .ok (.iload 7, 2) := by decide +kernel
theorem dX5_bind_191 : decode cX5_bind 191 = .ok (.iconst 3, 1) := by decide +kernel
theorem dX5_bind_192 : decode cX5_bind 192 = .ok (.if_icmp .eq 15, 3) := by decide +kernel
theorem dX5_bind_195 : decode cX5_bind 195 = .ok (.aload_n 0, 1) := by decide +kernel
theorem dX5_bind_196 : decode cX5_bind 196 = .ok (.getfield 17, 3) := by decide +kernel
theorem dX5_bind_199 : decode cX5_bind 199 = .ok (.iload_n 3, 1) := by decide +kernel
theorem dX5_bind_200 : decode cX5_bind 200 = .ok (.iload 7, 2) := by decide +kernel
theorem dX5_bind_202 : decode cX5_bind 202 = .ok (.iadd, 1) := by decide +kernel
theorem dX5_bind_203 : decode cX5_bind 203 = .ok (.iaload, 1) := by decide +kernel
theorem dX5_bind_204 : decode cX5_bind 204 = .ok (.ifCond .ne 15, 3) := by decide +kernel
theorem dX5_bind_207 : decode cX5_bind 207 = .ok (.aload_n 0, 1) := by decide +kernel
theorem dX5_bind_208 : decode cX5_bind 208 = .ok (.getfield 17, 3) := by decide +kernel
theorem dX5_bind_211 : decode cX5_bind 211 = .ok (.iload_n 3, 1) := by decide +kernel
theorem dX5_bind_212 : decode cX5_bind 212 = .ok (.iload 7, 2) := by decide +kernel
theorem dX5_bind_214 : decode cX5_bind 214 = .ok (.iadd, 1) := by decide +kernel
theorem dX5_bind_215 : decode cX5_bind 215 = .ok (.iaload, 1) := by decide +kernel
theorem dX5_bind_216 : decode cX5_bind 216 = .ok (.goto 20, 3) := by decide +kernel
theorem dX5_bind_219 : decode cX5_bind 219 = .ok (.aload_n 0, 1) := by decide +kernel
theorem dX5_bind_220 : decode cX5_bind 220 = .ok (.getfield 17, 3) := by decide +kernel
theorem dX5_bind_223 : decode cX5_bind 223 = .ok (.iload_n 3, 1) := by decide +kernel
theorem dX5_bind_224 : decode cX5_bind 224 = .ok (.iload 7, 2) := by decide +kernel
theorem dX5_bind_226 : decode cX5_bind 226 = .ok (.iadd, 1) := by decide +kernel
theorem dX5_bind_227 : decode cX5_bind 227 = .ok (.iaload, 1) := by decide +kernel
theorem dX5_bind_228 : decode cX5_bind 228 = .ok (.iload 6, 2) := by decide +kernel
theorem dX5_bind_230 : decode cX5_bind 230 = .ok (.imul, 1) := by decide +kernel
theorem dX5_bind_231 : decode cX5_bind 231 = .ok (.iload_n 2, 1) := by decide +kernel
theorem dX5_bind_232 : decode cX5_bind 232 = .ok (.iload 5, 2) := by decide +kernel
theorem dX5_bind_234 : decode cX5_bind 234 = .ok (.isub, 1) := by decide +kernel
theorem dX5_bind_235 : decode cX5_bind 235 = .ok (.idiv, 1) := by decide +kernel
theorem dX5_bind_236 : decode cX5_bind 236 = .ok (.iastore, 1) := by decide +kernel
theorem dX5_bind_237 : decode cX5_bind 237 = .ok (.iinc 7 1, 3) := by decide +kernel
theorem dX5_bind_240 : decode cX5_bind 240 = .ok (.goto (-66), 3) := by decide +kernel
theorem dX5_bind_243 : decode cX5_bind 243 = .ok (.aload_n 0, 1) := by decide +kernel
theorem dX5_bind_244 : decode cX5_bind 244 = .ok (.getfield 17, 3) := by decide +kernel
theorem dX5_bind_247 : decode cX5_bind 247 = .ok (.iload_n 3, 1) := by decide +kernel
theorem dX5_bind_248 : decode cX5_bind 248 = .ok (.iconst 3, 1) := by decide +kernel
theorem dX5_bind_249 : decode cX5_bind 249 = .ok (.iadd, 1) := by decide +kernel
theorem dX5_bind_250 : decode cX5_bind 250 = .ok (.iload 5, 2) := by decide +kernel
theorem dX5_bind_252 : decode cX5_bind 252 = .ok (.aload_n 0, 1) := by decide +kernel
theorem dX5_bind_253 : decode cX5_bind 253 = .ok (.getfield 23, 3) := by decide +kernel
theorem dX5_bind_256 : decode cX5_bind 256 = .ok (.invokestatic 76, 3) := by decide +kernel
theorem dX5_bind_259 : decode cX5_bind 259 = .ok (.iastore, 1) := by decide +kernel
theorem dX5_bind_260 : decode cX5_bind 260 = .ok (.return_, 1) := by decide +kernel
theorem dX5_paint_0 : decode cX5_paint 0 = .ok (.aload_n 0, 1) := by decide +kernel
theorem dX5_paint_1 : decode cX5_paint 1 = .ok (.iconst 0, 1) := by decide +kernel
theorem dX5_paint_2 : decode cX5_paint 2 = .ok (.putfield 62, 3) := by decide +kernel
theorem dX5_paint_5 : decode cX5_paint 5 = .ok (.iconst 0, 1) := by decide +kernel
theorem dX5_paint_6 : decode cX5_paint 6 = .ok (.istore 6, 2) := by decide +kernel
theorem dX5_paint_8 : decode cX5_paint 8 = .ok (.iconst 0, 1) := by decide +kernel
theorem dX5_paint_9 : decode cX5_paint 9 = .ok (.istore 7, 2) := by decide +kernel
theorem dX5_paint_11 : decode cX5_paint 11 = .ok (.iload 7, 2) := by decide +kernel
theorem dX5_paint_13 : decode cX5_paint 13 = .ok (.aload_n 0, 1) := by decide +kernel
theorem dX5_paint_14 : decode cX5_paint 14 = .ok (.getfield 59, 3) := by decide +kernel
theorem dX5_paint_17 : decode cX5_paint 17 = .ok (.if_icmp .ge 149, 3) := by decide +kernel
theorem dX5_paint_20 : decode cX5_paint 20 = .ok (.iconst 0, 1) := by decide +kernel
theorem dX5_paint_21 : decode cX5_paint 21 = .ok (.istore 8, 2) := by decide +kernel
theorem dX5_paint_23 : decode cX5_paint 23 = .ok (.iload 8, 2) := by decide +kernel
theorem dX5_paint_25 : decode cX5_paint 25 = .ok (.aload_n 0, 1) := by decide +kernel
theorem dX5_paint_26 : decode cX5_paint 26 = .ok (.getfield 56, 3) := by decide +kernel
theorem dX5_paint_29 : decode cX5_paint 29 = .ok (.if_icmp .ge 131, 3) := by decide +kernel
theorem dX5_paint_32 : decode cX5_paint 32 = .ok (.iload 8, 2) := by decide +kernel
theorem dX5_paint_34 : decode cX5_paint 34 = .ok (.iload_n 1, 1) := by decide +kernel
theorem dX5_paint_35 : decode cX5_paint 35 = .ok (.if_icmp .lt 119, 3) := by decide +kernel
theorem dX5_paint_38 : decode cX5_paint 38 = .ok (.iload 8, 2) := by decide +kernel
theorem dX5_paint_40 : decode cX5_paint 40 = .ok (.iload_n 3, 1) := by decide +kernel
theorem dX5_paint_41 : decode cX5_paint 41 = .ok (.if_icmp .gt 113, 3) := by decide +kernel
theorem dX5_paint_44 : decode cX5_paint 44 = .ok (.iload 7, 2) := by decide +kernel
theorem dX5_paint_46 : decode cX5_paint 46 = .ok (.iload_n 2, 1) := by decide +kernel
theorem dX5_paint_47 : decode cX5_paint 47 = .ok (.if_icmp .lt 107, 3) := by decide +kernel
theorem dX5_paint_50 : decode cX5_paint 50 = .ok (.iload 7, 2) := by decide +kernel
theorem dX5_paint_52 : decode cX5_paint 52 = .ok (.iload 4, 2) := by decide +kernel
theorem dX5_paint_54 : decode cX5_paint 54 = .ok (.if_icmp .gt 100, 3) := by decide +kernel
theorem dX5_paint_57 : decode cX5_paint 57 = .ok (.iinc 6 1, 3) := by decide +kernel
theorem dX5_paint_60 : decode cX5_paint 60 = .ok (.bipush 16, 2) := by decide +kernel
theorem dX5_paint_62 : decode cX5_paint 62 = .ok (.iload 7, 2) := by decide +kernel
theorem dX5_paint_64 : decode cX5_paint 64 = .ok (.imul, 1) := by decide +kernel
theorem dX5_paint_65 : decode cX5_paint 65 = .ok (.iload 8, 2) := by decide +kernel
theorem dX5_paint_67 : decode cX5_paint 67 = .ok (.iadd, 1) := by decide +kernel
theorem dX5_paint_68 : decode cX5_paint 68 = .ok (.istore 9, 2) := by decide +kernel
theorem dX5_paint_70 : decode cX5_paint 70 = .ok (.iconst 0, 1) := by decide +kernel
theorem dX5_paint_71 : decode cX5_paint 71 = .ok (.istore 10, 2) := by decide +kernel
theorem dX5_paint_73 : decode cX5_paint 73 = .ok (.iload 10, 2) := by decide +kernel
theorem dX5_paint_75 : decode cX5_paint 75 = .ok (.aload_n 0, 1) := by decide +kernel
theorem dX5_paint_76 : decode cX5_paint 76 = .ok (.getfield 7, 3) := by decide +kernel
theorem dX5_paint_79 : decode cX5_paint 79 = .ok (.if_icmp .ge 69, 3) := by decide +kernel
theorem dX5_paint_82 : decode cX5_paint 82 = .ok (.iload 5, 2) := by decide +kernel
theorem dX5_paint_84 : decode cX5_paint 84 = .ok (.ifCond .eq 19, 3) := by decide +kernel
theorem dX5_paint_87 : decode cX5_paint 87 = .ok (.aload_n 0, 1) := by decide +kernel
theorem dX5_paint_88 : decode cX5_paint 88 = .ok (.getfield 17, 3) := by decide +kernel
theorem dX5_paint_91 : decode cX5_paint 91 = .ok (.bipush 8, 2) := by decide +kernel
theorem dX5_paint_93 : decode cX5_paint 93 = .ok (.iload 9, 2) := by decide +kernel
theorem dX5_paint_95 : decode cX5_paint 95 = .ok (.imul, 1) := by decide +kernel
theorem dX5_paint_96 : decode cX5_paint 96 = .ok (.iload 10, 2) := by decide +kernel
theorem dX5_paint_98 : decode cX5_paint 98 = .ok (.iadd, 1) := by decide +kernel
theorem dX5_paint_99 : decode cX5_paint 99 = .ok (.iaload, 1) := by decide +kernel
theorem dX5_paint_100 : decode cX5_paint 100 = .ok (.goto 4, 3) := by decide +kernel
theorem dX5_paint_103 : decode cX5_paint 103 = .ok (.iconst 0, 1) := by decide +kernel
theorem dX5_paint_104 : decode cX5_paint 104 = .ok (.istore 11, 2) := by decide +kernel
theorem dX5_paint_106 : decode cX5_paint 106 = .ok (.aload_n 0, 1) := by decide +kernel
theorem dX5_paint_107 : decode cX5_paint 107 = .ok (.getfield 17, 3) := by decide +kernel
theorem dX5_paint_110 : decode cX5_paint 110 = .ok (.bipush 8, 2) := by decide +kernel
theorem dX5_paint_112 : decode cX5_paint 112 = .ok (.iload 9, 2) := by decide +kernel
theorem dX5_paint_114 : decode cX5_paint 114 = .ok (.imul, 1) := by decide +kernel
theorem dX5_paint_115 : decode cX5_paint 115 = .ok (.iload 10, 2) := by decide +kernel
theorem dX5_paint_117 : decode cX5_paint 117 = .ok (.iadd, 1) := by decide +kernel
theorem dX5_paint_118 : decode cX5_paint 118 = .ok (.aload_n 0, 1) := by decide +kernel
theorem dX5_paint_119 : decode cX5_paint 119 = .ok (.getfield 20, 3) := by decide +kernel
theorem dX5_paint_122 : decode cX5_paint 122 = .ok (.iload 10, 2) := by decide +kernel
theorem dX5_paint_124 : decode cX5_paint 124 = .ok (.iaload, 1) := by decide +kernel
theorem dX5_paint_125 : decode cX5_paint 125 = .ok (.iconst (-1), 1) := by decide +kernel
theorem dX5_paint_126 : decode cX5_paint 126 = .ok (.if_icmp .ne 8, 3) := by decide +kernel
theorem dX5_paint_129 : decode cX5_paint 129 = .ok (.iload 11, 2) := by decide +kernel
theorem dX5_paint_131 : decode cX5_paint 131 = .ok (.goto 10, 3) := by decide +kernel
theorem dX5_paint_134 : decode cX5_paint 134 = .ok (.aload_n 0, 1) := by decide +kernel
theorem dX5_paint_135 : decode cX5_paint 135 = .ok (.getfield 20, 3) := by decide +kernel
theorem dX5_paint_138 : decode cX5_paint 138 = .ok (.iload 10, 2) := by decide +kernel
theorem dX5_paint_140 : decode cX5_paint 140 = .ok (.iaload, 1) := by decide +kernel
theorem dX5_paint_141 : decode cX5_paint 141 = .ok (.iastore, 1) := by decide +kernel
theorem dX5_paint_142 : decode cX5_paint 142 = .ok (.iinc 10 1, 3) := by decide +kernel
theorem dX5_paint_145 : decode cX5_paint 145 = .ok (.goto (-72), 3) := by decide +kernel
theorem dX5_paint_148 : decode cX5_paint 148 = .ok (.aload_n 0, 1) := by decide +kernel
theorem dX5_paint_149 : decode cX5_paint 149 = .ok (.iload 9, 2) := by decide +kernel
theorem dX5_paint_151 : decode cX5_paint 151 = .ok (.invokevirtual 83, 3) := by decide +kernel
theorem dX5_paint_154 : decode cX5_paint 154 = .ok (.iinc 8 1, 3) := by decide +kernel
theorem dX5_paint_157 : decode cX5_paint 157 = .ok (.goto (-134), 3) := by decide +kernel
theorem dX5_paint_160 : decode cX5_paint 160 = .ok (.iinc 7 1, 3) := by decide +kernel
theorem dX5_paint_163 : decode cX5_paint 163 = .ok (.goto (-152), 3) := by decide +kernel
theorem dX5_paint_166 : decode cX5_paint 166 = .ok (.iload 6, 2) := by decide +kernel
theorem dX5_paint_168 : decode cX5_paint 168 = .ok (.ireturn, 1) := by decide +kernel
theorem dX5_limit_0 : decode cX5_limit 0 = .ok (.aload_n 0, 1) := by decide +kernel
theorem dX5_limit_1 : decode cX5_limit 1 = .ok (.iload_n 1, 1) := by decide +kernel
theorem dX5_limit_2 : decode cX5_limit 2 = .ok (.ifCond .lt 10, 3) := by decide +kernel
theorem dX5_limit_5 : decode cX5_limit 5 = .ok (.iload_n 1, 1) := by decide +kernel
theorem dX5_limit_6 : decode cX5_limit 6 = .ok (.sipush 2040, 3) := by decide +kernel
theorem dX5_limit_9 : decode cX5_limit 9 = .ok (.if_icmp .le 7, 3) := by decide +kernel
theorem dX5_limit_12 : decode cX5_limit 12 = .ok (.iconst 1, 1) := by decide +kernel
theorem dX5_limit_13 : decode cX5_limit 13 = .ok (.goto 4, 3) := by decide +kernel
theorem dX5_limit_16 : decode cX5_limit 16 = .ok (.iconst 0, 1) := by decide +kernel
theorem dX5_limit_17 : decode cX5_limit 17 = .ok (.putfield 62, 3) := by decide +kernel
theorem dX5_limit_20 : decode cX5_limit 20 = .ok (.aload_n 0, 1) := by decide +kernel
theorem dX5_limit_21 : decode cX5_limit 21 = .ok (.getfield 23, 3) := by decide +kernel
theorem dX5_limit_24 : decode cX5_limit 24 = .ok (.istore_n 2, 1) := by decide +kernel
theorem dX5_limit_25 : decode cX5_limit 25 = .ok (.aload_n 0, 1) := by decide +kernel
theorem dX5_limit_26 : decode cX5_limit 26 = .ok (.aload_n 0, 1) := by decide +kernel
theorem dX5_limit_27 : decode cX5_limit 27 = .ok (.getfield 62, 3) := by decide +kernel
theorem dX5_limit_30 : decode cX5_limit 30 = .ok (.ifCond .le 10, 3) := by decide +kernel
theorem dX5_limit_33 : decode cX5_limit 33 = .ok (.aload_n 0, 1) := by decide +kernel
theorem dX5_limit_34 : decode cX5_limit 34 = .ok (.getfield 23, 3) := by decide +kernel
theorem dX5_limit_37 : decode cX5_limit 37 = .ok (.goto 4, 3) := by decide +kernel
theorem dX5_limit_40 : decode cX5_limit 40 = .ok (.iload_n 1, 1) := by decide +kernel
theorem dX5_limit_41 : decode cX5_limit 41 = .ok (.putfield 23, 3) := by decide +kernel
theorem dX5_limit_44 : decode cX5_limit 44 = .ok (.aload_n 0, 1) := by decide +kernel
theorem dX5_limit_45 : decode cX5_limit 45 = .ok (.getfield 62, 3) := by decide +kernel
theorem dX5_limit_48 : decode cX5_limit 48 = .ok (.ifCond .le 7, 3) := by decide +kernel
theorem dX5_limit_51 : decode cX5_limit 51 = .ok (.iconst 0, 1) := by decide +kernel
theorem dX5_limit_52 : decode cX5_limit 52 = .ok (.goto 4, 3) := by decide +kernel
theorem dX5_limit_55 : decode cX5_limit 55 = .ok (.iload_n 2, 1) := by decide +kernel
theorem dX5_limit_56 : decode cX5_limit 56 = .ok (.ireturn, 1) := by decide +kernel
theorem dX5_inkOf_0 : decode cX5_inkOf 0 = .ok (.aload_n 0, 1) := by decide +kernel
theorem dX5_inkOf_1 : decode cX5_inkOf 1 = .ok (.iload_n 1, 1) := by decide +kernel
theorem dX5_inkOf_2 : decode cX5_inkOf 2 = .ok (.iload_n 2, 1) := by decide +kernel
theorem dX5_inkOf_3 : decode cX5_inkOf 3 = .ok (.iload_n 3, 1) := by decide +kernel
theorem dX5_inkOf_4 : decode cX5_inkOf 4 = .ok (.invokevirtual 87, 3) := by decide +kernel
theorem dX5_inkOf_7 : decode cX5_inkOf 7 = .ok (.istore 5, 2) := by decide +kernel
theorem dX5_inkOf_9 : decode cX5_inkOf 9 = .ok (.iload 4, 2) := by decide +kernel
theorem dX5_inkOf_11 : decode cX5_inkOf 11 = .ok (.iconst (-1), 1) := by decide +kernel
theorem dX5_inkOf_12 : decode cX5_inkOf 12 = .ok (.if_icmp .ne 8, 3) := by decide +kernel
theorem dX5_inkOf_15 : decode cX5_inkOf 15 = .ok (.iload 5, 2) := by decide +kernel
theorem dX5_inkOf_17 : decode cX5_inkOf 17 = .ok (.goto 27, 3) := by decide +kernel
theorem dX5_inkOf_20 : decode cX5_inkOf 20 = .ok (.iload 5, 2) := by decide +kernel
theorem dX5_inkOf_22 : decode cX5_inkOf 22 = .ok (.aload_n 0, 1) := by decide +kernel
theorem dX5_inkOf_23 : decode cX5_inkOf 23 = .ok (.iload 4, 2) := by decide +kernel
theorem dX5_inkOf_25 : decode cX5_inkOf 25 = .ok (.aload_n 0, 1) := by decide +kernel
theorem dX5_inkOf_26 : decode cX5_inkOf 26 = .ok (.getfield 56, 3) := by decide +kernel
theorem dX5_inkOf_29 : decode cX5_inkOf 29 = .ok (.irem, 1) := by decide +kernel
theorem dX5_inkOf_30 : decode cX5_inkOf 30 = .ok (.iload 4, 2) := by decide +kernel
theorem dX5_inkOf_32 : decode cX5_inkOf 32 = .ok (.aload_n 0, 1) := by decide +kernel
theorem dX5_inkOf_33 : decode cX5_inkOf 33 = .ok (.getfield 56, 3) := by decide +kernel
theorem dX5_inkOf_36 : decode cX5_inkOf 36 = .ok (.idiv, 1) := by decide +kernel
theorem dX5_inkOf_37 : decode cX5_inkOf 37 = .ok (.iload_n 3, 1) := by decide +kernel
theorem dX5_inkOf_38 : decode cX5_inkOf 38 = .ok (.invokevirtual 87, 3) := by decide +kernel
theorem dX5_inkOf_41 : decode cX5_inkOf 41 = .ok (.invokestatic 80, 3) := by decide +kernel
theorem dX5_inkOf_44 : decode cX5_inkOf 44 = .ok (.ireturn, 1) := by decide +kernel
theorem dX5_bandOf_0 : decode cX5_bandOf 0 = .ok (.sipush 255, 3) := by decide +kernel
theorem dX5_bandOf_3 : decode cX5_bandOf 3 = .ok (.istore 5, 2) := by decide +kernel
theorem dX5_bandOf_5 : decode cX5_bandOf 5 = .ok (.iconst 0, 1) := by decide +kernel
theorem dX5_bandOf_6 : decode cX5_bandOf 6 = .ok (.istore 6, 2) := by decide +kernel
theorem dX5_bandOf_8 : decode cX5_bandOf 8 = .ok (.iload 6, 2) := by decide +kernel
theorem dX5_bandOf_10 : decode cX5_bandOf 10 = .ok (.aload_n 0, 1) := by decide +kernel
theorem dX5_bandOf_11 : decode cX5_bandOf 11 = .ok (.getfield 7, 3) := by decide +kernel
theorem dX5_bandOf_14 : decode cX5_bandOf 14 = .ok (.if_icmp .ge 68, 3) := by decide +kernel
theorem dX5_bandOf_17 : decode cX5_bandOf 17 = .ok (.aload_n 0, 1) := by decide +kernel
theorem dX5_bandOf_18 : decode cX5_bandOf 18 = .ok (.getfield 13, 3) := by decide +kernel
theorem dX5_bandOf_21 : decode cX5_bandOf 21 = .ok (.iconst 4, 1) := by decide +kernel
theorem dX5_bandOf_22 : decode cX5_bandOf 22 = .ok (.iload 6, 2) := by decide +kernel
theorem dX5_bandOf_24 : decode cX5_bandOf 24 = .ok (.imul, 1) := by decide +kernel
theorem dX5_bandOf_25 : decode cX5_bandOf 25 = .ok (.iload_n 3, 1) := by decide +kernel
theorem dX5_bandOf_26 : decode cX5_bandOf 26 = .ok (.iadd, 1) := by decide +kernel
theorem dX5_bandOf_27 : decode cX5_bandOf 27 = .ok (.iaload, 1) := by decide +kernel
theorem dX5_bandOf_28 : decode cX5_bandOf 28 = .ok (.aload_n 0, 1) := by decide +kernel
theorem dX5_bandOf_29 : decode cX5_bandOf 29 = .ok (.getfield 13, 3) := by decide +kernel
theorem dX5_bandOf_32 : decode cX5_bandOf 32 = .ok (.iconst 4, 1) := by decide +kernel
theorem dX5_bandOf_33 : decode cX5_bandOf 33 = .ok (.iload 6, 2) := by decide +kernel
theorem dX5_bandOf_35 : decode cX5_bandOf 35 = .ok (.imul, 1) := by decide +kernel
theorem dX5_bandOf_36 : decode cX5_bandOf 36 = .ok (.iconst 3, 1) := by decide +kernel
theorem dX5_bandOf_37 : decode cX5_bandOf 37 = .ok (.iadd, 1) := by decide +kernel
theorem dX5_bandOf_38 : decode cX5_bandOf 38 = .ok (.iaload, 1) := by decide +kernel
theorem dX5_bandOf_39 : decode cX5_bandOf 39 = .ok (.iadd, 1) := by decide +kernel
theorem dX5_bandOf_40 : decode cX5_bandOf 40 = .ok (.sipush 255, 3) := by decide +kernel
theorem dX5_bandOf_43 : decode cX5_bandOf 43 = .ok (.invokestatic 76, 3) := by decide +kernel
theorem dX5_bandOf_46 : decode cX5_bandOf 46 = .ok (.istore 7, 2) := by decide +kernel
theorem dX5_bandOf_48 : decode cX5_bandOf 48 = .ok (.iload 5, 2) := by decide +kernel
theorem dX5_bandOf_50 : decode cX5_bandOf 50 = .ok (.ldc 91, 2) := by decide +kernel
theorem dX5_bandOf_52 : decode cX5_bandOf 52 = .ok (.aload_n 0, 1) := by decide +kernel
theorem dX5_bandOf_53 : decode cX5_bandOf 53 = .ok (.iload_n 1, 1) := by decide +kernel
theorem dX5_bandOf_54 : decode cX5_bandOf 54 = .ok (.iload_n 2, 1) := by decide +kernel
theorem dX5_bandOf_55 : decode cX5_bandOf 55 = .ok (.iload 6, 2) := by decide +kernel
theorem dX5_bandOf_57 : decode cX5_bandOf 57 = .ok (.iload 4, 2) := by decide +kernel
theorem dX5_bandOf_59 : decode cX5_bandOf 59 = .ok (.invokevirtual 92, 3) := by decide +kernel
theorem dX5_bandOf_62 : decode cX5_bandOf 62 = .ok (.iload 7, 2) := by decide +kernel
theorem dX5_bandOf_64 : decode cX5_bandOf 64 = .ok (.imul, 1) := by decide +kernel
theorem dX5_bandOf_65 : decode cX5_bandOf 65 = .ok (.isub, 1) := by decide +kernel
theorem dX5_bandOf_66 : decode cX5_bandOf 66 = .ok (.imul, 1) := by decide +kernel
theorem dX5_bandOf_67 : decode cX5_bandOf 67 = .ok (.sipush 32512, 3) := by decide +kernel
theorem dX5_bandOf_70 : decode cX5_bandOf 70 = .ok (.iadd, 1) := by decide +kernel
theorem dX5_bandOf_71 : decode cX5_bandOf 71 = .ok (.ldc 91, 2) := by decide +kernel
theorem dX5_bandOf_73 : decode cX5_bandOf 73 = .ok (.idiv, 1) := by decide +kernel
theorem dX5_bandOf_74 : decode cX5_bandOf 74 = .ok (.istore 5, 2) := by decide +kernel
theorem dX5_bandOf_76 : decode cX5_bandOf 76 = .ok (.iinc 6 1, 3) := by decide +kernel
theorem dX5_bandOf_79 : decode cX5_bandOf 79 = .ok (.goto (-71), 3) := by decide +kernel
theorem dX5_bandOf_82 : decode cX5_bandOf 82 = .ok (.iload 5, 2) := by decide +kernel
theorem dX5_bandOf_84 : decode cX5_bandOf 84 = .ok (.ireturn, 1) := by decide +kernel
theorem dX5_lightness_0 : decode cX5_lightness 0 = .ok (.bipush 30, 2) := by decide +kernel
theorem dX5_lightness_2 : decode cX5_lightness 2 = .ok (.aload_n 0, 1) := by decide +kernel
theorem dX5_lightness_3 : decode cX5_lightness 3 = .ok (.iload_n 1, 1) := by decide +kernel
theorem dX5_lightness_4 : decode cX5_lightness 4 = .ok (.iload_n 2, 1) := by decide +kernel
theorem dX5_lightness_5 : decode cX5_lightness 5 = .ok (.iconst 0, 1) := by decide +kernel
theorem dX5_lightness_6 : decode cX5_lightness 6 = .ok (.iconst (-1), 1) := by decide +kernel
theorem dX5_lightness_7 : decode cX5_lightness 7 = .ok (.invokevirtual 96, 3) := by decide +kernel
theorem dX5_lightness_10 : decode cX5_lightness 10 = .ok (.imul, 1) := by decide +kernel
theorem dX5_lightness_11 : decode cX5_lightness 11 = .ok (.bipush 59, 2) := by decide +kernel
theorem dX5_lightness_13 : decode cX5_lightness 13 = .ok (.aload_n 0, 1) := by decide +kernel
theorem dX5_lightness_14 : decode cX5_lightness 14 = .ok (.iload_n 1, 1) := by decide +kernel
theorem dX5_lightness_15 : decode cX5_lightness 15 = .ok (.iload_n 2, 1) := by decide +kernel
theorem dX5_lightness_16 : decode cX5_lightness 16 = .ok (.iconst 1, 1) := by decide +kernel
theorem dX5_lightness_17 : decode cX5_lightness 17 = .ok (.iconst (-1), 1) := by decide +kernel
theorem dX5_lightness_18 : decode cX5_lightness 18 = .ok (.invokevirtual 96, 3) := by decide +kernel
theorem dX5_lightness_21 : decode cX5_lightness 21 = .ok (.imul, 1) := by decide +kernel
theorem dX5_lightness_22 : decode cX5_lightness 22 = .ok (.iadd, 1) := by decide +kernel
theorem dX5_lightness_23 : decode cX5_lightness 23 = .ok (.bipush 11, 2) := by decide +kernel
theorem dX5_lightness_25 : decode cX5_lightness 25 = .ok (.aload_n 0, 1) := by decide +kernel
theorem dX5_lightness_26 : decode cX5_lightness 26 = .ok (.iload_n 1, 1) := by decide +kernel
theorem dX5_lightness_27 : decode cX5_lightness 27 = .ok (.iload_n 2, 1) := by decide +kernel
theorem dX5_lightness_28 : decode cX5_lightness 28 = .ok (.iconst 2, 1) := by decide +kernel
theorem dX5_lightness_29 : decode cX5_lightness 29 = .ok (.iconst (-1), 1) := by decide +kernel
theorem dX5_lightness_30 : decode cX5_lightness 30 = .ok (.invokevirtual 96, 3) := by decide +kernel
theorem dX5_lightness_33 : decode cX5_lightness 33 = .ok (.imul, 1) := by decide +kernel
theorem dX5_lightness_34 : decode cX5_lightness 34 = .ok (.iadd, 1) := by decide +kernel
theorem dX5_lightness_35 : decode cX5_lightness 35 = .ok (.bipush 100, 2) := by decide +kernel
theorem dX5_lightness_37 : decode cX5_lightness 37 = .ok (.idiv, 1) := by decide +kernel
theorem dX5_lightness_38 : decode cX5_lightness 38 = .ok (.ireturn, 1) := by decide +kernel
theorem dX5_areUnlike_0 : decode cX5_areUnlike 0 = .ok (.iconst 0, 1) := by decide +kernel
theorem dX5_areUnlike_1 : decode cX5_areUnlike 1 = .ok (.istore 5, 2) := by decide +kernel
theorem dX5_areUnlike_3 : decode cX5_areUnlike 3 = .ok (.iconst 0, 1) := by decide +kernel
theorem dX5_areUnlike_4 : decode cX5_areUnlike 4 = .ok (.istore 6, 2) := by decide +kernel
theorem dX5_areUnlike_6 : decode cX5_areUnlike 6 = .ok (.iconst 0, 1) := by decide +kernel
theorem dX5_areUnlike_7 : decode cX5_areUnlike 7 = .ok (.istore 7, 2) := by decide +kernel
theorem dX5_areUnlike_9 : decode cX5_areUnlike 9 = .ok (.iconst 0, 1) := by decide +kernel
theorem dX5_areUnlike_10 : decode cX5_areUnlike 10 = .ok (.istore 8, 2) := by decide +kernel
theorem dX5_areUnlike_12 : decode cX5_areUnlike 12 = .ok (.iload 8, 2) := by decide +kernel
theorem dX5_areUnlike_14 : decode cX5_areUnlike 14 = .ok (.aload_n 0, 1) := by decide +kernel
theorem dX5_areUnlike_15 : decode cX5_areUnlike 15 = .ok (.getfield 7, 3) := by decide +kernel
theorem dX5_areUnlike_18 : decode cX5_areUnlike 18 = .ok (.if_icmp .ge 106, 3) := by decide +kernel
theorem dX5_areUnlike_21 : decode cX5_areUnlike 21 = .ok (.aload_n 0, 1) := by decide +kernel
theorem dX5_areUnlike_22 : decode cX5_areUnlike 22 = .ok (.iload_n 1, 1) := by decide +kernel
theorem dX5_areUnlike_23 : decode cX5_areUnlike 23 = .ok (.iload_n 2, 1) := by decide +kernel
theorem dX5_areUnlike_24 : decode cX5_areUnlike 24 = .ok (.iload 8, 2) := by decide +kernel
theorem dX5_areUnlike_26 : decode cX5_areUnlike 26 = .ok (.invokevirtual 87, 3) := by decide +kernel
theorem dX5_areUnlike_29 : decode cX5_areUnlike 29 = .ok (.bipush 25, 2) := by decide +kernel
theorem dX5_areUnlike_31 : decode cX5_areUnlike 31 = .ok (.if_icmp .lt 7, 3) := by decide +kernel
theorem dX5_areUnlike_34 : decode cX5_areUnlike 34 = .ok (.iconst 1, 1) := by decide +kernel
theorem dX5_areUnlike_35 : decode cX5_areUnlike 35 = .ok (.goto 4, 3) := by decide +kernel
theorem dX5_areUnlike_38 : decode cX5_areUnlike 38 = .ok (.iconst 0, 1) := by decide +kernel
theorem dX5_areUnlike_39 : decode cX5_areUnlike 39 = .ok (.istore 9, 2) := by decide +kernel
theorem dX5_areUnlike_41 : decode cX5_areUnlike 41 = .ok (.aload_n 0, 1) := by decide +kernel
theorem dX5_areUnlike_42 : decode cX5_areUnlike 42 = .ok (.iload_n 3, 1) := by decide +kernel
theorem dX5_areUnlike_43 : decode cX5_areUnlike 43 = .ok (.iload 4, 2) := by decide +kernel
theorem dX5_areUnlike_45 : decode cX5_areUnlike 45 = .ok (.iload 8, 2) := by decide +kernel
theorem dX5_areUnlike_47 : decode cX5_areUnlike 47 = .ok (.invokevirtual 87, 3) := by decide +kernel
theorem dX5_areUnlike_50 : decode cX5_areUnlike 50 = .ok (.bipush 25, 2) := by decide +kernel
theorem dX5_areUnlike_52 : decode cX5_areUnlike 52 = .ok (.if_icmp .lt 7, 3) := by decide +kernel
theorem dX5_areUnlike_55 : decode cX5_areUnlike 55 = .ok (.iconst 1, 1) := by decide +kernel
theorem dX5_areUnlike_56 : decode cX5_areUnlike 56 = .ok (.goto 4, 3) := by decide +kernel
theorem dX5_areUnlike_59 : decode cX5_areUnlike 59 = .ok (.iconst 0, 1) := by decide +kernel
theorem dX5_areUnlike_60 : decode cX5_areUnlike 60 = .ok (.istore 10, 2) := by decide +kernel
theorem dX5_areUnlike_62 : decode cX5_areUnlike 62 = .ok (.iload 5, 2) := by decide +kernel
theorem dX5_areUnlike_64 : decode cX5_areUnlike 64 = .ok (.ifCond .ne 13, 3) := by decide +kernel
theorem dX5_areUnlike_67 : decode cX5_areUnlike 67 = .ok (.iload 9, 2) := by decide +kernel
theorem dX5_areUnlike_69 : decode cX5_areUnlike 69 = .ok (.ifCond .eq 12, 3) := by decide +kernel
theorem dX5_areUnlike_72 : decode cX5_areUnlike 72 = .ok (.iload 10, 2) := by decide +kernel
theorem dX5_areUnlike_74 : decode cX5_areUnlike 74 = .ok (.ifCond .eq 7, 3) := by decide +kernel
theorem dX5_areUnlike_77 : decode cX5_areUnlike 77 = .ok (.iconst 1, 1) := by decide +kernel
theorem dX5_areUnlike_78 : decode cX5_areUnlike 78 = .ok (.goto 4, 3) := by decide +kernel
theorem dX5_areUnlike_81 : decode cX5_areUnlike 81 = .ok (.iconst 0, 1) := by decide +kernel
theorem dX5_areUnlike_82 : decode cX5_areUnlike 82 = .ok (.istore 5, 2) := by decide +kernel
theorem dX5_areUnlike_84 : decode cX5_areUnlike 84 = .ok (.iload 6, 2) := by decide +kernel
theorem dX5_areUnlike_86 : decode cX5_areUnlike 86 = .ok (.ifCond .ne 8, 3) := by decide +kernel
theorem dX5_areUnlike_89 : decode cX5_areUnlike 89 = .ok (.iload 9, 2) := by decide +kernel
theorem dX5_areUnlike_91 : decode cX5_areUnlike 91 = .ok (.ifCond .eq 7, 3) := by decide +kernel
theorem dX5_areUnlike_94 : decode cX5_areUnlike 94 = .ok (.iconst 1, 1) := by decide +kernel
theorem dX5_areUnlike_95 : decode cX5_areUnlike 95 = .ok (.goto 4, 3) := by decide +kernel
theorem dX5_areUnlike_98 : decode cX5_areUnlike 98 = .ok (.iconst 0, 1) := by decide +kernel
theorem dX5_areUnlike_99 : decode cX5_areUnlike 99 = .ok (.istore 6, 2) := by decide +kernel
theorem dX5_areUnlike_101 : decode cX5_areUnlike 101 = .ok (.iload 7, 2) := by decide +kernel
theorem dX5_areUnlike_103 : decode cX5_areUnlike 103 = .ok (.ifCond .ne 8, 3) := by decide +kernel
theorem dX5_areUnlike_106 : decode cX5_areUnlike 106 = .ok (.iload 10, 2) := by decide +kernel
theorem dX5_areUnlike_108 : decode cX5_areUnlike 108 = .ok (.ifCond .eq 7, 3) := by decide +kernel
theorem dX5_areUnlike_111 : decode cX5_areUnlike 111 = .ok (.iconst 1, 1) := by decide +kernel
theorem dX5_areUnlike_112 : decode cX5_areUnlike 112 = .ok (.goto 4, 3) := by decide +kernel
theorem dX5_areUnlike_115 : decode cX5_areUnlike 115 = .ok (.iconst 0, 1) := by decide +kernel
theorem dX5_areUnlike_116 : decode cX5_areUnlike 116 = .ok (.istore 7, 2) := by decide +kernel
theorem dX5_areUnlike_118 : decode cX5_areUnlike 118 = .ok (.iinc 8 1, 3) := by decide +kernel
theorem dX5_areUnlike_121 : decode cX5_areUnlike 121 = .ok (.goto (-109), 3) := by decide +kernel
theorem dX5_areUnlike_124 : decode cX5_areUnlike 124 = .ok (.iload 5, 2) := by decide +kernel
theorem dX5_areUnlike_126 : decode cX5_areUnlike 126 = .ok (.ifCond .ne 17, 3) := by decide +kernel
theorem dX5_areUnlike_129 : decode cX5_areUnlike 129 = .ok (.iload 6, 2) := by decide +kernel
theorem dX5_areUnlike_131 : decode cX5_areUnlike 131 = .ok (.ifCond .eq 12, 3) := by decide +kernel
theorem dX5_areUnlike_134 : decode cX5_areUnlike 134 = .ok (.iload 7, 2) := by decide +kernel
theorem dX5_areUnlike_136 : decode cX5_areUnlike 136 = .ok (.ifCond .eq 7, 3) := by decide +kernel
theorem dX5_areUnlike_139 : decode cX5_areUnlike 139 = .ok (.iconst 1, 1) := by decide +kernel
theorem dX5_areUnlike_140 : decode cX5_areUnlike 140 = .ok (.goto 4, 3) := by decide +kernel
theorem dX5_areUnlike_143 : decode cX5_areUnlike 143 = .ok (.iconst 0, 1) := by decide +kernel
theorem dX5_areUnlike_144 : decode cX5_areUnlike 144 = .ok (.ireturn, 1) := by decide +kernel
theorem dX5_lenderOf_0 : decode cX5_lenderOf 0 = .ok (.iconst (-1), 1) := by decide +kernel
theorem dX5_lenderOf_1 : decode cX5_lenderOf 1 = .ok (.istore_n 3, 1) := by decide +kernel
theorem dX5_lenderOf_2 : decode cX5_lenderOf 2 = .ok (.iconst 0, 1) := by decide +kernel
theorem dX5_lenderOf_3 : decode cX5_lenderOf 3 = .ok (.istore 4, 2) := by decide +kernel
theorem dX5_lenderOf_5 : decode cX5_lenderOf 5 = .ok (.aload_n 0, 1) := by decide +kernel
theorem dX5_lenderOf_6 : decode cX5_lenderOf 6 = .ok (.iload_n 1, 1) := by decide +kernel
theorem dX5_lenderOf_7 : decode cX5_lenderOf 7 = .ok (.iload_n 2, 1) := by decide +kernel
theorem dX5_lenderOf_8 : decode cX5_lenderOf 8 = .ok (.invokevirtual 99, 3) := by decide +kernel
theorem dX5_lenderOf_11 : decode cX5_lenderOf 11 = .ok (.istore 5, 2) := by decide +kernel
theorem dX5_lenderOf_13 : decode cX5_lenderOf 13 = .ok (.iconst 0, 1) := by decide +kernel
theorem dX5_lenderOf_14 : decode cX5_lenderOf 14 = .ok (.istore 6, 2) := by decide +kernel
theorem dX5_lenderOf_16 : decode cX5_lenderOf 16 = .ok (.iload 6, 2) := by decide +kernel
theorem dX5_lenderOf_18 : decode cX5_lenderOf 18 = .ok (.aload_n 0, 1) := by decide +kernel
theorem dX5_lenderOf_19 : decode cX5_lenderOf 19 = .ok (.getfield 59, 3) := by decide +kernel
theorem dX5_lenderOf_22 : decode cX5_lenderOf 22 = .ok (.if_icmp .ge 160, 3) := by decide +kernel
theorem dX5_lenderOf_25 : decode cX5_lenderOf 25 = .ok (.iconst 0, 1) := by decide +kernel
theorem dX5_lenderOf_26 : decode cX5_lenderOf 26 = .ok (.istore 7, 2) := by decide +kernel
theorem dX5_lenderOf_28 : decode cX5_lenderOf 28 = .ok (.iload 7, 2) := by decide +kernel
theorem dX5_lenderOf_30 : decode cX5_lenderOf 30 = .ok (.aload_n 0, 1) := by decide +kernel
theorem dX5_lenderOf_31 : decode cX5_lenderOf 31 = .ok (.getfield 56, 3) := by decide +kernel
theorem dX5_lenderOf_34 : decode cX5_lenderOf 34 = .ok (.if_icmp .ge 142, 3) := by decide +kernel
theorem dX5_lenderOf_37 : decode cX5_lenderOf 37 = .ok (.iload 7, 2) := by decide +kernel
theorem dX5_lenderOf_39 : decode cX5_lenderOf 39 = .ok (.iload_n 1, 1) := by decide +kernel
theorem dX5_lenderOf_40 : decode cX5_lenderOf 40 = .ok (.isub, 1) := by decide +kernel
theorem dX5_lenderOf_41 : decode cX5_lenderOf 41 = .ok (.istore 8, 2) := by decide +kernel
theorem dX5_lenderOf_43 : decode cX5_lenderOf 43 = .ok (.iload 6, 2) := by decide +kernel
theorem dX5_lenderOf_45 : decode cX5_lenderOf 45 = .ok (.iload_n 2, 1) := by decide +kernel
theorem dX5_lenderOf_46 : decode cX5_lenderOf 46 = .ok (.isub, 1) := by decide +kernel
theorem dX5_lenderOf_47 : decode cX5_lenderOf 47 = .ok (.istore 9, 2) := by decide +kernel
theorem dX5_lenderOf_49 : decode cX5_lenderOf 49 = .ok (.iload 8, 2) := by decide +kernel
theorem dX5_lenderOf_51 : decode cX5_lenderOf 51 = .ok (.iload 8, 2) := by decide +kernel
theorem dX5_lenderOf_53 : decode cX5_lenderOf 53 = .ok (.imul, 1) := by decide +kernel
theorem dX5_lenderOf_54 : decode cX5_lenderOf 54 = .ok (.iload 9, 2) := by decide +kernel
theorem dX5_lenderOf_56 : decode cX5_lenderOf 56 = .ok (.iload 9, 2) := by decide +kernel
theorem dX5_lenderOf_58 : decode cX5_lenderOf 58 = .ok (.imul, 1) := by decide +kernel
theorem dX5_lenderOf_59 : decode cX5_lenderOf 59 = .ok (.iadd, 1) := by decide +kernel
theorem dX5_lenderOf_60 : decode cX5_lenderOf 60 = .ok (.istore 10, 2) := by decide +kernel
theorem dX5_lenderOf_62 : decode cX5_lenderOf 62 = .ok (.iload 8, 2) := by decide +kernel
theorem dX5_lenderOf_64 : decode cX5_lenderOf 64 = .ok (.aload_n 0, 1) := by decide +kernel
theorem dX5_lenderOf_65 : decode cX5_lenderOf 65 = .ok (.getfield 26, 3) := by decide +kernel
theorem dX5_lenderOf_68 : decode cX5_lenderOf 68 = .ok (.if_icmp .gt 41, 3) := by decide +kernel
theorem dX5_lenderOf_71 : decode cX5_lenderOf 71 = .ok (.iload 8, 2) := by decide +kernel
theorem dX5_lenderOf_73 : decode cX5_lenderOf 73 = .ok (.ineg, 1) := by decide +kernel
theorem dX5_lenderOf_74 : decode cX5_lenderOf 74 = .ok (.aload_n 0, 1) := by decide +kernel
theorem dX5_lenderOf_75 : decode cX5_lenderOf 75 = .ok (.getfield 26, 3) := by decide +kernel
theorem dX5_lenderOf_78 : decode cX5_lenderOf 78 = .ok (.if_icmp .gt 31, 3) := by decide +kernel
theorem dX5_lenderOf_81 : decode cX5_lenderOf 81 = .ok (.iload 9, 2) := by decide +kernel
theorem dX5_lenderOf_83 : decode cX5_lenderOf 83 = .ok (.aload_n 0, 1) := by decide +kernel
theorem dX5_lenderOf_84 : decode cX5_lenderOf 84 = .ok (.getfield 26, 3) := by decide +kernel
theorem dX5_lenderOf_87 : decode cX5_lenderOf 87 = .ok (.if_icmp .gt 22, 3) := by decide +kernel
theorem dX5_lenderOf_90 : decode cX5_lenderOf 90 = .ok (.iload 9, 2) := by decide +kernel
theorem dX5_lenderOf_92 : decode cX5_lenderOf 92 = .ok (.ineg, 1) := by decide +kernel
theorem dX5_lenderOf_93 : decode cX5_lenderOf 93 = .ok (.aload_n 0, 1) := by decide +kernel
theorem dX5_lenderOf_94 : decode cX5_lenderOf 94 = .ok (.getfield 26, 3) := by decide +kernel
theorem dX5_lenderOf_97 : decode cX5_lenderOf 97 = .ok (.if_icmp .gt 12, 3) := by decide +kernel
theorem dX5_lenderOf_100 : decode cX5_lenderOf 100 = .ok (.iload 10, 2) := by decide +kernel
theorem dX5_lenderOf_102 : decode cX5_lenderOf 102 = .ok (.ifCond .le 7, 3) := by decide +kernel
theorem dX5_lenderOf_105 : decode cX5_lenderOf 105 = .ok (.iconst 1, 1) := by decide +kernel
theorem dX5_lenderOf_106 : decode cX5_lenderOf 106 = .ok (.goto 4, 3) := by decide +kernel
theorem dX5_lenderOf_109 : decode cX5_lenderOf 109 = .ok (.iconst 0, 1) := by decide +kernel
theorem dX5_lenderOf_110 : decode cX5_lenderOf 110 = .ok (.istore 11, 2) := by decide +kernel
theorem dX5_lenderOf_112 : decode cX5_lenderOf 112 = .ok (.iload 11, 2) := by decide +kernel
theorem dX5_lenderOf_114 : decode cX5_lenderOf 114 = .ok (.ifCond .eq 56, 3) := by decide +kernel
theorem dX5_lenderOf_117 : decode cX5_lenderOf 117 = .ok (.iload_n 3, 1) := by decide +kernel
theorem dX5_lenderOf_118 : decode cX5_lenderOf 118 = .ok (.iconst (-1), 1) := by decide +kernel
theorem dX5_lenderOf_119 : decode cX5_lenderOf 119 = .ok (.if_icmp .eq 10, 3) := by decide +kernel
theorem dX5_lenderOf_122 : decode cX5_lenderOf 122 = .ok (.iload 10, 2) := by decide +kernel
theorem dX5_lenderOf_124 : decode cX5_lenderOf 124 = .ok (.iload 4, 2) := by decide +kernel
theorem dX5_lenderOf_126 : decode cX5_lenderOf 126 = .ok (.if_icmp .ge 44, 3) := by decide +kernel
theorem dX5_lenderOf_129 : decode cX5_lenderOf 129 = .ok (.aload_n 0, 1) := by decide +kernel
theorem dX5_lenderOf_130 : decode cX5_lenderOf 130 = .ok (.iload_n 1, 1) := by decide +kernel
theorem dX5_lenderOf_131 : decode cX5_lenderOf 131 = .ok (.iload_n 2, 1) := by decide +kernel
theorem dX5_lenderOf_132 : decode cX5_lenderOf 132 = .ok (.iload 7, 2) := by decide +kernel
theorem dX5_lenderOf_134 : decode cX5_lenderOf 134 = .ok (.iload 6, 2) := by decide +kernel
theorem dX5_lenderOf_136 : decode cX5_lenderOf 136 = .ok (.invokevirtual 102, 3) := by decide +kernel
theorem dX5_lenderOf_139 : decode cX5_lenderOf 139 = .ok (.ifCond .eq 31, 3) := by decide +kernel
theorem dX5_lenderOf_142 : decode cX5_lenderOf 142 = .ok (.aload_n 0, 1) := by decide +kernel
theorem dX5_lenderOf_143 : decode cX5_lenderOf 143 = .ok (.iload 7, 2) := by decide +kernel
theorem dX5_lenderOf_145 : decode cX5_lenderOf 145 = .ok (.iload 6, 2) := by decide +kernel
theorem dX5_lenderOf_147 : decode cX5_lenderOf 147 = .ok (.invokevirtual 99, 3) := by decide +kernel
theorem dX5_lenderOf_150 : decode cX5_lenderOf 150 = .ok (.iload 5, 2) := by decide +kernel
theorem dX5_lenderOf_152 : decode cX5_lenderOf 152 = .ok (.if_icmp .le 18, 3) := by decide +kernel
theorem dX5_lenderOf_155 : decode cX5_lenderOf 155 = .ok (.iload 7, 2) := by decide +kernel
theorem dX5_lenderOf_157 : decode cX5_lenderOf 157 = .ok (.aload_n 0, 1) := by decide +kernel
theorem dX5_lenderOf_158 : decode cX5_lenderOf 158 = .ok (.getfield 56, 3) := by decide +kernel
theorem dX5_lenderOf_161 : decode cX5_lenderOf 161 = .ok (.iload 6, 2) := by decide +kernel
theorem dX5_lenderOf_163 : decode cX5_lenderOf 163 = .ok (.imul, 1) := by decide +kernel
theorem dX5_lenderOf_164 : decode cX5_lenderOf 164 = .ok (.iadd, 1) := by decide +kernel
theorem dX5_lenderOf_165 : decode cX5_lenderOf 165 = .ok (.istore_n 3, 1) := by decide +kernel
theorem dX5_lenderOf_166 : decode cX5_lenderOf 166 = .ok (.iload 10, 2) := by decide +kernel
theorem dX5_lenderOf_168 : decode cX5_lenderOf 168 = .ok (.istore 4, 2) := by decide +kernel
theorem dX5_lenderOf_170 : decode cX5_lenderOf 170 = .ok (.iinc 7 1, 3) := by decide +kernel
theorem dX5_lenderOf_173 : decode cX5_lenderOf 173 = .ok (.goto (-145), 3) := by decide +kernel
theorem dX5_lenderOf_176 : decode cX5_lenderOf 176 = .ok (.iinc 6 1, 3) := by decide +kernel
theorem dX5_lenderOf_179 : decode cX5_lenderOf 179 = .ok (.goto (-163), 3) := by decide +kernel
theorem dX5_lenderOf_182 : decode cX5_lenderOf 182 = .ok (.iload_n 3, 1) := by decide +kernel
theorem dX5_lenderOf_183 : decode cX5_lenderOf 183 = .ok (.ireturn, 1) := by decide +kernel
theorem dX5_curve_0 : decode cX5_curve 0 = .ok (.iload_n 1, 1) := by decide +kernel
theorem dX5_curve_1 : decode cX5_curve 1 = .ok (.istore_n 2, 1) := by decide +kernel
theorem dX5_curve_2 : decode cX5_curve 2 = .ok (.aload_n 0, 1) := by decide +kernel
theorem dX5_curve_3 : decode cX5_curve 3 = .ok (.getfield 29, 3) := by decide +kernel
theorem dX5_curve_6 : decode cX5_curve 6 = .ok (.iload_n 2, 1) := by decide +kernel
theorem dX5_curve_7 : decode cX5_curve 7 = .ok (.iaload, 1) := by decide +kernel
theorem dX5_curve_8 : decode cX5_curve 8 = .ok (.iconst (-1), 1) := by decide +kernel
theorem dX5_curve_9 : decode cX5_curve 9 = .ok (.if_icmp .ne 9, 3) := by decide +kernel
theorem dX5_curve_12 : decode cX5_curve 12 = .ok (.iinc 2 (-1), 3) := by decide +kernel
theorem dX5_curve_15 : decode cX5_curve 15 = .ok (.goto (-13), 3) := by decide +kernel
theorem dX5_curve_18 : decode cX5_curve 18 = .ok (.iload_n 2, 1) := by decide +kernel
theorem dX5_curve_19 : decode cX5_curve 19 = .ok (.iload_n 1, 1) := by decide +kernel
theorem dX5_curve_20 : decode cX5_curve 20 = .ok (.if_icmp .ne 10, 3) := by decide +kernel
theorem dX5_curve_23 : decode cX5_curve 23 = .ok (.aload_n 0, 1) := by decide +kernel
theorem dX5_curve_24 : decode cX5_curve 24 = .ok (.getfield 29, 3) := by decide +kernel
theorem dX5_curve_27 : decode cX5_curve 27 = .ok (.iload_n 2, 1) := by decide +kernel
theorem dX5_curve_28 : decode cX5_curve 28 = .ok (.iaload, 1) := by decide +kernel
theorem dX5_curve_29 : decode cX5_curve 29 = .ok (.ireturn, 1) := by decide +kernel
theorem dX5_curve_30 : decode cX5_curve 30 = .ok (.iload_n 1, 1) := by decide +kernel
theorem dX5_curve_31 : decode cX5_curve 31 = .ok (.istore_n 3, 1) := by decide +kernel
theorem dX5_curve_32 : decode cX5_curve 32 = .ok (.aload_n 0, 1) := by decide +kernel
theorem dX5_curve_33 : decode cX5_curve 33 = .ok (.getfield 29, 3) := by decide +kernel
theorem dX5_curve_36 : decode cX5_curve 36 = .ok (.iload_n 3, 1) := by decide +kernel
theorem dX5_curve_37 : decode cX5_curve 37 = .ok (.iaload, 1) := by decide +kernel
theorem dX5_curve_38 : decode cX5_curve 38 = .ok (.iconst (-1), 1) := by decide +kernel
theorem dX5_curve_39 : decode cX5_curve 39 = .ok (.if_icmp .ne 9, 3) := by decide +kernel
theorem dX5_curve_42 : decode cX5_curve 42 = .ok (.iinc 3 1, 3) := by decide +kernel
theorem dX5_curve_45 : decode cX5_curve 45 = .ok (.goto (-13), 3) := by decide +kernel
theorem dX5_curve_48 : decode cX5_curve 48 = .ok (.aload_n 0, 1) := by decide +kernel
theorem dX5_curve_49 : decode cX5_curve 49 = .ok (.getfield 29, 3) := by decide +kernel
theorem dX5_curve_52 : decode cX5_curve 52 = .ok (.iload_n 2, 1) := by decide +kernel
theorem dX5_curve_53 : decode cX5_curve 53 = .ok (.iaload, 1) := by decide +kernel
theorem dX5_curve_54 : decode cX5_curve 54 = .ok (.aload_n 0, 1) := by decide +kernel
theorem dX5_curve_55 : decode cX5_curve 55 = .ok (.getfield 29, 3) := by decide +kernel
theorem dX5_curve_58 : decode cX5_curve 58 = .ok (.iload_n 3, 1) := by decide +kernel
theorem dX5_curve_59 : decode cX5_curve 59 = .ok (.iaload, 1) := by decide +kernel
theorem dX5_curve_60 : decode cX5_curve 60 = .ok (.aload_n 0, 1) := by decide +kernel
theorem dX5_curve_61 : decode cX5_curve 61 = .ok (.getfield 29, 3) := by decide +kernel
theorem dX5_curve_64 : decode cX5_curve 64 = .ok (.iload_n 2, 1) := by decide +kernel
theorem dX5_curve_65 : decode cX5_curve 65 = .ok (.iaload, 1) := by decide +kernel
theorem dX5_curve_66 : decode cX5_curve 66 = .ok (.isub, 1) := by decide +kernel
theorem dX5_curve_67 : decode cX5_curve 67 = .ok (.iload_n 1, 1) := by decide +kernel
theorem dX5_curve_68 : decode cX5_curve 68 = .ok (.iload_n 2, 1) := by decide +kernel
theorem dX5_curve_69 : decode cX5_curve 69 = .ok (.isub, 1) := by decide +kernel
theorem dX5_curve_70 : decode cX5_curve 70 = .ok (.imul, 1) := by decide +kernel
theorem dX5_curve_71 : decode cX5_curve 71 = .ok (.iload_n 3, 1) := by decide +kernel
theorem dX5_curve_72 : decode cX5_curve 72 = .ok (.iload_n 2, 1) := by decide +kernel
theorem dX5_curve_73 : decode cX5_curve 73 = .ok (.isub, 1) := by decide +kernel
theorem dX5_curve_74 : decode cX5_curve 74 = .ok (.idiv, 1) := by decide +kernel
theorem dX5_curve_75 : decode cX5_curve 75 = .ok (.iadd, 1) := by decide +kernel
theorem dX5_curve_76 : decode cX5_curve 76 = .ok (.ireturn, 1) := by decide +kernel
theorem dX5_plate_0 : decode cX5_plate 0 = .ok (.aload_n 0, 1) := by decide +kernel
theorem dX5_plate_1 : decode cX5_plate 1 = .ok (.iload 4, 2) := by decide +kernel
theorem dX5_plate_3 : decode cX5_plate 3 = .ok (.ifCond .lt 9, 3) := by decide +kernel
theorem dX5_plate_6 : decode cX5_plate 6 = .ok (.iload 4, 2) := by decide +kernel
theorem dX5_plate_8 : decode cX5_plate 8 = .ok (.iconst 3, 1) := by decide +kernel
theorem dX5_plate_9 : decode cX5_plate 9 = .ok (.if_icmp .le 7, 3) := by decide +kernel
theorem dX5_plate_12 : decode cX5_plate 12 = .ok (.iconst 1, 1) := by decide +kernel
theorem dX5_plate_13 : decode cX5_plate 13 = .ok (.goto 25, 3) := by decide +kernel
theorem dX5_plate_16 : decode cX5_plate 16 = .ok (.aload_n 0, 1) := by decide +kernel
theorem dX5_plate_17 : decode cX5_plate 17 = .ok (.iload_n 1, 1) := by decide +kernel
theorem dX5_plate_18 : decode cX5_plate 18 = .ok (.invokevirtual 69, 3) := by decide +kernel
theorem dX5_plate_21 : decode cX5_plate 21 = .ok (.ifCond .eq 12, 3) := by decide +kernel
theorem dX5_plate_24 : decode cX5_plate 24 = .ok (.aload_n 0, 1) := by decide +kernel
theorem dX5_plate_25 : decode cX5_plate 25 = .ok (.iload_n 2, 1) := by decide +kernel
theorem dX5_plate_26 : decode cX5_plate 26 = .ok (.iload_n 3, 1) := by decide +kernel
theorem dX5_plate_27 : decode cX5_plate 27 = .ok (.invokevirtual 106, 3) := by decide +kernel
theorem dX5_plate_30 : decode cX5_plate 30 = .ok (.ifCond .ne 7, 3) := by decide +kernel
theorem dX5_plate_33 : decode cX5_plate 33 = .ok (.iconst 2, 1) := by decide +kernel
theorem dX5_plate_34 : decode cX5_plate 34 = .ok (.goto 4, 3) := by decide +kernel
theorem dX5_plate_37 : decode cX5_plate 37 = .ok (.iconst 0, 1) := by decide +kernel
theorem dX5_plate_38 : decode cX5_plate 38 = .ok (.putfield 62, 3) := by decide +kernel
theorem dX5_plate_41 : decode cX5_plate 41 = .ok (.aload_n 0, 1) := by decide +kernel
theorem dX5_plate_42 : decode cX5_plate 42 = .ok (.getfield 62, 3) := by decide +kernel
theorem dX5_plate_45 : decode cX5_plate 45 = .ok (.ifCond .le 5, 3) := by decide +kernel
theorem dX5_plate_48 : decode cX5_plate 48 = .ok (.iconst 0, 1) := by decide +kernel
theorem dX5_plate_49 : decode cX5_plate 49 = .ok (.ireturn, 1) := by decide +kernel
theorem dX5_plate_50 : decode cX5_plate 50 = .ok (.aload_n 0, 1) := by decide +kernel
theorem dX5_plate_51 : decode cX5_plate 51 = .ok (.iload_n 2, 1) := by decide +kernel
theorem dX5_plate_52 : decode cX5_plate 52 = .ok (.iload_n 3, 1) := by decide +kernel
theorem dX5_plate_53 : decode cX5_plate 53 = .ok (.iload_n 1, 1) := by decide +kernel
theorem dX5_plate_54 : decode cX5_plate 54 = .ok (.iload 4, 2) := by decide +kernel
theorem dX5_plate_56 : decode cX5_plate 56 = .ok (.iconst 2, 1) := by decide +kernel
theorem dX5_plate_57 : decode cX5_plate 57 = .ok (.irem, 1) := by decide +kernel
theorem dX5_plate_58 : decode cX5_plate 58 = .ok (.iconst 1, 1) := by decide +kernel
theorem dX5_plate_59 : decode cX5_plate 59 = .ok (.if_icmp .ne 12, 3) := by decide +kernel
theorem dX5_plate_62 : decode cX5_plate 62 = .ok (.aload_n 0, 1) := by decide +kernel
theorem dX5_plate_63 : decode cX5_plate 63 = .ok (.iload_n 2, 1) := by decide +kernel
theorem dX5_plate_64 : decode cX5_plate 64 = .ok (.iload_n 3, 1) := by decide +kernel
theorem dX5_plate_65 : decode cX5_plate 65 = .ok (.invokevirtual 110, 3) := by decide +kernel
theorem dX5_plate_68 : decode cX5_plate 68 = .ok (.goto 4, 3) := by decide +kernel
theorem dX5_plate_71 : decode cX5_plate 71 = .ok (.iconst (-1), 1) := by decide +kernel
theorem dX5_plate_72 : decode cX5_plate 72 = .ok (.invokevirtual 92, 3) := by decide +kernel
theorem dX5_plate_75 : decode cX5_plate 75 = .ok (.istore 5, 2) := by decide +kernel
theorem dX5_plate_77 : decode cX5_plate 77 = .ok (.iload 4, 2) := by decide +kernel
theorem dX5_plate_79 : decode cX5_plate 79 = .ok (.iconst 2, 1) := by decide +kernel
theorem dX5_plate_80 : decode cX5_plate 80 = .ok (.if_icmp .ge 8, 3) := by decide +kernel
theorem dX5_plate_83 : decode cX5_plate 83 = .ok (.iload 5, 2) := by decide +kernel
theorem dX5_plate_85 : decode cX5_plate 85 = .ok (.goto 9, 3) := by decide +kernel
theorem dX5_plate_88 : decode cX5_plate 88 = .ok (.aload_n 0, 1) := by decide +kernel
theorem dX5_plate_89 : decode cX5_plate 89 = .ok (.iload 5, 2) := by decide +kernel
theorem dX5_plate_91 : decode cX5_plate 91 = .ok (.invokevirtual 113, 3) := by decide +kernel
theorem dX5_plate_94 : decode cX5_plate 94 = .ok (.ireturn, 1) := by decide +kernel
theorem dX5_seen_0 : decode cX5_seen 0 = .ok (.aload_n 0, 1) := by decide +kernel
theorem dX5_seen_1 : decode cX5_seen 1 = .ok (.aload_n 0, 1) := by decide +kernel
theorem dX5_seen_2 : decode cX5_seen 2 = .ok (.iload_n 1, 1) := by decide +kernel
theorem dX5_seen_3 : decode cX5_seen 3 = .ok (.iload_n 2, 1) := by decide +kernel
theorem dX5_seen_4 : decode cX5_seen 4 = .ok (.invokevirtual 106, 3) := by decide +kernel
theorem dX5_seen_7 : decode cX5_seen 7 = .ok (.ifCond .eq 16, 3) := by decide +kernel
theorem dX5_seen_10 : decode cX5_seen 10 = .ok (.iload_n 3, 1) := by decide +kernel
theorem dX5_seen_11 : decode cX5_seen 11 = .ok (.ifCond .lt 12, 3) := by decide +kernel
theorem dX5_seen_14 : decode cX5_seen 14 = .ok (.iload_n 3, 1) := by decide +kernel
theorem dX5_seen_15 : decode cX5_seen 15 = .ok (.iconst 3, 1) := by decide +kernel
theorem dX5_seen_16 : decode cX5_seen 16 = .ok (.if_icmp .ge 7, 3) := by decide +kernel
theorem dX5_seen_19 : decode cX5_seen 19 = .ok (.iconst 0, 1) := by decide +kernel
theorem dX5_seen_20 : decode cX5_seen 20 = .ok (.goto 4, 3) := by decide +kernel
theorem dX5_seen_23 : decode cX5_seen 23 = .ok (.iconst 1, 1) := by decide +kernel
theorem dX5_seen_24 : decode cX5_seen 24 = .ok (.putfield 62, 3) := by decide +kernel
theorem dX5_seen_27 : decode cX5_seen 27 = .ok (.aload_n 0, 1) := by decide +kernel
theorem dX5_seen_28 : decode cX5_seen 28 = .ok (.getfield 62, 3) := by decide +kernel
theorem dX5_seen_31 : decode cX5_seen 31 = .ok (.ifCond .le 7, 3) := by decide +kernel
theorem dX5_seen_34 : decode cX5_seen 34 = .ok (.iconst 0, 1) := by decide +kernel
theorem dX5_seen_35 : decode cX5_seen 35 = .ok (.goto 25, 3) := by decide +kernel
theorem dX5_seen_38 : decode cX5_seen 38 = .ok (.aload_n 0, 1) := by decide +kernel
theorem dX5_seen_39 : decode cX5_seen 39 = .ok (.iload_n 1, 1) := by decide +kernel
theorem dX5_seen_40 : decode cX5_seen 40 = .ok (.iload_n 2, 1) := by decide +kernel
theorem dX5_seen_41 : decode cX5_seen 41 = .ok (.iload_n 3, 1) := by decide +kernel
theorem dX5_seen_42 : decode cX5_seen 42 = .ok (.iload 4, 2) := by decide +kernel
theorem dX5_seen_44 : decode cX5_seen 44 = .ok (.ifCond .eq 12, 3) := by decide +kernel
theorem dX5_seen_47 : decode cX5_seen 47 = .ok (.aload_n 0, 1) := by decide +kernel
theorem dX5_seen_48 : decode cX5_seen 48 = .ok (.iload_n 1, 1) := by decide +kernel
theorem dX5_seen_49 : decode cX5_seen 49 = .ok (.iload_n 2, 1) := by decide +kernel
theorem dX5_seen_50 : decode cX5_seen 50 = .ok (.invokevirtual 110, 3) := by decide +kernel
theorem dX5_seen_53 : decode cX5_seen 53 = .ok (.goto 4, 3) := by decide +kernel
theorem dX5_seen_56 : decode cX5_seen 56 = .ok (.iconst (-1), 1) := by decide +kernel
theorem dX5_seen_57 : decode cX5_seen 57 = .ok (.invokevirtual 96, 3) := by decide +kernel
theorem dX5_seen_60 : decode cX5_seen 60 = .ok (.ireturn, 1) := by decide +kernel
theorem dX5_lender_0 : decode cX5_lender 0 = .ok (.aload_n 0, 1) := by decide +kernel
theorem dX5_lender_1 : decode cX5_lender 1 = .ok (.aload_n 0, 1) := by decide +kernel
theorem dX5_lender_2 : decode cX5_lender 2 = .ok (.iload_n 1, 1) := by decide +kernel
theorem dX5_lender_3 : decode cX5_lender 3 = .ok (.iload_n 2, 1) := by decide +kernel
theorem dX5_lender_4 : decode cX5_lender 4 = .ok (.invokevirtual 106, 3) := by decide +kernel
theorem dX5_lender_7 : decode cX5_lender 7 = .ok (.ifCond .eq 7, 3) := by decide +kernel
theorem dX5_lender_10 : decode cX5_lender 10 = .ok (.iconst 0, 1) := by decide +kernel
theorem dX5_lender_11 : decode cX5_lender 11 = .ok (.goto 4, 3) := by decide +kernel
theorem dX5_lender_14 : decode cX5_lender 14 = .ok (.iconst 1, 1) := by decide +kernel
theorem dX5_lender_15 : decode cX5_lender 15 = .ok (.putfield 62, 3) := by decide +kernel
theorem dX5_lender_18 : decode cX5_lender 18 = .ok (.aload_n 0, 1) := by decide +kernel
theorem dX5_lender_19 : decode cX5_lender 19 = .ok (.getfield 62, 3) := by decide +kernel
theorem dX5_lender_22 : decode cX5_lender 22 = .ok (.ifCond .le 7, 3) := by decide +kernel
theorem dX5_lender_25 : decode cX5_lender 25 = .ok (.iconst 0, 1) := by decide +kernel
theorem dX5_lender_26 : decode cX5_lender 26 = .ok (.goto 9, 3) := by decide +kernel
theorem dX5_lender_29 : decode cX5_lender 29 = .ok (.aload_n 0, 1) := by decide +kernel
theorem dX5_lender_30 : decode cX5_lender 30 = .ok (.iload_n 1, 1) := by decide +kernel
theorem dX5_lender_31 : decode cX5_lender 31 = .ok (.iload_n 2, 1) := by decide +kernel
theorem dX5_lender_32 : decode cX5_lender 32 = .ok (.invokevirtual 110, 3) := by decide +kernel
theorem dX5_lender_35 : decode cX5_lender 35 = .ok (.ireturn, 1) := by decide +kernel
theorem dX5_width_0 : decode cX5_width 0 = .ok (.aload_n 0, 1) := by decide +kernel
theorem dX5_width_1 : decode cX5_width 1 = .ok (.iload_n 1, 1) := by decide +kernel
theorem dX5_width_2 : decode cX5_width 2 = .ok (.ifCond .lt 8, 3) := by decide +kernel
theorem dX5_width_5 : decode cX5_width 5 = .ok (.iload_n 1, 1) := by decide +kernel
theorem dX5_width_6 : decode cX5_width 6 = .ok (.iconst 3, 1) := by decide +kernel
theorem dX5_width_7 : decode cX5_width 7 = .ok (.if_icmp .le 7, 3) := by decide +kernel
theorem dX5_width_10 : decode cX5_width 10 = .ok (.iconst 1, 1) := by decide +kernel
theorem dX5_width_11 : decode cX5_width 11 = .ok (.goto 4, 3) := by decide +kernel
theorem dX5_width_14 : decode cX5_width 14 = .ok (.iconst 0, 1) := by decide +kernel
theorem dX5_width_15 : decode cX5_width 15 = .ok (.putfield 62, 3) := by decide +kernel
theorem dX5_width_18 : decode cX5_width 18 = .ok (.aload_n 0, 1) := by decide +kernel
theorem dX5_width_19 : decode cX5_width 19 = .ok (.getfield 26, 3) := by decide +kernel
theorem dX5_width_22 : decode cX5_width 22 = .ok (.istore_n 2, 1) := by decide +kernel
theorem dX5_width_23 : decode cX5_width 23 = .ok (.aload_n 0, 1) := by decide +kernel
theorem dX5_width_24 : decode cX5_width 24 = .ok (.aload_n 0, 1) := by decide +kernel
theorem dX5_width_25 : decode cX5_width 25 = .ok (.getfield 62, 3) := by decide +kernel
theorem dX5_width_28 : decode cX5_width 28 = .ok (.ifCond .le 10, 3) := by decide +kernel
theorem dX5_width_31 : decode cX5_width 31 = .ok (.aload_n 0, 1) := by decide +kernel
theorem dX5_width_32 : decode cX5_width 32 = .ok (.getfield 26, 3) := by decide +kernel
theorem dX5_width_35 : decode cX5_width 35 = .ok (.goto 4, 3) := by decide +kernel
theorem dX5_width_38 : decode cX5_width 38 = .ok (.iload_n 1, 1) := by decide +kernel
theorem dX5_width_39 : decode cX5_width 39 = .ok (.putfield 26, 3) := by decide +kernel
theorem dX5_width_42 : decode cX5_width 42 = .ok (.aload_n 0, 1) := by decide +kernel
theorem dX5_width_43 : decode cX5_width 43 = .ok (.getfield 62, 3) := by decide +kernel
theorem dX5_width_46 : decode cX5_width 46 = .ok (.ifCond .le 7, 3) := by decide +kernel
theorem dX5_width_49 : decode cX5_width 49 = .ok (.iconst 0, 1) := by decide +kernel
theorem dX5_width_50 : decode cX5_width 50 = .ok (.goto 4, 3) := by decide +kernel
theorem dX5_width_53 : decode cX5_width 53 = .ok (.iload_n 2, 1) := by decide +kernel
theorem dX5_width_54 : decode cX5_width 54 = .ok (.ireturn, 1) := by decide +kernel
theorem dX5_gain_0 : decode cX5_gain 0 = .ok (.aload_n 0, 1) := by decide +kernel
theorem dX5_gain_1 : decode cX5_gain 1 = .ok (.iload_n 1, 1) := by decide +kernel
theorem dX5_gain_2 : decode cX5_gain 2 = .ok (.invokestatic 65, 3) := by decide +kernel
theorem dX5_gain_5 : decode cX5_gain 5 = .ok (.ifCond .eq 10, 3) := by decide +kernel
theorem dX5_gain_8 : decode cX5_gain 8 = .ok (.iload_n 2, 1) := by decide +kernel
theorem dX5_gain_9 : decode cX5_gain 9 = .ok (.invokestatic 65, 3) := by decide +kernel
theorem dX5_gain_12 : decode cX5_gain 12 = .ok (.ifCond .ne 7, 3) := by decide +kernel
theorem dX5_gain_15 : decode cX5_gain 15 = .ok (.iconst 1, 1) := by decide +kernel
theorem dX5_gain_16 : decode cX5_gain 16 = .ok (.goto 27, 3) := by decide +kernel
theorem dX5_gain_19 : decode cX5_gain 19 = .ok (.aload_n 0, 1) := by decide +kernel
theorem dX5_gain_20 : decode cX5_gain 20 = .ok (.getfield 29, 3) := by decide +kernel
theorem dX5_gain_23 : decode cX5_gain 23 = .ok (.iload_n 1, 1) := by decide +kernel
theorem dX5_gain_24 : decode cX5_gain 24 = .ok (.iaload, 1) := by decide +kernel
theorem dX5_gain_25 : decode cX5_gain 25 = .ok (.iconst (-1), 1) := by decide +kernel
theorem dX5_gain_26 : decode cX5_gain 26 = .ok (.if_icmp .ne 16, 3) := by decide +kernel
theorem dX5_gain_29 : decode cX5_gain 29 = .ok (.aload_n 0, 1) := by decide +kernel
theorem dX5_gain_30 : decode cX5_gain 30 = .ok (.getfield 32, 3) := by decide +kernel
theorem dX5_gain_33 : decode cX5_gain 33 = .ok (.bipush 12, 2) := by decide +kernel
theorem dX5_gain_35 : decode cX5_gain 35 = .ok (.if_icmp .ne 7, 3) := by decide +kernel
theorem dX5_gain_38 : decode cX5_gain 38 = .ok (.iconst 2, 1) := by decide +kernel
theorem dX5_gain_39 : decode cX5_gain 39 = .ok (.goto 4, 3) := by decide +kernel
theorem dX5_gain_42 : decode cX5_gain 42 = .ok (.iconst 0, 1) := by decide +kernel
theorem dX5_gain_43 : decode cX5_gain 43 = .ok (.putfield 62, 3) := by decide +kernel
theorem dX5_gain_46 : decode cX5_gain 46 = .ok (.aload_n 0, 1) := by decide +kernel
theorem dX5_gain_47 : decode cX5_gain 47 = .ok (.getfield 62, 3) := by decide +kernel
theorem dX5_gain_50 : decode cX5_gain 50 = .ok (.ifCond .ne 34, 3) := by decide +kernel
theorem dX5_gain_53 : decode cX5_gain 53 = .ok (.aload_n 0, 1) := by decide +kernel
theorem dX5_gain_54 : decode cX5_gain 54 = .ok (.dup, 1) := by decide +kernel
theorem dX5_gain_55 : decode cX5_gain 55 = .ok (.getfield 32, 3) := by decide +kernel
theorem dX5_gain_58 : decode cX5_gain 58 = .ok (.aload_n 0, 1) := by decide +kernel
theorem dX5_gain_59 : decode cX5_gain 59 = .ok (.getfield 29, 3) := by decide +kernel
theorem dX5_gain_62 : decode cX5_gain 62 = .ok (.iload_n 1, 1) := by decide +kernel
theorem dX5_gain_63 : decode cX5_gain 63 = .ok (.iaload, 1) := by decide +kernel
theorem dX5_gain_64 : decode cX5_gain 64 = .ok (.iconst (-1), 1) := by decide +kernel
theorem dX5_gain_65 : decode cX5_gain 65 = .ok (.if_icmp .ne 7, 3) := by decide +kernel
theorem dX5_gain_68 : decode cX5_gain 68 = .ok (.iconst 1, 1) := by decide +kernel
theorem dX5_gain_69 : decode cX5_gain 69 = .ok (.goto 4, 3) := by decide +kernel
theorem dX5_gain_72 : decode cX5_gain 72 = .ok (.iconst 0, 1) := by decide +kernel
theorem dX5_gain_73 : decode cX5_gain 73 = .ok (.iadd, 1) := by decide +kernel
theorem dX5_gain_74 : decode cX5_gain 74 = .ok (.putfield 32, 3) := by decide +kernel
theorem dX5_gain_77 : decode cX5_gain 77 = .ok (.aload_n 0, 1) := by decide +kernel
theorem dX5_gain_78 : decode cX5_gain 78 = .ok (.getfield 29, 3) := by decide +kernel
theorem dX5_gain_81 : decode cX5_gain 81 = .ok (.iload_n 1, 1) := by decide +kernel
theorem dX5_gain_82 : decode cX5_gain 82 = .ok (.iload_n 2, 1) := by decide +kernel
theorem dX5_gain_83 : decode cX5_gain 83 = .ok (.iastore, 1) := by decide +kernel
theorem dX5_gain_84 : decode cX5_gain 84 = .ok (.return_, 1) := by decide +kernel
theorem dX5_floorOf_0 : decode cX5_floorOf 0 = .ok (.iload_n 0, 1) := by decide +kernel
theorem dX5_floorOf_1 : decode cX5_floorOf 1 = .ok (.iload_n 1, 1) := by decide +kernel
theorem dX5_floorOf_2 : decode cX5_floorOf 2 = .ok (.idiv, 1) := by decide +kernel
theorem dX5_floorOf_3 : decode cX5_floorOf 3 = .ok (.istore_n 2, 1) := by decide +kernel
theorem dX5_floorOf_4 : decode cX5_floorOf 4 = .ok (.iload_n 0, 1) := by decide +kernel
theorem dX5_floorOf_5 : decode cX5_floorOf 5 = .ok (.iload_n 1, 1) := by decide +kernel
theorem dX5_floorOf_6 : decode cX5_floorOf 6 = .ok (.irem, 1) := by decide +kernel
theorem dX5_floorOf_7 : decode cX5_floorOf 7 = .ok (.ifCond .ge 9, 3) := by decide +kernel
theorem dX5_floorOf_10 : decode cX5_floorOf 10 = .ok (.iload_n 2, 1) := by decide +kernel
theorem dX5_floorOf_11 : decode cX5_floorOf 11 = .ok (.iconst 1, 1) := by decide +kernel
theorem dX5_floorOf_12 : decode cX5_floorOf 12 = .ok (.isub, 1) := by decide +kernel
theorem dX5_floorOf_13 : decode cX5_floorOf 13 = .ok (.goto 4, 3) := by decide +kernel
theorem dX5_floorOf_16 : decode cX5_floorOf 16 = .ok (.iload_n 2, 1) := by decide +kernel
theorem dX5_floorOf_17 : decode cX5_floorOf 17 = .ok (.ireturn, 1) := by decide +kernel
theorem dX5_sameOf_0 : decode cX5_sameOf 0 = .ok (.iload_n 3, 1) := by decide +kernel
theorem dX5_sameOf_1 : decode cX5_sameOf 1 = .ok (.aload_n 0, 1) := by decide +kernel
theorem dX5_sameOf_2 : decode cX5_sameOf 2 = .ok (.getfield 44, 3) := by decide +kernel
theorem dX5_sameOf_5 : decode cX5_sameOf 5 = .ok (.iload_n 1, 1) := by decide +kernel
theorem dX5_sameOf_6 : decode cX5_sameOf 6 = .ok (.iaload, 1) := by decide +kernel
theorem dX5_sameOf_7 : decode cX5_sameOf 7 = .ok (.invokestatic 116, 3) := by decide +kernel
theorem dX5_sameOf_10 : decode cX5_sameOf 10 = .ok (.istore 4, 2) := by decide +kernel
theorem dX5_sameOf_12 : decode cX5_sameOf 12 = .ok (.aload_n 0, 1) := by decide +kernel
theorem dX5_sameOf_13 : decode cX5_sameOf 13 = .ok (.getfield 41, 3) := by decide +kernel
theorem dX5_sameOf_16 : decode cX5_sameOf 16 = .ok (.iload_n 1, 1) := by decide +kernel
theorem dX5_sameOf_17 : decode cX5_sameOf 17 = .ok (.iaload, 1) := by decide +kernel
theorem dX5_sameOf_18 : decode cX5_sameOf 18 = .ok (.aload_n 0, 1) := by decide +kernel
theorem dX5_sameOf_19 : decode cX5_sameOf 19 = .ok (.getfield 44, 3) := by decide +kernel
theorem dX5_sameOf_22 : decode cX5_sameOf 22 = .ok (.iload_n 1, 1) := by decide +kernel
theorem dX5_sameOf_23 : decode cX5_sameOf 23 = .ok (.iaload, 1) := by decide +kernel
theorem dX5_sameOf_24 : decode cX5_sameOf 24 = .ok (.idiv, 1) := by decide +kernel
theorem dX5_sameOf_25 : decode cX5_sameOf 25 = .ok (.istore 5, 2) := by decide +kernel
theorem dX5_sameOf_27 : decode cX5_sameOf 27 = .ok (.iload_n 2, 1) := by decide +kernel
theorem dX5_sameOf_28 : decode cX5_sameOf 28 = .ok (.iload 4, 2) := by decide +kernel
theorem dX5_sameOf_30 : decode cX5_sameOf 30 = .ok (.aload_n 0, 1) := by decide +kernel
theorem dX5_sameOf_31 : decode cX5_sameOf 31 = .ok (.getfield 47, 3) := by decide +kernel
theorem dX5_sameOf_34 : decode cX5_sameOf 34 = .ok (.iload_n 1, 1) := by decide +kernel
theorem dX5_sameOf_35 : decode cX5_sameOf 35 = .ok (.iaload, 1) := by decide +kernel
theorem dX5_sameOf_36 : decode cX5_sameOf 36 = .ok (.imul, 1) := by decide +kernel
theorem dX5_sameOf_37 : decode cX5_sameOf 37 = .ok (.isub, 1) := by decide +kernel
theorem dX5_sameOf_38 : decode cX5_sameOf 38 = .ok (.istore 6, 2) := by decide +kernel
theorem dX5_sameOf_40 : decode cX5_sameOf 40 = .ok (.iload_n 3, 1) := by decide +kernel
theorem dX5_sameOf_41 : decode cX5_sameOf 41 = .ok (.iload 4, 2) := by decide +kernel
theorem dX5_sameOf_43 : decode cX5_sameOf 43 = .ok (.aload_n 0, 1) := by decide +kernel
theorem dX5_sameOf_44 : decode cX5_sameOf 44 = .ok (.getfield 44, 3) := by decide +kernel
theorem dX5_sameOf_47 : decode cX5_sameOf 47 = .ok (.iload_n 1, 1) := by decide +kernel
theorem dX5_sameOf_48 : decode cX5_sameOf 48 = .ok (.iaload, 1) := by decide +kernel
theorem dX5_sameOf_49 : decode cX5_sameOf 49 = .ok (.imul, 1) := by decide +kernel
theorem dX5_sameOf_50 : decode cX5_sameOf 50 = .ok (.isub, 1) := by decide +kernel
theorem dX5_sameOf_51 : decode cX5_sameOf 51 = .ok (.istore 7, 2) := by decide +kernel
theorem dX5_sameOf_53 : decode cX5_sameOf 53 = .ok (.iload 6, 2) := by decide +kernel
theorem dX5_sameOf_55 : decode cX5_sameOf 55 = .ok (.iload 6, 2) := by decide +kernel
theorem dX5_sameOf_57 : decode cX5_sameOf 57 = .ok (.iload 5, 2) := by decide +kernel
theorem dX5_sameOf_59 : decode cX5_sameOf 59 = .ok (.invokestatic 116, 3) := by decide +kernel
theorem dX5_sameOf_62 : decode cX5_sameOf 62 = .ok (.iload 5, 2) := by decide +kernel
theorem dX5_sameOf_64 : decode cX5_sameOf 64 = .ok (.imul, 1) := by decide +kernel
theorem dX5_sameOf_65 : decode cX5_sameOf 65 = .ok (.isub, 1) := by decide +kernel
theorem dX5_sameOf_66 : decode cX5_sameOf 66 = .ok (.iload 5, 2) := by decide +kernel
theorem dX5_sameOf_68 : decode cX5_sameOf 68 = .ok (.iload 7, 2) := by decide +kernel
theorem dX5_sameOf_70 : decode cX5_sameOf 70 = .ok (.imul, 1) := by decide +kernel
theorem dX5_sameOf_71 : decode cX5_sameOf 71 = .ok (.iadd, 1) := by decide +kernel
theorem dX5_sameOf_72 : decode cX5_sameOf 72 = .ok (.ireturn, 1) := by decide +kernel
theorem dX5_size_0 : decode cX5_size 0 = .ok (.iload_n 0, 1) := by decide +kernel
theorem dX5_size_1 : decode cX5_size 1 = .ok (.ifCond .ge 8, 3) := by decide +kernel
theorem dX5_size_4 : decode cX5_size 4 = .ok (.iload_n 0, 1) := by decide +kernel
theorem dX5_size_5 : decode cX5_size 5 = .ok (.ineg, 1) := by decide +kernel
theorem dX5_size_6 : decode cX5_size 6 = .ok (.goto 4, 3) := by decide +kernel
theorem dX5_size_9 : decode cX5_size 9 = .ok (.iload_n 0, 1) := by decide +kernel
theorem dX5_size_10 : decode cX5_size 10 = .ok (.ireturn, 1) := by decide +kernel
theorem dX5_common_0 : decode cX5_common 0 = .ok (.iconst 1, 1) := by decide +kernel
theorem dX5_common_1 : decode cX5_common 1 = .ok (.istore_n 2, 1) := by decide +kernel
theorem dX5_common_2 : decode cX5_common 2 = .ok (.iconst 2, 1) := by decide +kernel
theorem dX5_common_3 : decode cX5_common 3 = .ok (.istore_n 3, 1) := by decide +kernel
theorem dX5_common_4 : decode cX5_common 4 = .ok (.iload_n 3, 1) := by decide +kernel
theorem dX5_common_5 : decode cX5_common 5 = .ok (.bipush 12, 2) := by decide +kernel
theorem dX5_common_7 : decode cX5_common 7 = .ok (.if_icmp .gt 27, 3) := by decide +kernel
theorem dX5_common_10 : decode cX5_common 10 = .ok (.iload_n 0, 1) := by decide +kernel
theorem dX5_common_11 : decode cX5_common 11 = .ok (.iload_n 3, 1) := by decide +kernel
theorem dX5_common_12 : decode cX5_common 12 = .ok (.irem, 1) := by decide +kernel
theorem dX5_common_13 : decode cX5_common 13 = .ok (.ifCond .ne 13, 3) := by decide +kernel
theorem dX5_common_16 : decode cX5_common 16 = .ok (.iload_n 1, 1) := by decide +kernel
theorem dX5_common_17 : decode cX5_common 17 = .ok (.iload_n 3, 1) := by decide +kernel
theorem dX5_common_18 : decode cX5_common 18 = .ok (.irem, 1) := by decide +kernel
theorem dX5_common_19 : decode cX5_common 19 = .ok (.ifCond .ne 7, 3) := by decide +kernel
theorem dX5_common_22 : decode cX5_common 22 = .ok (.iload_n 3, 1) := by decide +kernel
theorem dX5_common_23 : decode cX5_common 23 = .ok (.goto 4, 3) := by decide +kernel
theorem dX5_common_26 : decode cX5_common 26 = .ok (.iload_n 2, 1) := by decide +kernel
theorem dX5_common_27 : decode cX5_common 27 = .ok (.istore_n 2, 1) := by decide +kernel
theorem dX5_common_28 : decode cX5_common 28 = .ok (.iinc 3 1, 3) := by decide +kernel
theorem dX5_common_31 : decode cX5_common 31 = .ok (.goto (-27), 3) := by decide +kernel
theorem dX5_common_34 : decode cX5_common 34 = .ok (.iload_n 2, 1) := by decide +kernel
theorem dX5_common_35 : decode cX5_common 35 = .ok (.ireturn, 1) := by decide +kernel
theorem dX5_shiftOf_0 : decode cX5_shiftOf 0 = .ok (.bipush (-12), 2) := by decide +kernel
theorem dX5_shiftOf_2 : decode cX5_shiftOf 2 = .ok (.istore_n 3, 1) := by decide +kernel
theorem dX5_shiftOf_3 : decode cX5_shiftOf 3 = .ok (.iload_n 3, 1) := by decide +kernel
theorem dX5_shiftOf_4 : decode cX5_shiftOf 4 = .ok (.bipush 12, 2) := by decide +kernel
theorem dX5_shiftOf_6 : decode cX5_shiftOf 6 = .ok (.if_icmp .gt 47, 3) := by decide +kernel
theorem dX5_shiftOf_9 : decode cX5_shiftOf 9 = .ok (.bipush (-12), 2) := by decide +kernel
theorem dX5_shiftOf_11 : decode cX5_shiftOf 11 = .ok (.istore 4, 2) := by decide +kernel
theorem dX5_shiftOf_13 : decode cX5_shiftOf 13 = .ok (.iload 4, 2) := by decide +kernel
theorem dX5_shiftOf_15 : decode cX5_shiftOf 15 = .ok (.bipush 12, 2) := by decide +kernel
theorem dX5_shiftOf_17 : decode cX5_shiftOf 17 = .ok (.if_icmp .gt 30, 3) := by decide +kernel
theorem dX5_shiftOf_20 : decode cX5_shiftOf 20 = .ok (.iload_n 3, 1) := by decide +kernel
theorem dX5_shiftOf_21 : decode cX5_shiftOf 21 = .ok (.iload_n 1, 1) := by decide +kernel
theorem dX5_shiftOf_22 : decode cX5_shiftOf 22 = .ok (.imul, 1) := by decide +kernel
theorem dX5_shiftOf_23 : decode cX5_shiftOf 23 = .ok (.iload 4, 2) := by decide +kernel
theorem dX5_shiftOf_25 : decode cX5_shiftOf 25 = .ok (.iload_n 0, 1) := by decide +kernel
theorem dX5_shiftOf_26 : decode cX5_shiftOf 26 = .ok (.imul, 1) := by decide +kernel
theorem dX5_shiftOf_27 : decode cX5_shiftOf 27 = .ok (.iadd, 1) := by decide +kernel
theorem dX5_shiftOf_28 : decode cX5_shiftOf 28 = .ok (.iload_n 2, 1) := by decide +kernel
theorem dX5_shiftOf_29 : decode cX5_shiftOf 29 = .ok (.if_icmp .ne 12, 3) := by decide +kernel
theorem dX5_shiftOf_32 : decode cX5_shiftOf 32 = .ok (.iload_n 3, 1) := by decide +kernel
theorem dX5_shiftOf_33 : decode cX5_shiftOf 33 = .ok (.iload_n 0, 1) := by decide +kernel
theorem dX5_shiftOf_34 : decode cX5_shiftOf 34 = .ok (.imul, 1) := by decide +kernel
theorem dX5_shiftOf_35 : decode cX5_shiftOf 35 = .ok (.iload 4, 2) := by decide +kernel
theorem dX5_shiftOf_37 : decode cX5_shiftOf 37 = .ok (.iload_n 1, 1) := by decide +kernel
theorem dX5_shiftOf_38 : decode cX5_shiftOf 38 = .ok (.imul, 1) := by decide +kernel
theorem dX5_shiftOf_39 : decode cX5_shiftOf 39 = .ok (.isub, 1) := by decide +kernel
theorem dX5_shiftOf_40 : decode cX5_shiftOf 40 = .ok (.ireturn, 1) := by decide +kernel
theorem dX5_shiftOf_41 : decode cX5_shiftOf 41 = .ok (.iinc 4 1, 3) := by decide +kernel
theorem dX5_shiftOf_44 : decode cX5_shiftOf 44 = .ok (.goto (-31), 3) := by decide +kernel
theorem dX5_shiftOf_47 : decode cX5_shiftOf 47 = .ok (.iinc 3 1, 3) := by decide +kernel
theorem dX5_shiftOf_50 : decode cX5_shiftOf 50 = .ok (.goto (-47), 3) := by decide +kernel
theorem dX5_shiftOf_53 : decode cX5_shiftOf 53 = .ok (.iconst 0, 1) := by decide +kernel
theorem dX5_shiftOf_54 : decode cX5_shiftOf 54 = .ok (.ireturn, 1) := by decide +kernel
theorem dX5_cell_0 : decode cX5_cell 0 = .ok (.aload_n 0, 1) := by decide +kernel
theorem dX5_cell_1 : decode cX5_cell 1 = .ok (.iload_n 1, 1) := by decide +kernel
theorem dX5_cell_2 : decode cX5_cell 2 = .ok (.ifCond .lt 21, 3) := by decide +kernel
theorem dX5_cell_5 : decode cX5_cell 5 = .ok (.iload_n 1, 1) := by decide +kernel
theorem dX5_cell_6 : decode cX5_cell 6 = .ok (.bipush 12, 2) := by decide +kernel
theorem dX5_cell_8 : decode cX5_cell 8 = .ok (.if_icmp .gt 15, 3) := by decide +kernel
theorem dX5_cell_11 : decode cX5_cell 11 = .ok (.iload_n 2, 1) := by decide +kernel
theorem dX5_cell_12 : decode cX5_cell 12 = .ok (.bipush (-12), 2) := by decide +kernel
theorem dX5_cell_14 : decode cX5_cell 14 = .ok (.if_icmp .lt 9, 3) := by decide +kernel
theorem dX5_cell_17 : decode cX5_cell 17 = .ok (.iload_n 2, 1) := by decide +kernel
theorem dX5_cell_18 : decode cX5_cell 18 = .ok (.bipush 12, 2) := by decide +kernel
theorem dX5_cell_20 : decode cX5_cell 20 = .ok (.if_icmp .le 7, 3) := by decide +kernel
theorem dX5_cell_23 : decode cX5_cell 23 = .ok (.iconst 1, 1) := by decide +kernel
theorem dX5_cell_24 : decode cX5_cell 24 = .ok (.goto 29, 3) := by decide +kernel
theorem dX5_cell_27 : decode cX5_cell 27 = .ok (.iload_n 1, 1) := by decide +kernel
theorem dX5_cell_28 : decode cX5_cell 28 = .ok (.ifCond .ne 11, 3) := by decide +kernel
theorem dX5_cell_31 : decode cX5_cell 31 = .ok (.iload_n 2, 1) := by decide +kernel
theorem dX5_cell_32 : decode cX5_cell 32 = .ok (.ifCond .ne 7, 3) := by decide +kernel
theorem dX5_cell_35 : decode cX5_cell 35 = .ok (.iconst 2, 1) := by decide +kernel
theorem dX5_cell_36 : decode cX5_cell 36 = .ok (.goto 17, 3) := by decide +kernel
theorem dX5_cell_39 : decode cX5_cell 39 = .ok (.aload_n 0, 1) := by decide +kernel
theorem dX5_cell_40 : decode cX5_cell 40 = .ok (.getfield 119, 3) := by decide +kernel
theorem dX5_cell_43 : decode cX5_cell 43 = .ok (.bipush 6, 2) := by decide +kernel
theorem dX5_cell_45 : decode cX5_cell 45 = .ok (.if_icmp .ne 7, 3) := by decide +kernel
theorem dX5_cell_48 : decode cX5_cell 48 = .ok (.iconst 3, 1) := by decide +kernel
theorem dX5_cell_49 : decode cX5_cell 49 = .ok (.goto 4, 3) := by decide +kernel
theorem dX5_cell_52 : decode cX5_cell 52 = .ok (.iconst 0, 1) := by decide +kernel
theorem dX5_cell_53 : decode cX5_cell 53 = .ok (.putfield 62, 3) := by decide +kernel
theorem dX5_cell_56 : decode cX5_cell 56 = .ok (.aload_n 0, 1) := by decide +kernel
theorem dX5_cell_57 : decode cX5_cell 57 = .ok (.getfield 62, 3) := by decide +kernel
theorem dX5_cell_60 : decode cX5_cell 60 = .ok (.ifCond .le 5, 3) := by decide +kernel
theorem dX5_cell_63 : decode cX5_cell 63 = .ok (.iconst 0, 1) := by decide +kernel
theorem dX5_cell_64 : decode cX5_cell 64 = .ok (.ireturn, 1) := by decide +kernel
theorem dX5_cell_65 : decode cX5_cell 65 = .ok (.aload_n 0, 1) := by decide +kernel
theorem dX5_cell_66 : decode cX5_cell 66 = .ok (.getfield 119, 3) := by decide +kernel
theorem dX5_cell_69 : decode cX5_cell 69 = .ok (.istore_n 3, 1) := by decide +kernel
theorem dX5_cell_70 : decode cX5_cell 70 = .ok (.aload_n 0, 1) := by decide +kernel
theorem dX5_cell_71 : decode cX5_cell 71 = .ok (.getfield 35, 3) := by decide +kernel
theorem dX5_cell_74 : decode cX5_cell 74 = .ok (.iload_n 3, 1) := by decide +kernel
theorem dX5_cell_75 : decode cX5_cell 75 = .ok (.iload_n 1, 1) := by decide +kernel
theorem dX5_cell_76 : decode cX5_cell 76 = .ok (.iastore, 1) := by decide +kernel
theorem dX5_cell_77 : decode cX5_cell 77 = .ok (.aload_n 0, 1) := by decide +kernel
theorem dX5_cell_78 : decode cX5_cell 78 = .ok (.getfield 38, 3) := by decide +kernel
theorem dX5_cell_81 : decode cX5_cell 81 = .ok (.iload_n 3, 1) := by decide +kernel
theorem dX5_cell_82 : decode cX5_cell 82 = .ok (.iload_n 2, 1) := by decide +kernel
theorem dX5_cell_83 : decode cX5_cell 83 = .ok (.iastore, 1) := by decide +kernel
theorem dX5_cell_84 : decode cX5_cell 84 = .ok (.aload_n 0, 1) := by decide +kernel
theorem dX5_cell_85 : decode cX5_cell 85 = .ok (.getfield 41, 3) := by decide +kernel
theorem dX5_cell_88 : decode cX5_cell 88 = .ok (.iload_n 3, 1) := by decide +kernel
theorem dX5_cell_89 : decode cX5_cell 89 = .ok (.iload_n 1, 1) := by decide +kernel
theorem dX5_cell_90 : decode cX5_cell 90 = .ok (.iload_n 1, 1) := by decide +kernel
theorem dX5_cell_91 : decode cX5_cell 91 = .ok (.imul, 1) := by decide +kernel
theorem dX5_cell_92 : decode cX5_cell 92 = .ok (.iload_n 2, 1) := by decide +kernel
theorem dX5_cell_93 : decode cX5_cell 93 = .ok (.iload_n 2, 1) := by decide +kernel
theorem dX5_cell_94 : decode cX5_cell 94 = .ok (.imul, 1) := by decide +kernel
theorem dX5_cell_95 : decode cX5_cell 95 = .ok (.iadd, 1) := by decide +kernel
theorem dX5_cell_96 : decode cX5_cell 96 = .ok (.iastore, 1) := by decide +kernel
theorem dX5_cell_97 : decode cX5_cell 97 = .ok (.aload_n 0, 1) := by decide +kernel
theorem dX5_cell_98 : decode cX5_cell 98 = .ok (.getfield 44, 3) := by decide +kernel
theorem dX5_cell_101 : decode cX5_cell 101 = .ok (.iload_n 3, 1) := by decide +kernel
theorem dX5_cell_102 : decode cX5_cell 102 = .ok (.iload_n 1, 1) := by decide +kernel
theorem dX5_cell_103 : decode cX5_cell 103 = .ok (.iload_n 2, 1) := by decide +kernel
theorem dX5_cell_104 : decode cX5_cell 104 = .ok (.invokestatic 122, 3) := by decide +kernel
theorem dX5_cell_107 : decode cX5_cell 107 = .ok (.invokestatic 125, 3) := by decide +kernel
theorem dX5_cell_110 : decode cX5_cell 110 = .ok (.iastore, 1) := by decide +kernel
theorem dX5_cell_111 : decode cX5_cell 111 = .ok (.aload_n 0, 1) := by decide +kernel
theorem dX5_cell_112 : decode cX5_cell 112 = .ok (.getfield 47, 3) := by decide +kernel
theorem dX5_cell_115 : decode cX5_cell 115 = .ok (.iload_n 3, 1) := by decide +kernel
theorem dX5_cell_116 : decode cX5_cell 116 = .ok (.iload_n 1, 1) := by decide +kernel
theorem dX5_cell_117 : decode cX5_cell 117 = .ok (.iload_n 2, 1) := by decide +kernel
theorem dX5_cell_118 : decode cX5_cell 118 = .ok (.aload_n 0, 1) := by decide +kernel
theorem dX5_cell_119 : decode cX5_cell 119 = .ok (.getfield 44, 3) := by decide +kernel
