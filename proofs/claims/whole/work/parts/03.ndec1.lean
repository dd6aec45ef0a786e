theorem dX0_init_0 : decode cX0_init 0 = .ok (.aload_n 0, 1) := by decide +kernel
theorem dX0_init_1 : decode cX0_init 1 = .ok (.invokespecial 3, 3) := by decide +kernel
theorem dX0_init_4 : decode cX0_init 4 = .ok (.aload_n 0, 1) := by decide +kernel
theorem dX0_init_5 : decode cX0_init 5 = .ok (.iload_n 1, 1) := by decide +kernel
theorem dX0_init_6 : decode cX0_init 6 = .ok (.iload_n 2, 1) := by decide +kernel
theorem dX0_init_7 : decode cX0_init 7 = .ok (.invokestatic 9, 3) := by decide +kernel
theorem dX0_init_10 : decode cX0_init 10 = .ok (.putfield 15, 3) := by decide +kernel
theorem dX0_init_13 : decode cX0_init 13 = .ok (.aload_n 0, 1) := by decide +kernel
theorem dX0_init_14 : decode cX0_init 14 = .ok (.iconst 1, 1) := by decide +kernel
theorem dX0_init_15 : decode cX0_init 15 = .ok (.iload_n 1, 1) := by decide +kernel
theorem dX0_init_16 : decode cX0_init 16 = .ok (.iload_n 1, 1) := by decide +kernel
theorem dX0_init_17 : decode cX0_init 17 = .ok (.imul, 1) := by decide +kernel
theorem dX0_init_18 : decode cX0_init 18 = .ok (.iload_n 2, 1) := by decide +kernel
theorem dX0_init_19 : decode cX0_init 19 = .ok (.iload_n 2, 1) := by decide +kernel
theorem dX0_init_20 : decode cX0_init 20 = .ok (.imul, 1) := by decide +kernel
theorem dX0_init_21 : decode cX0_init 21 = .ok (.iadd, 1) := by decide +kernel
theorem dX0_init_22 : decode cX0_init 22 = .ok (.aload_n 0, 1) := by decide +kernel
theorem dX0_init_23 : decode cX0_init 23 = .ok (.getfield 15, 3) := by decide +kernel
theorem dX0_init_26 : decode cX0_init 26 = .ok (.idiv, 1) := by decide +kernel
theorem dX0_init_27 : decode cX0_init 27 = .ok (.invokestatic 19, 3) := by decide +kernel
theorem dX0_init_30 : decode cX0_init 30 = .ok (.putfield 24, 3) := by decide +kernel
theorem dX0_init_33 : decode cX0_init 33 = .ok (.aload_n 0, 1) := by decide +kernel
theorem dX0_init_34 : decode cX0_init 34 = .ok (.iload_n 1, 1) := by decide +kernel
theorem dX0_init_35 : decode cX0_init 35 = .ok (.iload_n 2, 1) := by decide +kernel
theorem dX0_init_36 : decode cX0_init 36 = .ok (.aload_n 0, 1) := by decide +kernel
theorem dX0_init_37 : decode cX0_init 37 = .ok (.getfield 15, 3) := by decide +kernel
theorem dX0_init_40 : decode cX0_init 40 = .ok (.invokestatic 27, 3) := by decide +kernel
theorem dX0_init_43 : decode cX0_init 43 = .ok (.aload_n 0, 1) := by decide +kernel
theorem dX0_init_44 : decode cX0_init 44 = .ok (.getfield 24, 3) := by decide +kernel
theorem dX0_init_47 : decode cX0_init 47 = .ok (.invokestatic 31, 3) := by decide +kernel
theorem dX0_init_50 : decode cX0_init 50 = .ok (.putfield 34, 3) := by decide +kernel
theorem dX0_init_53 : decode cX0_init 53 = .ok (.aload_n 0, 1) := by decide +kernel
theorem dX0_init_54 : decode cX0_init 54 = .ok (.aload_n 0, 1) := by decide +kernel
theorem dX0_init_55 : decode cX0_init 55 = .ok (.getfield 15, 3) := by decide +kernel
theorem dX0_init_58 : decode cX0_init 58 = .ok (.aload_n 0, 1) := by decide +kernel
theorem dX0_init_59 : decode cX0_init 59 = .ok (.getfield 24, 3) := by decide +kernel
theorem dX0_init_62 : decode cX0_init 62 = .ok (.imul, 1) := by decide +kernel
theorem dX0_init_63 : decode cX0_init 63 = .ok (.newarray .int, 2) := by decide +kernel
theorem dX0_init_65 : decode cX0_init 65 = .ok (.putfield 37, 3) := by decide +kernel
theorem dX0_init_68 : decode cX0_init 68 = .ok (.aload_n 0, 1) := by decide +kernel
theorem dX0_init_69 : decode cX0_init 69 = .ok (.aload_n 0, 1) := by decide +kernel
theorem dX0_init_70 : decode cX0_init 70 = .ok (.invokevirtual 41, 3) := by decide +kernel
theorem dX0_init_73 : decode cX0_init 73 = .ok (.invokevirtual 45, 3) := by decide +kernel
theorem dX0_init_76 : decode cX0_init 76 = .ok (.return_, 1) := by decide +kernel
theorem dX0_commonDivisor_0 : decode cX0_commonDivisor 0 = .ok (.bipush 12, 2) := by decide +kernel
theorem dX0_commonDivisor_2 : decode cX0_commonDivisor 2 = .ok (.istore_n 2, 1) := by decide +kernel
theorem dX0_commonDivisor_3 : decode cX0_commonDivisor 3 = .ok (.iload_n 2, 1) := by decide +kernel
theorem dX0_commonDivisor_4 : decode cX0_commonDivisor 4 = .ok (.iconst 1, 1) := by decide +kernel
theorem dX0_commonDivisor_5 : decode cX0_commonDivisor 5 = .ok (.if_icmp .le 23, 3) := by decide +kernel
theorem dX0_commonDivisor_8 : decode cX0_commonDivisor 8 = .ok (.iload_n 0, 1) := by decide +kernel
theorem dX0_commonDivisor_9 : decode cX0_commonDivisor 9 = .ok (.iload_n 2, 1) := by decide +kernel
theorem dX0_commonDivisor_10 : decode cX0_commonDivisor 10 = .ok (.irem, 1) := by decide +kernel
theorem dX0_commonDivisor_11 : decode cX0_commonDivisor 11 = .ok (.ifCond .ne 11, 3) := by decide +kernel
theorem dX0_commonDivisor_14 : decode cX0_commonDivisor 14 = .ok (.iload_n 1, 1) := by decide +kernel
theorem dX0_commonDivisor_15 : decode cX0_commonDivisor 15 = .ok (.iload_n 2, 1) := by decide +kernel
theorem dX0_commonDivisor_16 : decode cX0_commonDivisor 16 = .ok (.irem, 1) := by decide +kernel
theorem dX0_commonDivisor_17 : decode cX0_commonDivisor 17 = .ok (.ifCond .ne 5, 3) := by decide +kernel
theorem dX0_commonDivisor_20 : decode cX0_commonDivisor 20 = .ok (.iload_n 2, 1) := by decide +kernel
theorem dX0_commonDivisor_21 : decode cX0_commonDivisor 21 = .ok (.ireturn, 1) := by decide +kernel
theorem dX0_commonDivisor_22 : decode cX0_commonDivisor 22 = .ok (.iinc 2 (-1), 3) := by decide +kernel
theorem dX0_commonDivisor_25 : decode cX0_commonDivisor 25 = .ok (.goto (-22), 3) := by decide +kernel
theorem dX0_commonDivisor_28 : decode cX0_commonDivisor 28 = .ok (.iconst 1, 1) := by decide +kernel
theorem dX0_commonDivisor_29 : decode cX0_commonDivisor 29 = .ok (.ireturn, 1) := by decide +kernel
theorem dX0_sideways_0 : decode cX0_sideways 0 = .ok (.bipush (-12), 2) := by decide +kernel
theorem dX0_sideways_2 : decode cX0_sideways 2 = .ok (.istore_n 3, 1) := by decide +kernel
theorem dX0_sideways_3 : decode cX0_sideways 3 = .ok (.iload_n 3, 1) := by decide +kernel
theorem dX0_sideways_4 : decode cX0_sideways 4 = .ok (.bipush 12, 2) := by decide +kernel
theorem dX0_sideways_6 : decode cX0_sideways 6 = .ok (.if_icmp .gt 47, 3) := by decide +kernel
theorem dX0_sideways_9 : decode cX0_sideways 9 = .ok (.bipush (-12), 2) := by decide +kernel
theorem dX0_sideways_11 : decode cX0_sideways 11 = .ok (.istore 4, 2) := by decide +kernel
theorem dX0_sideways_13 : decode cX0_sideways 13 = .ok (.iload 4, 2) := by decide +kernel
theorem dX0_sideways_15 : decode cX0_sideways 15 = .ok (.bipush 12, 2) := by decide +kernel
theorem dX0_sideways_17 : decode cX0_sideways 17 = .ok (.if_icmp .gt 30, 3) := by decide +kernel
theorem dX0_sideways_20 : decode cX0_sideways 20 = .ok (.iload_n 1, 1) := by decide +kernel
theorem dX0_sideways_21 : decode cX0_sideways 21 = .ok (.iload_n 3, 1) := by decide +kernel
theorem dX0_sideways_22 : decode cX0_sideways 22 = .ok (.imul, 1) := by decide +kernel
theorem dX0_sideways_23 : decode cX0_sideways 23 = .ok (.iload_n 0, 1) := by decide +kernel
theorem dX0_sideways_24 : decode cX0_sideways 24 = .ok (.iload 4, 2) := by decide +kernel
theorem dX0_sideways_26 : decode cX0_sideways 26 = .ok (.imul, 1) := by decide +kernel
theorem dX0_sideways_27 : decode cX0_sideways 27 = .ok (.iadd, 1) := by decide +kernel
theorem dX0_sideways_28 : decode cX0_sideways 28 = .ok (.iload_n 2, 1) := by decide +kernel
theorem dX0_sideways_29 : decode cX0_sideways 29 = .ok (.if_icmp .ne 12, 3) := by decide +kernel
theorem dX0_sideways_32 : decode cX0_sideways 32 = .ok (.iload_n 0, 1) := by decide +kernel
theorem dX0_sideways_33 : decode cX0_sideways 33 = .ok (.iload_n 3, 1) := by decide +kernel
theorem dX0_sideways_34 : decode cX0_sideways 34 = .ok (.imul, 1) := by decide +kernel
theorem dX0_sideways_35 : decode cX0_sideways 35 = .ok (.iload_n 1, 1) := by decide +kernel
theorem dX0_sideways_36 : decode cX0_sideways 36 = .ok (.iload 4, 2) := by decide +kernel
theorem dX0_sideways_38 : decode cX0_sideways 38 = .ok (.imul, 1) := by decide +kernel
theorem dX0_sideways_39 : decode cX0_sideways 39 = .ok (.isub, 1) := by decide +kernel
theorem dX0_sideways_40 : decode cX0_sideways 40 = .ok (.ireturn, 1) := by decide +kernel
theorem dX0_sideways_41 : decode cX0_sideways 41 = .ok (.iinc 4 1, 3) := by decide +kernel
theorem dX0_sideways_44 : decode cX0_sideways 44 = .ok (.goto (-31), 3) := by decide +kernel
theorem dX0_sideways_47 : decode cX0_sideways 47 = .ok (.iinc 3 1, 3) := by decide +kernel
theorem dX0_sideways_50 : decode cX0_sideways 50 = .ok (.goto (-47), 3) := by decide +kernel
theorem dX0_sideways_53 : decode cX0_sideways 53 = .ok (.iconst 0, 1) := by decide +kernel
theorem dX0_sideways_54 : decode cX0_sideways 54 = .ok (.ireturn, 1) := by decide +kernel
theorem dX0_numberOf_0 : decode cX0_numberOf 0 = .ok (.iload_n 2, 1) := by decide +kernel
theorem dX0_numberOf_1 : decode cX0_numberOf 1 = .ok (.aload_n 0, 1) := by decide +kernel
theorem dX0_numberOf_2 : decode cX0_numberOf 2 = .ok (.getfield 15, 3) := by decide +kernel
theorem dX0_numberOf_5 : decode cX0_numberOf 5 = .ok (.invokestatic 49, 3) := by decide +kernel
theorem dX0_numberOf_8 : decode cX0_numberOf 8 = .ok (.istore_n 3, 1) := by decide +kernel
theorem dX0_numberOf_9 : decode cX0_numberOf 9 = .ok (.iload_n 1, 1) := by decide +kernel
theorem dX0_numberOf_10 : decode cX0_numberOf 10 = .ok (.iload_n 3, 1) := by decide +kernel
theorem dX0_numberOf_11 : decode cX0_numberOf 11 = .ok (.aload_n 0, 1) := by decide +kernel
theorem dX0_numberOf_12 : decode cX0_numberOf 12 = .ok (.getfield 34, 3) := by decide +kernel
theorem dX0_numberOf_15 : decode cX0_numberOf 15 = .ok (.imul, 1) := by decide +kernel
theorem dX0_numberOf_16 : decode cX0_numberOf 16 = .ok (.isub, 1) := by decide +kernel
theorem dX0_numberOf_17 : decode cX0_numberOf 17 = .ok (.aload_n 0, 1) := by decide +kernel
theorem dX0_numberOf_18 : decode cX0_numberOf 18 = .ok (.getfield 24, 3) := by decide +kernel
theorem dX0_numberOf_21 : decode cX0_numberOf 21 = .ok (.invokestatic 31, 3) := by decide +kernel
theorem dX0_numberOf_24 : decode cX0_numberOf 24 = .ok (.iload_n 2, 1) := by decide +kernel
theorem dX0_numberOf_25 : decode cX0_numberOf 25 = .ok (.iload_n 3, 1) := by decide +kernel
theorem dX0_numberOf_26 : decode cX0_numberOf 26 = .ok (.aload_n 0, 1) := by decide +kernel
theorem dX0_numberOf_27 : decode cX0_numberOf 27 = .ok (.getfield 15, 3) := by decide +kernel
theorem dX0_numberOf_30 : decode cX0_numberOf 30 = .ok (.imul, 1) := by decide +kernel
theorem dX0_numberOf_31 : decode cX0_numberOf 31 = .ok (.isub, 1) := by decide +kernel
theorem dX0_numberOf_32 : decode cX0_numberOf 32 = .ok (.aload_n 0, 1) := by decide +kernel
theorem dX0_numberOf_33 : decode cX0_numberOf 33 = .ok (.getfield 24, 3) := by decide +kernel
theorem dX0_numberOf_36 : decode cX0_numberOf 36 = .ok (.imul, 1) := by decide +kernel
theorem dX0_numberOf_37 : decode cX0_numberOf 37 = .ok (.iadd, 1) := by decide +kernel
theorem dX0_numberOf_38 : decode cX0_numberOf 38 = .ok (.ireturn, 1) := by decide +kernel
theorem dX0_leastSizes_0 : decode cX0_leastSizes 0 = .ok (.aload_n 0, 1) := by decide +kernel
theorem dX0_leastSizes_1 : decode cX0_leastSizes 1 = .ok (.getfield 37, 3) := by decide +kernel
theorem dX0_leastSizes_4 : decode cX0_leastSizes 4 = .ok (.arraylength, 1) := by decide +kernel
theorem dX0_leastSizes_5 : decode cX0_leastSizes 5 = .ok (.newarray .int, 2) := by decide +kernel
theorem dX0_leastSizes_7 : decode cX0_leastSizes 7 = .ok (.astore_n 1, 1) := by decide +kernel
theorem dX0_leastSizes_8 : decode cX0_leastSizes 8 = .ok (.iconst 0, 1) := by decide +kernel
theorem dX0_leastSizes_9 : decode cX0_leastSizes 9 = .ok (.istore_n 2, 1) := by decide +kernel
theorem dX0_leastSizes_10 : decode cX0_leastSizes 10 = .ok (.iload_n 2, 1) := by decide +kernel
theorem dX0_leastSizes_11 : decode cX0_leastSizes 11 = .ok (.aload_n 1, 1) := by decide +kernel
theorem dX0_leastSizes_12 : decode cX0_leastSizes 12 = .ok (.arraylength, 1) := by decide +kernel
theorem dX0_leastSizes_13 : decode cX0_leastSizes 13 = .ok (.if_icmp .ge 15, 3) := by decide +kernel
theorem dX0_leastSizes_16 : decode cX0_leastSizes 16 = .ok (.aload_n 1, 1) := by decide +kernel
theorem dX0_leastSizes_17 : decode cX0_leastSizes 17 = .ok (.iload_n 2, 1) := by decide +kernel
theorem dX0_leastSizes_18 : decode cX0_leastSizes 18 = .ok (.sipush 288, 3) := by decide +kernel
theorem dX0_leastSizes_21 : decode cX0_leastSizes 21 = .ok (.iastore, 1) := by decide +kernel
theorem dX0_leastSizes_22 : decode cX0_leastSizes 22 = .ok (.iinc 2 1, 3) := by decide +kernel
theorem dX0_leastSizes_25 : decode cX0_leastSizes 25 = .ok (.goto (-15), 3) := by decide +kernel
theorem dX0_leastSizes_28 : decode cX0_leastSizes 28 = .ok (.bipush (-12), 2) := by decide +kernel
theorem dX0_leastSizes_30 : decode cX0_leastSizes 30 = .ok (.istore_n 2, 1) := by decide +kernel
theorem dX0_leastSizes_31 : decode cX0_leastSizes 31 = .ok (.iload_n 2, 1) := by decide +kernel
theorem dX0_leastSizes_32 : decode cX0_leastSizes 32 = .ok (.bipush 12, 2) := by decide +kernel
theorem dX0_leastSizes_34 : decode cX0_leastSizes 34 = .ok (.if_icmp .gt 50, 3) := by decide +kernel
theorem dX0_leastSizes_37 : decode cX0_leastSizes 37 = .ok (.bipush (-12), 2) := by decide +kernel
theorem dX0_leastSizes_39 : decode cX0_leastSizes 39 = .ok (.istore_n 3, 1) := by decide +kernel
theorem dX0_leastSizes_40 : decode cX0_leastSizes 40 = .ok (.iload_n 3, 1) := by decide +kernel
theorem dX0_leastSizes_41 : decode cX0_leastSizes 41 = .ok (.bipush 12, 2) := by decide +kernel
theorem dX0_leastSizes_43 : decode cX0_leastSizes 43 = .ok (.if_icmp .gt 35, 3) := by decide +kernel
theorem dX0_leastSizes_46 : decode cX0_leastSizes 46 = .ok (.aload_n 0, 1) := by decide +kernel
theorem dX0_leastSizes_47 : decode cX0_leastSizes 47 = .ok (.iload_n 3, 1) := by decide +kernel
theorem dX0_leastSizes_48 : decode cX0_leastSizes 48 = .ok (.iload_n 2, 1) := by decide +kernel
theorem dX0_leastSizes_49 : decode cX0_leastSizes 49 = .ok (.invokevirtual 52, 3) := by decide +kernel
theorem dX0_leastSizes_52 : decode cX0_leastSizes 52 = .ok (.istore 4, 2) := by decide +kernel
theorem dX0_leastSizes_54 : decode cX0_leastSizes 54 = .ok (.aload_n 1, 1) := by decide +kernel
theorem dX0_leastSizes_55 : decode cX0_leastSizes 55 = .ok (.iload 4, 2) := by decide +kernel
theorem dX0_leastSizes_57 : decode cX0_leastSizes 57 = .ok (.aload_n 1, 1) := by decide +kernel
theorem dX0_leastSizes_58 : decode cX0_leastSizes 58 = .ok (.iload 4, 2) := by decide +kernel
theorem dX0_leastSizes_60 : decode cX0_leastSizes 60 = .ok (.iaload, 1) := by decide +kernel
theorem dX0_leastSizes_61 : decode cX0_leastSizes 61 = .ok (.iload_n 3, 1) := by decide +kernel
theorem dX0_leastSizes_62 : decode cX0_leastSizes 62 = .ok (.iload_n 3, 1) := by decide +kernel
theorem dX0_leastSizes_63 : decode cX0_leastSizes 63 = .ok (.imul, 1) := by decide +kernel
theorem dX0_leastSizes_64 : decode cX0_leastSizes 64 = .ok (.iload_n 2, 1) := by decide +kernel
theorem dX0_leastSizes_65 : decode cX0_leastSizes 65 = .ok (.iload_n 2, 1) := by decide +kernel
theorem dX0_leastSizes_66 : decode cX0_leastSizes 66 = .ok (.imul, 1) := by decide +kernel
theorem dX0_leastSizes_67 : decode cX0_leastSizes 67 = .ok (.iadd, 1) := by decide +kernel
theorem dX0_leastSizes_68 : decode cX0_leastSizes 68 = .ok (.invokestatic 55, 3) := by decide +kernel
theorem dX0_leastSizes_71 : decode cX0_leastSizes 71 = .ok (.iastore, 1) := by decide +kernel
theorem dX0_leastSizes_72 : decode cX0_leastSizes 72 = .ok (.iinc 3 1, 3) := by decide +kernel
theorem dX0_leastSizes_75 : decode cX0_leastSizes 75 = .ok (.goto (-35), 3) := by decide +kernel
theorem dX0_leastSizes_78 : decode cX0_leastSizes 78 = .ok (.iinc 2 1, 3) := by decide +kernel
theorem dX0_leastSizes_81 : decode cX0_leastSizes 81 = .ok (.goto (-50), 3) := by decide +kernel
theorem dX0_leastSizes_84 : decode cX0_leastSizes 84 = .ok (.aload_n 1, 1) := by decide +kernel
theorem dX0_leastSizes_85 : decode cX0_leastSizes 85 = .ok (.areturn, 1) := by decide +kernel
theorem dX0_rankBySize_0 : decode cX0_rankBySize 0 = .ok (.sipush 290, 3) := by decide +kernel
theorem dX0_rankBySize_3 : decode cX0_rankBySize 3 = .ok (.newarray .int, 2) := by decide +kernel
theorem dX0_rankBySize_5 : decode cX0_rankBySize 5 = .ok (.astore_n 2, 1) := by decide +kernel
theorem dX0_rankBySize_6 : decode cX0_rankBySize 6 = .ok (.aload_n 1, 1) := by decide +kernel
theorem dX0_rankBySize_7 : decode cX0_rankBySize 7 = .ok (.astore_n 3, 1) := by decide +kernel
theorem dX0_rankBySize_8 : decode cX0_rankBySize 8 = .ok (.aload_n 3, 1) := by decide +kernel
theorem dX0_rankBySize_9 : decode cX0_rankBySize 9 = .ok (.arraylength, 1) := by decide +kernel
theorem dX0_rankBySize_10 : decode cX0_rankBySize 10 = .ok (.istore 4, 2) := by decide +kernel
theorem dX0_rankBySize_12 : decode cX0_rankBySize 12 = .ok (.iconst 0, 1) := by decide +kernel
theorem dX0_rankBySize_13 : decode cX0_rankBySize 13 = .ok (.istore 5, 2) := by decide +kernel
theorem dX0_rankBySize_15 : decode cX0_rankBySize 15 = .ok (.iload 5, 2) := by decide +kernel
theorem dX0_rankBySize_17 : decode cX0_rankBySize 17 = .ok (.iload 4, 2) := by decide +kernel
theorem dX0_rankBySize_19 : decode cX0_rankBySize 19 = .ok (.if_icmp .ge 25, 3) := by decide +kernel
theorem dX0_rankBySize_22 : decode cX0_rankBySize 22 = .ok (.aload_n 3, 1) := by decide +kernel
theorem dX0_rankBySize_23 : decode cX0_rankBySize 23 = .ok (.iload 5, 2) := by decide +kernel
theorem dX0_rankBySize_25 : decode cX0_rankBySize 25 = .ok (.iaload, 1) := by decide +kernel
theorem dX0_rankBySize_26 : decode cX0_rankBySize 26 = .ok (.istore 6, 2) := by decide +kernel
theorem dX0_rankBySize_28 : decode cX0_rankBySize 28 = .ok (.aload_n 2, 1) := by decide +kernel
theorem dX0_rankBySize_29 : decode cX0_rankBySize 29 = .ok (.iload 6, 2) := by decide +kernel
theorem dX0_rankBySize_31 : decode cX0_rankBySize 31 = .ok (.iconst 1, 1) := by decide +kernel
theorem dX0_rankBySize_32 : decode cX0_rankBySize 32 = .ok (.iadd, 1) := by decide +kernel
theorem dX0_rankBySize_33 : decode cX0_rankBySize 33 = .ok (.dup2, 1) := by decide +kernel
theorem dX0_rankBySize_34 : decode cX0_rankBySize 34 = .ok (.iaload, 1) := by decide +kernel
theorem dX0_rankBySize_35 : decode cX0_rankBySize 35 = .ok (.iconst 1, 1) := by decide +kernel
theorem dX0_rankBySize_36 : decode cX0_rankBySize 36 = .ok (.iadd, 1) := by decide +kernel
theorem dX0_rankBySize_37 : decode cX0_rankBySize 37 = .ok (.iastore, 1) := by decide +kernel
theorem dX0_rankBySize_38 : decode cX0_rankBySize 38 = .ok (.iinc 5 1, 3) := by decide +kernel
theorem dX0_rankBySize_41 : decode cX0_rankBySize 41 = .ok (.goto (-26), 3) := by decide +kernel
theorem dX0_rankBySize_44 : decode cX0_rankBySize 44 = .ok (.iconst 1, 1) := by decide +kernel
theorem dX0_rankBySize_45 : decode cX0_rankBySize 45 = .ok (.istore_n 3, 1) := by decide +kernel
theorem dX0_rankBySize_46 : decode cX0_rankBySize 46 = .ok (.iload_n 3, 1) := by decide +kernel
theorem dX0_rankBySize_47 : decode cX0_rankBySize 47 = .ok (.sipush 288, 3) := by decide +kernel
theorem dX0_rankBySize_50 : decode cX0_rankBySize 50 = .ok (.if_icmp .gt 20, 3) := by decide +kernel
theorem dX0_rankBySize_53 : decode cX0_rankBySize 53 = .ok (.aload_n 2, 1) := by decide +kernel
theorem dX0_rankBySize_54 : decode cX0_rankBySize 54 = .ok (.iload_n 3, 1) := by decide +kernel
theorem dX0_rankBySize_55 : decode cX0_rankBySize 55 = .ok (.dup2, 1) := by decide +kernel
theorem dX0_rankBySize_56 : decode cX0_rankBySize 56 = .ok (.iaload, 1) := by decide +kernel
theorem dX0_rankBySize_57 : decode cX0_rankBySize 57 = .ok (.aload_n 2, 1) := by decide +kernel
theorem dX0_rankBySize_58 : decode cX0_rankBySize 58 = .ok (.iload_n 3, 1) := by decide +kernel
theorem dX0_rankBySize_59 : decode cX0_rankBySize 59 = .ok (.iconst 1, 1) := by decide +kernel
theorem dX0_rankBySize_60 : decode cX0_rankBySize 60 = .ok (.isub, 1) := by decide +kernel
theorem dX0_rankBySize_61 : decode cX0_rankBySize 61 = .ok (.iaload, 1) := by decide +kernel
theorem dX0_rankBySize_62 : decode cX0_rankBySize 62 = .ok (.iadd, 1) := by decide +kernel
theorem dX0_rankBySize_63 : decode cX0_rankBySize 63 = .ok (.iastore, 1) := by decide +kernel
theorem dX0_rankBySize_64 : decode cX0_rankBySize 64 = .ok (.iinc 3 1, 3) := by decide +kernel
theorem dX0_rankBySize_67 : decode cX0_rankBySize 67 = .ok (.goto (-21), 3) := by decide +kernel
theorem dX0_rankBySize_70 : decode cX0_rankBySize 70 = .ok (.iconst 0, 1) := by decide +kernel
theorem dX0_rankBySize_71 : decode cX0_rankBySize 71 = .ok (.istore_n 3, 1) := by decide +kernel
theorem dX0_rankBySize_72 : decode cX0_rankBySize 72 = .ok (.iload_n 3, 1) := by decide +kernel
theorem dX0_rankBySize_73 : decode cX0_rankBySize 73 = .ok (.aload_n 1, 1) := by decide +kernel
theorem dX0_rankBySize_74 : decode cX0_rankBySize 74 = .ok (.arraylength, 1) := by decide +kernel
theorem dX0_rankBySize_75 : decode cX0_rankBySize 75 = .ok (.if_icmp .ge 29, 3) := by decide +kernel
theorem dX0_rankBySize_78 : decode cX0_rankBySize 78 = .ok (.aload_n 0, 1) := by decide +kernel
theorem dX0_rankBySize_79 : decode cX0_rankBySize 79 = .ok (.getfield 37, 3) := by decide +kernel
theorem dX0_rankBySize_82 : decode cX0_rankBySize 82 = .ok (.iload_n 3, 1) := by decide +kernel
theorem dX0_rankBySize_83 : decode cX0_rankBySize 83 = .ok (.aload_n 2, 1) := by decide +kernel
theorem dX0_rankBySize_84 : decode cX0_rankBySize 84 = .ok (.aload_n 1, 1) := by decide +kernel
theorem dX0_rankBySize_85 : decode cX0_rankBySize 85 = .ok (.iload_n 3, 1) := by decide +kernel
theorem dX0_rankBySize_86 : decode cX0_rankBySize 86 = .ok (.iaload, 1) := by decide +kernel
theorem dX0_rankBySize_87 : decode cX0_rankBySize 87 = .ok (.iaload, 1) := by decide +kernel
theorem dX0_rankBySize_88 : decode cX0_rankBySize 88 = .ok (.iastore, 1) := by decide +kernel
theorem dX0_rankBySize_89 : decode cX0_rankBySize 89 = .ok (.aload_n 2, 1) := by decide +kernel
theorem dX0_rankBySize_90 : decode cX0_rankBySize 90 = .ok (.aload_n 1, 1) := by decide +kernel
theorem dX0_rankBySize_91 : decode cX0_rankBySize 91 = .ok (.iload_n 3, 1) := by decide +kernel
theorem dX0_rankBySize_92 : decode cX0_rankBySize 92 = .ok (.iaload, 1) := by decide +kernel
theorem dX0_rankBySize_93 : decode cX0_rankBySize 93 = .ok (.dup2, 1) := by decide +kernel
theorem dX0_rankBySize_94 : decode cX0_rankBySize 94 = .ok (.iaload, 1) := by decide +kernel
theorem dX0_rankBySize_95 : decode cX0_rankBySize 95 = .ok (.iconst 1, 1) := by decide +kernel
theorem dX0_rankBySize_96 : decode cX0_rankBySize 96 = .ok (.iadd, 1) := by decide +kernel
theorem dX0_rankBySize_97 : decode cX0_rankBySize 97 = .ok (.iastore, 1) := by decide +kernel
theorem dX0_rankBySize_98 : decode cX0_rankBySize 98 = .ok (.iinc 3 1, 3) := by decide +kernel
theorem dX0_rankBySize_101 : decode cX0_rankBySize 101 = .ok (.goto (-29), 3) := by decide +kernel
theorem dX0_rankBySize_104 : decode cX0_rankBySize 104 = .ok (.return_, 1) := by decide +kernel
theorem dX0_takes_0 : decode cX0_takes 0 = .ok (.aload_n 0, 1) := by decide +kernel
theorem dX0_takes_1 : decode cX0_takes 1 = .ok (.getfield 37, 3) := by decide +kernel
theorem dX0_takes_4 : decode cX0_takes 4 = .ok (.aload_n 0, 1) := by decide +kernel
theorem dX0_takes_5 : decode cX0_takes 5 = .ok (.iload_n 2, 1) := by decide +kernel
theorem dX0_takes_6 : decode cX0_takes 6 = .ok (.iload_n 3, 1) := by decide +kernel
theorem dX0_takes_7 : decode cX0_takes 7 = .ok (.invokevirtual 52, 3) := by decide +kernel
theorem dX0_takes_10 : decode cX0_takes 10 = .ok (.iaload, 1) := by decide +kernel
theorem dX0_takes_11 : decode cX0_takes 11 = .ok (.iload_n 1, 1) := by decide +kernel
theorem dX0_takes_12 : decode cX0_takes 12 = .ok (.aload_n 0, 1) := by decide +kernel
theorem dX0_takes_13 : decode cX0_takes 13 = .ok (.getfield 37, 3) := by decide +kernel
theorem dX0_takes_16 : decode cX0_takes 16 = .ok (.arraylength, 1) := by decide +kernel
theorem dX0_takes_17 : decode cX0_takes 17 = .ok (.imul, 1) := by decide +kernel
theorem dX0_takes_18 : decode cX0_takes 18 = .ok (.bipush 127, 2) := by decide +kernel
theorem dX0_takes_20 : decode cX0_takes 20 = .ok (.iadd, 1) := by decide +kernel
theorem dX0_takes_21 : decode cX0_takes 21 = .ok (.sipush 255, 3) := by decide +kernel
theorem dX0_takes_24 : decode cX0_takes 24 = .ok (.idiv, 1) := by decide +kernel
theorem dX0_takes_25 : decode cX0_takes 25 = .ok (.if_icmp .ge 7, 3) := by decide +kernel
theorem dX0_takes_28 : decode cX0_takes 28 = .ok (.iconst 1, 1) := by decide +kernel
theorem dX0_takes_29 : decode cX0_takes 29 = .ok (.goto 4, 3) := by decide +kernel
theorem dX0_takes_32 : decode cX0_takes 32 = .ok (.iconst 0, 1) := by decide +kernel
theorem dX0_takes_33 : decode cX0_takes 33 = .ok (.ireturn, 1) := by decide +kernel
theorem dX1_init_0 : decode cX1_init 0 = .ok (.aload_n 0, 1) := by decide +kernel
theorem dX1_init_1 : decode cX1_init 1 = .ok (.invokespecial 3, 3) := by decide +kernel
theorem dX1_init_4 : decode cX1_init 4 = .ok (.aload_n 0, 1) := by decide +kernel
theorem dX1_init_5 : decode cX1_init 5 = .ok (.bipush 12, 2) := by decide +kernel
theorem dX1_init_7 : decode cX1_init 7 = .ok (.newarray .int, 2) := by decide +kernel
theorem dX1_init_9 : decode cX1_init 9 = .ok (.putfield 11, 3) := by decide +kernel
theorem dX1_init_12 : decode cX1_init 12 = .ok (.aload_n 0, 1) := by decide +kernel
theorem dX1_init_13 : decode cX1_init 13 = .ok (.bipush 12, 2) := by decide +kernel
theorem dX1_init_15 : decode cX1_init 15 = .ok (.newarray .int, 2) := by decide +kernel
theorem dX1_init_17 : decode cX1_init 17 = .ok (.putfield 15, 3) := by decide +kernel
theorem dX1_init_20 : decode cX1_init 20 = .ok (.aload_n 0, 1) := by decide +kernel
theorem dX1_init_21 : decode cX1_init 21 = .ok (.getfield 11, 3) := by decide +kernel
theorem dX1_init_24 : decode cX1_init 24 = .ok (.iconst 1, 1) := by decide +kernel
theorem dX1_init_25 : decode cX1_init 25 = .ok (.sipush 255, 3) := by decide +kernel
theorem dX1_init_28 : decode cX1_init 28 = .ok (.iastore, 1) := by decide +kernel
theorem dX1_init_29 : decode cX1_init 29 = .ok (.aload_n 0, 1) := by decide +kernel
theorem dX1_init_30 : decode cX1_init 30 = .ok (.getfield 15, 3) := by decide +kernel
theorem dX1_init_33 : decode cX1_init 33 = .ok (.iconst 1, 1) := by decide +kernel
theorem dX1_init_34 : decode cX1_init 34 = .ok (.sipush 255, 3) := by decide +kernel
theorem dX1_init_37 : decode cX1_init 37 = .ok (.iastore, 1) := by decide +kernel
theorem dX1_init_38 : decode cX1_init 38 = .ok (.aload_n 0, 1) := by decide +kernel
theorem dX1_init_39 : decode cX1_init 39 = .ok (.iconst 2, 1) := by decide +kernel
theorem dX1_init_40 : decode cX1_init 40 = .ok (.putfield 18, 3) := by decide +kernel
theorem dX1_init_43 : decode cX1_init 43 = .ok (.return_, 1) := by decide +kernel
theorem dX1_firstFrom_0 : decode cX1_firstFrom 0 = .ok (.iconst 0, 1) := by decide +kernel
theorem dX1_firstFrom_1 : decode cX1_firstFrom 1 = .ok (.istore_n 2, 1) := by decide +kernel
theorem dX1_firstFrom_2 : decode cX1_firstFrom 2 = .ok (.iload_n 2, 1) := by decide +kernel
theorem dX1_firstFrom_3 : decode cX1_firstFrom 3 = .ok (.aload_n 0, 1) := by decide +kernel
theorem dX1_firstFrom_4 : decode cX1_firstFrom 4 = .ok (.getfield 18, 3) := by decide +kernel
theorem dX1_firstFrom_7 : decode cX1_firstFrom 7 = .ok (.iconst 1, 1) := by decide +kernel
theorem dX1_firstFrom_8 : decode cX1_firstFrom 8 = .ok (.isub, 1) := by decide +kernel
theorem dX1_firstFrom_9 : decode cX1_firstFrom 9 = .ok (.if_icmp .ge 19, 3) := by decide +kernel
theorem dX1_firstFrom_12 : decode cX1_firstFrom 12 = .ok (.aload_n 0, 1) := by decide +kernel
theorem dX1_firstFrom_13 : decode cX1_firstFrom 13 = .ok (.getfield 11, 3) := by decide +kernel
theorem dX1_firstFrom_16 : decode cX1_firstFrom 16 = .ok (.iload_n 2, 1) := by decide +kernel
theorem dX1_firstFrom_17 : decode cX1_firstFrom 17 = .ok (.iaload, 1) := by decide +kernel
theorem dX1_firstFrom_18 : decode cX1_firstFrom 18 = .ok (.iload_n 1, 1) := by decide +kernel
theorem dX1_firstFrom_19 : decode cX1_firstFrom 19 = .ok (.if_icmp .ge 9, 3) := by decide +kernel
theorem dX1_firstFrom_22 : decode cX1_firstFrom 22 = .ok (.iinc 2 1, 3) := by decide +kernel
theorem dX1_firstFrom_25 : decode cX1_firstFrom 25 = .ok (.goto (-23), 3) := by decide +kernel
theorem dX1_firstFrom_28 : decode cX1_firstFrom 28 = .ok (.iload_n 2, 1) := by decide +kernel
theorem dX1_firstFrom_29 : decode cX1_firstFrom 29 = .ok (.ireturn, 1) := by decide +kernel
theorem dX1_hasRoomFor_0 : decode cX1_hasRoomFor 0 = .ok (.aload_n 0, 1) := by decide +kernel
theorem dX1_hasRoomFor_1 : decode cX1_hasRoomFor 1 = .ok (.getfield 18, 3) := by decide +kernel
theorem dX1_hasRoomFor_4 : decode cX1_hasRoomFor 4 = .ok (.bipush 12, 2) := by decide +kernel
theorem dX1_hasRoomFor_6 : decode cX1_hasRoomFor 6 = .ok (.if_icmp .lt 17, 3) := by decide +kernel
theorem dX1_hasRoomFor_9 : decode cX1_hasRoomFor 9 = .ok (.aload_n 0, 1) := by decide +kernel
theorem dX1_hasRoomFor_10 : decode cX1_hasRoomFor 10 = .ok (.getfield 11, 3) := by decide +kernel
theorem dX1_hasRoomFor_13 : decode cX1_hasRoomFor 13 = .ok (.aload_n 0, 1) := by decide +kernel
theorem dX1_hasRoomFor_14 : decode cX1_hasRoomFor 14 = .ok (.iload_n 1, 1) := by decide +kernel
theorem dX1_hasRoomFor_15 : decode cX1_hasRoomFor 15 = .ok (.invokevirtual 22, 3) := by decide +kernel
theorem dX1_hasRoomFor_18 : decode cX1_hasRoomFor 18 = .ok (.iaload, 1) := by decide +kernel
theorem dX1_hasRoomFor_19 : decode cX1_hasRoomFor 19 = .ok (.iload_n 1, 1) := by decide +kernel
theorem dX1_hasRoomFor_20 : decode cX1_hasRoomFor 20 = .ok (.if_icmp .ne 7, 3) := by decide +kernel
theorem dX1_hasRoomFor_23 : decode cX1_hasRoomFor 23 = .ok (.iconst 1, 1) := by decide +kernel
theorem dX1_hasRoomFor_24 : decode cX1_hasRoomFor 24 = .ok (.goto 4, 3) := by decide +kernel
theorem dX1_hasRoomFor_27 : decode cX1_hasRoomFor 27 = .ok (.iconst 0, 1) := by decide +kernel
theorem dX1_hasRoomFor_28 : decode cX1_hasRoomFor 28 = .ok (.ireturn, 1) := by decide +kernel
theorem dX1_put_0 : decode cX1_put 0 = .ok (.aload_n 0, 1) := by decide +kernel
theorem dX1_put_1 : decode cX1_put 1 = .ok (.iload_n 1, 1) := by decide +kernel
theorem dX1_put_2 : decode cX1_put 2 = .ok (.invokevirtual 22, 3) := by decide +kernel
theorem dX1_put_5 : decode cX1_put 5 = .ok (.istore_n 3, 1) := by decide +kernel
theorem dX1_put_6 : decode cX1_put 6 = .ok (.aload_n 0, 1) := by decide +kernel
theorem dX1_put_7 : decode cX1_put 7 = .ok (.getfield 11, 3) := by decide +kernel
theorem dX1_put_10 : decode cX1_put 10 = .ok (.iload_n 3, 1) := by decide +kernel
theorem dX1_put_11 : decode cX1_put 11 = .ok (.iaload, 1) := by decide +kernel
theorem dX1_put_12 : decode cX1_put 12 = .ok (.iload_n 1, 1) := by decide +kernel
theorem dX1_put_13 : decode cX1_put 13 = .ok (.if_icmp .eq 63, 3) := by decide +kernel
theorem dX1_put_16 : decode cX1_put 16 = .ok (.aload_n 0, 1) := by decide +kernel
theorem dX1_put_17 : decode cX1_put 17 = .ok (.getfield 18, 3) := by decide +kernel
theorem dX1_put_20 : decode cX1_put 20 = .ok (.istore 4, 2) := by decide +kernel
theorem dX1_put_22 : decode cX1_put 22 = .ok (.iload 4, 2) := by decide +kernel
theorem dX1_put_24 : decode cX1_put 24 = .ok (.iload_n 3, 1) := by decide +kernel
theorem dX1_put_25 : decode cX1_put 25 = .ok (.if_icmp .le 41, 3) := by decide +kernel
theorem dX1_put_28 : decode cX1_put 28 = .ok (.aload_n 0, 1) := by decide +kernel
theorem dX1_put_29 : decode cX1_put 29 = .ok (.getfield 11, 3) := by decide +kernel
theorem dX1_put_32 : decode cX1_put 32 = .ok (.iload 4, 2) := by decide +kernel
theorem dX1_put_34 : decode cX1_put 34 = .ok (.aload_n 0, 1) := by decide +kernel
theorem dX1_put_35 : decode cX1_put 35 = .ok (.getfield 11, 3) := by decide +kernel
theorem dX1_put_38 : decode cX1_put 38 = .ok (.iload 4, 2) := by decide +kernel
theorem dX1_put_40 : decode cX1_put 40 = .ok (.iconst 1, 1) := by decide +kernel
theorem dX1_put_41 : decode cX1_put 41 = .ok (.isub, 1) := by decide +kernel
theorem dX1_put_42 : decode cX1_put 42 = .ok (.iaload, 1) := by decide +kernel
theorem dX1_put_43 : decode cX1_put 43 = .ok (.iastore, 1) := by decide +kernel
theorem dX1_put_44 : decode cX1_put 44 = .ok (.aload_n 0, 1) := by decide +kernel
theorem dX1_put_45 : decode cX1_put 45 = .ok (.getfield 15, 3) := by decide +kernel
theorem dX1_put_48 : decode cX1_put 48 = .ok (.iload 4, 2) := by decide +kernel
theorem dX1_put_50 : decode cX1_put 50 = .ok (.aload_n 0, 1) := by decide +kernel
theorem dX1_put_51 : decode cX1_put 51 = .ok (.getfield 15, 3) := by decide +kernel
theorem dX1_put_54 : decode cX1_put 54 = .ok (.iload 4, 2) := by decide +kernel
theorem dX1_put_56 : decode cX1_put 56 = .ok (.iconst 1, 1) := by decide +kernel
theorem dX1_put_57 : decode cX1_put 57 = .ok (.isub, 1) := by decide +kernel
theorem dX1_put_58 : decode cX1_put 58 = .ok (.iaload, 1) := by decide +kernel
theorem dX1_put_59 : decode cX1_put 59 = .ok (.iastore, 1) := by decide +kernel
theorem dX1_put_60 : decode cX1_put 60 = .ok (.iinc 4 (-1), 3) := by decide +kernel
theorem dX1_put_63 : decode cX1_put 63 = .ok (.goto (-41), 3) := by decide +kernel
theorem dX1_put_66 : decode cX1_put 66 = .ok (.aload_n 0, 1) := by decide +kernel
theorem dX1_put_67 : decode cX1_put 67 = .ok (.dup, 1) := by decide +kernel
theorem dX1_put_68 : decode cX1_put 68 = .ok (.getfield 18, 3) := by decide +kernel
theorem dX1_put_71 : decode cX1_put 71 = .ok (.iconst 1, 1) := by decide +kernel
theorem dX1_put_72 : decode cX1_put 72 = .ok (.iadd, 1) := by decide +kernel
theorem dX1_put_73 : decode cX1_put 73 = .ok (.putfield 18, 3) := by decide +kernel
theorem dX1_put_76 : decode cX1_put 76 = .ok (.aload_n 0, 1) := by decide +kernel
theorem dX1_put_77 : decode cX1_put 77 = .ok (.getfield 11, 3) := by decide +kernel
theorem dX1_put_80 : decode cX1_put 80 = .ok (.iload_n 3, 1) := by decide +kernel
theorem dX1_put_81 : decode cX1_put 81 = .ok (.iload_n 1, 1) := by decide +kernel
theorem dX1_put_82 : decode cX1_put 82 = .ok (.iastore, 1) := by decide +kernel
theorem dX1_put_83 : decode cX1_put 83 = .ok (.aload_n 0, 1) := by decide +kernel
theorem dX1_put_84 : decode cX1_put 84 = .ok (.getfield 15, 3) := by decide +kernel
theorem dX1_put_87 : decode cX1_put 87 = .ok (.iload_n 3, 1) := by decide +kernel
theorem dX1_put_88 : decode cX1_put 88 = .ok (.iload_n 2, 1) := by decide +kernel
theorem dX1_put_89 : decode cX1_put 89 = .ok (.iastore, 1) := by decide +kernel
theorem dX1_put_90 : decode cX1_put 90 = .ok (.return_, 1) := by decide +kernel
theorem dX1_bent_0 : decode cX1_bent 0 = .ok (.iconst 1, 1) := by decide +kernel
theorem dX1_bent_1 : decode cX1_bent 1 = .ok (.aload_n 0, 1) := by decide +kernel
theorem dX1_bent_2 : decode cX1_bent 2 = .ok (.iload_n 1, 1) := by decide +kernel
theorem dX1_bent_3 : decode cX1_bent 3 = .ok (.invokevirtual 22, 3) := by decide +kernel
theorem dX1_bent_6 : decode cX1_bent 6 = .ok (.invokestatic 26, 3) := by decide +kernel
theorem dX1_bent_9 : decode cX1_bent 9 = .ok (.istore_n 2, 1) := by decide +kernel
theorem dX1_bent_10 : decode cX1_bent 10 = .ok (.aload_n 0, 1) := by decide +kernel
theorem dX1_bent_11 : decode cX1_bent 11 = .ok (.getfield 11, 3) := by decide +kernel
theorem dX1_bent_14 : decode cX1_bent 14 = .ok (.iload_n 2, 1) := by decide +kernel
theorem dX1_bent_15 : decode cX1_bent 15 = .ok (.iaload, 1) := by decide +kernel
theorem dX1_bent_16 : decode cX1_bent 16 = .ok (.aload_n 0, 1) := by decide +kernel
theorem dX1_bent_17 : decode cX1_bent 17 = .ok (.getfield 11, 3) := by decide +kernel
theorem dX1_bent_20 : decode cX1_bent 20 = .ok (.iload_n 2, 1) := by decide +kernel
theorem dX1_bent_21 : decode cX1_bent 21 = .ok (.iconst 1, 1) := by decide +kernel
theorem dX1_bent_22 : decode cX1_bent 22 = .ok (.isub, 1) := by decide +kernel
theorem dX1_bent_23 : decode cX1_bent 23 = .ok (.iaload, 1) := by decide +kernel
theorem dX1_bent_24 : decode cX1_bent 24 = .ok (.isub, 1) := by decide +kernel
theorem dX1_bent_25 : decode cX1_bent 25 = .ok (.istore_n 3, 1) := by decide +kernel
theorem dX1_bent_26 : decode cX1_bent 26 = .ok (.aload_n 0, 1) := by decide +kernel
theorem dX1_bent_27 : decode cX1_bent 27 = .ok (.getfield 15, 3) := by decide +kernel
theorem dX1_bent_30 : decode cX1_bent 30 = .ok (.iload_n 2, 1) := by decide +kernel
theorem dX1_bent_31 : decode cX1_bent 31 = .ok (.iaload, 1) := by decide +kernel
theorem dX1_bent_32 : decode cX1_bent 32 = .ok (.aload_n 0, 1) := by decide +kernel
theorem dX1_bent_33 : decode cX1_bent 33 = .ok (.getfield 15, 3) := by decide +kernel
theorem dX1_bent_36 : decode cX1_bent 36 = .ok (.iload_n 2, 1) := by decide +kernel
theorem dX1_bent_37 : decode cX1_bent 37 = .ok (.iconst 1, 1) := by decide +kernel
theorem dX1_bent_38 : decode cX1_bent 38 = .ok (.isub, 1) := by decide +kernel
theorem dX1_bent_39 : decode cX1_bent 39 = .ok (.iaload, 1) := by decide +kernel
theorem dX1_bent_40 : decode cX1_bent 40 = .ok (.isub, 1) := by decide +kernel
theorem dX1_bent_41 : decode cX1_bent 41 = .ok (.istore 4, 2) := by decide +kernel
theorem dX1_bent_43 : decode cX1_bent 43 = .ok (.iload_n 3, 1) := by decide +kernel
theorem dX1_bent_44 : decode cX1_bent 44 = .ok (.ifCond .gt 12, 3) := by decide +kernel
theorem dX1_bent_47 : decode cX1_bent 47 = .ok (.aload_n 0, 1) := by decide +kernel
theorem dX1_bent_48 : decode cX1_bent 48 = .ok (.getfield 15, 3) := by decide +kernel
theorem dX1_bent_51 : decode cX1_bent 51 = .ok (.iload_n 2, 1) := by decide +kernel
theorem dX1_bent_52 : decode cX1_bent 52 = .ok (.iaload, 1) := by decide +kernel
theorem dX1_bent_53 : decode cX1_bent 53 = .ok (.goto 27, 3) := by decide +kernel
theorem dX1_bent_56 : decode cX1_bent 56 = .ok (.aload_n 0, 1) := by decide +kernel
theorem dX1_bent_57 : decode cX1_bent 57 = .ok (.getfield 15, 3) := by decide +kernel
theorem dX1_bent_60 : decode cX1_bent 60 = .ok (.iload_n 2, 1) := by decide +kernel
theorem dX1_bent_61 : decode cX1_bent 61 = .ok (.iconst 1, 1) := by decide +kernel
theorem dX1_bent_62 : decode cX1_bent 62 = .ok (.isub, 1) := by decide +kernel
theorem dX1_bent_63 : decode cX1_bent 63 = .ok (.iaload, 1) := by decide +kernel
theorem dX1_bent_64 : decode cX1_bent 64 = .ok (.iload 4, 2) := by decide +kernel
theorem dX1_bent_66 : decode cX1_bent 66 = .ok (.iload_n 1, 1) := by decide +kernel
theorem dX1_bent_67 : decode cX1_bent 67 = .ok (.aload_n 0, 1) := by decide +kernel
theorem dX1_bent_68 : decode cX1_bent 68 = .ok (.getfield 11, 3) := by decide +kernel
theorem dX1_bent_71 : decode cX1_bent 71 = .ok (.iload_n 2, 1) := by decide +kernel
theorem dX1_bent_72 : decode cX1_bent 72 = .ok (.iconst 1, 1) := by decide +kernel
theorem dX1_bent_73 : decode cX1_bent 73 = .ok (.isub, 1) := by decide +kernel
theorem dX1_bent_74 : decode cX1_bent 74 = .ok (.iaload, 1) := by decide +kernel
theorem dX1_bent_75 : decode cX1_bent 75 = .ok (.isub, 1) := by decide +kernel
theorem dX1_bent_76 : decode cX1_bent 76 = .ok (.imul, 1) := by decide +kernel
theorem dX1_bent_77 : decode cX1_bent 77 = .ok (.iload_n 3, 1) := by decide +kernel
theorem dX1_bent_78 : decode cX1_bent 78 = .ok (.idiv, 1) := by decide +kernel
theorem dX1_bent_79 : decode cX1_bent 79 = .ok (.iadd, 1) := by decide +kernel
theorem dX1_bent_80 : decode cX1_bent 80 = .ok (.ireturn, 1) := by decide +kernel
theorem dX2_init_0 : decode cX2_init 0 = .ok (.aload_n 0, 1) := by decide +kernel
theorem dX2_init_1 : decode cX2_init 1 = .ok (.invokespecial 3, 3) := by decide +kernel
theorem dX2_init_4 : decode cX2_init 4 = .ok (.aload_n 0, 1) := by decide +kernel
theorem dX2_init_5 : decode cX2_init 5 = .ok (.bipush 32, 2) := by decide +kernel
theorem dX2_init_7 : decode cX2_init 7 = .ok (.newarray .int, 2) := by decide +kernel
theorem dX2_init_9 : decode cX2_init 9 = .ok (.putfield 11, 3) := by decide +kernel
theorem dX2_init_12 : decode cX2_init 12 = .ok (.aload_n 0, 1) := by decide +kernel
theorem dX2_init_13 : decode cX2_init 13 = .ok (.bipush 8, 2) := by decide +kernel
theorem dX2_init_15 : decode cX2_init 15 = .ok (.newarray .int, 2) := by decide +kernel
theorem dX2_init_17 : decode cX2_init 17 = .ok (.putfield 15, 3) := by decide +kernel
theorem dX2_init_20 : decode cX2_init 20 = .ok (.iconst 0, 1) := by decide +kernel
theorem dX2_init_21 : decode cX2_init 21 = .ok (.istore_n 1, 1) := by decide +kernel
theorem dX2_init_22 : decode cX2_init 22 = .ok (.iload_n 1, 1) := by decide +kernel
theorem dX2_init_23 : decode cX2_init 23 = .ok (.bipush 8, 2) := by decide +kernel
theorem dX2_init_25 : decode cX2_init 25 = .ok (.if_icmp .ge 16, 3) := by decide +kernel
theorem dX2_init_28 : decode cX2_init 28 = .ok (.aload_n 0, 1) := by decide +kernel
theorem dX2_init_29 : decode cX2_init 29 = .ok (.getfield 15, 3) := by decide +kernel
theorem dX2_init_32 : decode cX2_init 32 = .ok (.iload_n 1, 1) := by decide +kernel
theorem dX2_init_33 : decode cX2_init 33 = .ok (.iconst (-1), 1) := by decide +kernel
theorem dX2_init_34 : decode cX2_init 34 = .ok (.iastore, 1) := by decide +kernel
theorem dX2_init_35 : decode cX2_init 35 = .ok (.iinc 1 1, 3) := by decide +kernel
theorem dX2_init_38 : decode cX2_init 38 = .ok (.goto (-16), 3) := by decide +kernel
theorem dX2_init_41 : decode cX2_init 41 = .ok (.iconst 0, 1) := by decide +kernel
theorem dX2_init_42 : decode cX2_init 42 = .ok (.istore_n 1, 1) := by decide +kernel
theorem dX2_init_43 : decode cX2_init 43 = .ok (.iload_n 1, 1) := by decide +kernel
theorem dX2_init_44 : decode cX2_init 44 = .ok (.iconst 4, 1) := by decide +kernel
theorem dX2_init_45 : decode cX2_init 45 = .ok (.if_icmp .ge 22, 3) := by decide +kernel
theorem dX2_init_48 : decode cX2_init 48 = .ok (.aload_n 0, 1) := by decide +kernel
theorem dX2_init_49 : decode cX2_init 49 = .ok (.getfield 11, 3) := by decide +kernel
theorem dX2_init_52 : decode cX2_init 52 = .ok (.iload_n 1, 1) := by decide +kernel
theorem dX2_init_53 : decode cX2_init 53 = .ok (.iconst 4, 1) := by decide +kernel
theorem dX2_init_54 : decode cX2_init 54 = .ok (.imul, 1) := by decide +kernel
theorem dX2_init_55 : decode cX2_init 55 = .ok (.iload_n 1, 1) := by decide +kernel
theorem dX2_init_56 : decode cX2_init 56 = .ok (.iadd, 1) := by decide +kernel
theorem dX2_init_57 : decode cX2_init 57 = .ok (.sipush 255, 3) := by decide +kernel
theorem dX2_init_60 : decode cX2_init 60 = .ok (.iastore, 1) := by decide +kernel
theorem dX2_init_61 : decode cX2_init 61 = .ok (.iinc 1 1, 3) := by decide +kernel
theorem dX2_init_64 : decode cX2_init 64 = .ok (.goto (-21), 3) := by decide +kernel
theorem dX2_init_67 : decode cX2_init 67 = .ok (.aload_n 0, 1) := by decide +kernel
theorem dX2_init_68 : decode cX2_init 68 = .ok (.iconst 4, 1) := by decide +kernel
theorem dX2_init_69 : decode cX2_init 69 = .ok (.putfield 18, 3) := by decide +kernel
theorem dX2_init_72 : decode cX2_init 72 = .ok (.return_, 1) := by decide +kernel
theorem dX2_addMix_0 : decode cX2_addMix 0 = .ok (.aload_n 0, 1) := by decide +kernel
theorem dX2_addMix_1 : decode cX2_addMix 1 = .ok (.getfield 18, 3) := by decide +kernel
theorem dX2_addMix_4 : decode cX2_addMix 4 = .ok (.iconst 4, 1) := by decide +kernel
theorem dX2_addMix_5 : decode cX2_addMix 5 = .ok (.imul, 1) := by decide +kernel
theorem dX2_addMix_6 : decode cX2_addMix 6 = .ok (.istore 5, 2) := by decide +kernel
theorem dX2_addMix_8 : decode cX2_addMix 8 = .ok (.aload_n 0, 1) := by decide +kernel
theorem dX2_addMix_9 : decode cX2_addMix 9 = .ok (.getfield 11, 3) := by decide +kernel
theorem dX2_addMix_12 : decode cX2_addMix 12 = .ok (.iload 5, 2) := by decide +kernel
theorem dX2_addMix_14 : decode cX2_addMix 14 = .ok (.iload_n 1, 1) := by decide +kernel
theorem dX2_addMix_15 : decode cX2_addMix 15 = .ok (.iastore, 1) := by decide +kernel
theorem dX2_addMix_16 : decode cX2_addMix 16 = .ok (.aload_n 0, 1) := by decide +kernel
theorem dX2_addMix_17 : decode cX2_addMix 17 = .ok (.getfield 11, 3) := by decide +kernel
theorem dX2_addMix_20 : decode cX2_addMix 20 = .ok (.iload 5, 2) := by decide +kernel
theorem dX2_addMix_22 : decode cX2_addMix 22 = .ok (.iconst 1, 1) := by decide +kernel
theorem dX2_addMix_23 : decode cX2_addMix 23 = .ok (.iadd, 1) := by decide +kernel
theorem dX2_addMix_24 : decode cX2_addMix 24 = .ok (.iload_n 2, 1) := by decide +kernel
theorem dX2_addMix_25 : decode cX2_addMix 25 = .ok (.iastore, 1) := by decide +kernel
theorem dX2_addMix_26 : decode cX2_addMix 26 = .ok (.aload_n 0, 1) := by decide +kernel
theorem dX2_addMix_27 : decode cX2_addMix 27 = .ok (.getfield 11, 3) := by decide +kernel
theorem dX2_addMix_30 : decode cX2_addMix 30 = .ok (.iload 5, 2) := by decide +kernel
theorem dX2_addMix_32 : decode cX2_addMix 32 = .ok (.iconst 2, 1) := by decide +kernel
theorem dX2_addMix_33 : decode cX2_addMix 33 = .ok (.iadd, 1) := by decide +kernel
theorem dX2_addMix_34 : decode cX2_addMix 34 = .ok (.iload_n 3, 1) := by decide +kernel
theorem dX2_addMix_35 : decode cX2_addMix 35 = .ok (.iastore, 1) := by decide +kernel
theorem dX2_addMix_36 : decode cX2_addMix 36 = .ok (.aload_n 0, 1) := by decide +kernel
theorem dX2_addMix_37 : decode cX2_addMix 37 = .ok (.getfield 11, 3) := by decide +kernel
theorem dX2_addMix_40 : decode cX2_addMix 40 = .ok (.iload 5, 2) := by decide +kernel
theorem dX2_addMix_42 : decode cX2_addMix 42 = .ok (.iconst 3, 1) := by decide +kernel
theorem dX2_addMix_43 : decode cX2_addMix 43 = .ok (.iadd, 1) := by decide +kernel
theorem dX2_addMix_44 : decode cX2_addMix 44 = .ok (.iload 4, 2) := by decide +kernel
theorem dX2_addMix_46 : decode cX2_addMix 46 = .ok (.iastore, 1) := by decide +kernel
theorem dX2_addMix_47 : decode cX2_addMix 47 = .ok (.aload_n 0, 1) := by decide +kernel
theorem dX2_addMix_48 : decode cX2_addMix 48 = .ok (.dup, 1) := by decide +kernel
theorem dX2_addMix_49 : decode cX2_addMix 49 = .ok (.getfield 18, 3) := by decide +kernel
theorem dX2_addMix_52 : decode cX2_addMix 52 = .ok (.iconst 1, 1) := by decide +kernel
theorem dX2_addMix_53 : decode cX2_addMix 53 = .ok (.iadd, 1) := by decide +kernel
theorem dX2_addMix_54 : decode cX2_addMix 54 = .ok (.putfield 18, 3) := by decide +kernel
theorem dX2_addMix_57 : decode cX2_addMix 57 = .ok (.aload_n 0, 1) := by decide +kernel
theorem dX2_addMix_58 : decode cX2_addMix 58 = .ok (.getfield 18, 3) := by decide +kernel
theorem dX2_addMix_61 : decode cX2_addMix 61 = .ok (.iconst 1, 1) := by decide +kernel
theorem dX2_addMix_62 : decode cX2_addMix 62 = .ok (.isub, 1) := by decide +kernel
theorem dX2_addMix_63 : decode cX2_addMix 63 = .ok (.ireturn, 1) := by decide +kernel
theorem dX2_strength_0 : decode cX2_strength 0 = .ok (.sipush 255, 3) := by decide +kernel
theorem dX2_strength_3 : decode cX2_strength 3 = .ok (.aload_n 0, 1) := by decide +kernel
theorem dX2_strength_4 : decode cX2_strength 4 = .ok (.getfield 11, 3) := by decide +kernel
theorem dX2_strength_7 : decode cX2_strength 7 = .ok (.iload_n 1, 1) := by decide +kernel
theorem dX2_strength_8 : decode cX2_strength 8 = .ok (.iconst 4, 1) := by decide +kernel
theorem dX2_strength_9 : decode cX2_strength 9 = .ok (.imul, 1) := by decide +kernel
theorem dX2_strength_10 : decode cX2_strength 10 = .ok (.iload_n 2, 1) := by decide +kernel
theorem dX2_strength_11 : decode cX2_strength 11 = .ok (.iadd, 1) := by decide +kernel
theorem dX2_strength_12 : decode cX2_strength 12 = .ok (.iaload, 1) := by decide +kernel
theorem dX2_strength_13 : decode cX2_strength 13 = .ok (.aload_n 0, 1) := by decide +kernel
theorem dX2_strength_14 : decode cX2_strength 14 = .ok (.getfield 11, 3) := by decide +kernel
theorem dX2_strength_17 : decode cX2_strength 17 = .ok (.iload_n 1, 1) := by decide +kernel
theorem dX2_strength_18 : decode cX2_strength 18 = .ok (.iconst 4, 1) := by decide +kernel
theorem dX2_strength_19 : decode cX2_strength 19 = .ok (.imul, 1) := by decide +kernel
theorem dX2_strength_20 : decode cX2_strength 20 = .ok (.iconst 3, 1) := by decide +kernel
theorem dX2_strength_21 : decode cX2_strength 21 = .ok (.iadd, 1) := by decide +kernel
theorem dX2_strength_22 : decode cX2_strength 22 = .ok (.iaload, 1) := by decide +kernel
theorem dX2_strength_23 : decode cX2_strength 23 = .ok (.iadd, 1) := by decide +kernel
theorem dX2_strength_24 : decode cX2_strength 24 = .ok (.invokestatic 22, 3) := by decide +kernel
theorem dX2_strength_27 : decode cX2_strength 27 = .ok (.ireturn, 1) := by decide +kernel
theorem dX3_init_0 : decode cX3_init 0 = .ok (.aload_n 0, 1) := by decide +kernel
theorem dX3_init_1 : decode cX3_init 1 = .ok (.invokespecial 5, 3) := by decide +kernel
theorem dX3_init_4 : decode cX3_init 4 = .ok (.aload_n 0, 1) := by decide +kernel
theorem dX3_init_5 : decode cX3_init 5 = .ok (.new 11, 3) := by decide +kernel
theorem dX3_init_8 : decode cX3_init 8 = .ok (.dup, 1) := by decide +kernel
theorem dX3_init_9 : decode cX3_init 9 = .ok (.invokespecial 13, 3) := by decide +kernel
theorem dX3_init_12 : decode cX3_init 12 = .ok (.putfield 14, 3) := by decide +kernel
theorem dX3_init_15 : decode cX3_init 15 = .ok (.aload_n 0, 1) := by decide +kernel
theorem dX3_init_16 : decode cX3_init 16 = .ok (.sipush 2040, 3) := by decide +kernel
theorem dX3_init_19 : decode cX3_init 19 = .ok (.putfield 18, 3) := by decide +kernel
theorem dX3_init_22 : decode cX3_init 22 = .ok (.aload_n 0, 1) := by decide +kernel
theorem dX3_init_23 : decode cX3_init 23 = .ok (.iconst 1, 1) := by decide +kernel
theorem dX3_init_24 : decode cX3_init 24 = .ok (.putfield 22, 3) := by decide +kernel
theorem dX3_init_27 : decode cX3_init 27 = .ok (.aload_n 0, 1) := by decide +kernel
theorem dX3_init_28 : decode cX3_init 28 = .ok (.iload_n 1, 1) := by decide +kernel
theorem dX3_init_29 : decode cX3_init 29 = .ok (.putfield 25, 3) := by decide +kernel
theorem dX3_init_32 : decode cX3_init 32 = .ok (.aload_n 0, 1) := by decide +kernel
theorem dX3_init_33 : decode cX3_init 33 = .ok (.iload_n 2, 1) := by decide +kernel
theorem dX3_init_34 : decode cX3_init 34 = .ok (.putfield 28, 3) := by decide +kernel
theorem dX3_init_37 : decode cX3_init 37 = .ok (.aload_n 0, 1) := by decide +kernel
theorem dX3_init_38 : decode cX3_init 38 = .ok (.iload_n 1, 1) := by decide +kernel
theorem dX3_init_39 : decode cX3_init 39 = .ok (.iload_n 2, 1) := by decide +kernel
theorem dX3_init_40 : decode cX3_init 40 = .ok (.imul, 1) := by decide +kernel
theorem dX3_init_41 : decode cX3_init 41 = .ok (.putfield 31, 3) := by decide +kernel
theorem dX3_init_44 : decode cX3_init 44 = .ok (.aload_n 0, 1) := by decide +kernel
theorem dX3_init_45 : decode cX3_init 45 = .ok (.bipush 8, 2) := by decide +kernel
theorem dX3_init_47 : decode cX3_init 47 = .ok (.aload_n 0, 1) := by decide +kernel
theorem dX3_init_48 : decode cX3_init 48 = .ok (.getfield 31, 3) := by decide +kernel
theorem dX3_init_51 : decode cX3_init 51 = .ok (.imul, 1) := by decide +kernel
theorem dX3_init_52 : decode cX3_init 52 = .ok (.newarray .int, 2) := by decide +kernel
theorem dX3_init_54 : decode cX3_init 54 = .ok (.putfield 34, 3) := by decide +kernel
theorem dX3_init_57 : decode cX3_init 57 = .ok (.return_, 1) := by decide +kernel
theorem dX3_byteAt_0 : decode cX3_byteAt 0 = .ok (.aload_n 0, 1) := by decide +kernel
theorem dX3_byteAt_1 : decode cX3_byteAt 1 = .ok (.getfield 34, 3) := by decide +kernel
theorem dX3_byteAt_4 : decode cX3_byteAt 4 = .ok (.iload_n 1, 1) := by decide +kernel
theorem dX3_byteAt_5 : decode cX3_byteAt 5 = .ok (.aload_n 0, 1) := by decide +kernel
theorem dX3_byteAt_6 : decode cX3_byteAt 6 = .ok (.getfield 31, 3) := by decide +kernel
theorem dX3_byteAt_9 : decode cX3_byteAt 9 = .ok (.imul, 1) := by decide +kernel
theorem dX3_byteAt_10 : decode cX3_byteAt 10 = .ok (.iload_n 2, 1) := by decide +kernel
theorem dX3_byteAt_11 : decode cX3_byteAt 11 = .ok (.iadd, 1) := by decide +kernel
theorem dX3_byteAt_12 : decode cX3_byteAt 12 = .ok (.iaload, 1) := by decide +kernel
theorem dX3_byteAt_13 : decode cX3_byteAt 13 = .ok (.ireturn, 1) := by decide +kernel
theorem dX3_byteWith_0 : decode cX3_byteWith 0 = .ok (.aload_n 0, 1) := by decide +kernel
theorem dX3_byteWith_1 : decode cX3_byteWith 1 = .ok (.iload_n 1, 1) := by decide +kernel
theorem dX3_byteWith_2 : decode cX3_byteWith 2 = .ok (.iload_n 2, 1) := by decide +kernel
theorem dX3_byteWith_3 : decode cX3_byteWith 3 = .ok (.invokevirtual 38, 3) := by decide +kernel
theorem dX3_byteWith_6 : decode cX3_byteWith 6 = .ok (.istore 4, 2) := by decide +kernel
theorem dX3_byteWith_8 : decode cX3_byteWith 8 = .ok (.iload_n 3, 1) := by decide +kernel
theorem dX3_byteWith_9 : decode cX3_byteWith 9 = .ok (.ifCond .ge 8, 3) := by decide +kernel
theorem dX3_byteWith_12 : decode cX3_byteWith 12 = .ok (.iload 4, 2) := by decide +kernel
theorem dX3_byteWith_14 : decode cX3_byteWith 14 = .ok (.goto 14, 3) := by decide +kernel
theorem dX3_byteWith_17 : decode cX3_byteWith 17 = .ok (.iload 4, 2) := by decide +kernel
theorem dX3_byteWith_19 : decode cX3_byteWith 19 = .ok (.aload_n 0, 1) := by decide +kernel
theorem dX3_byteWith_20 : decode cX3_byteWith 20 = .ok (.iload_n 1, 1) := by decide +kernel
theorem dX3_byteWith_21 : decode cX3_byteWith 21 = .ok (.iload_n 3, 1) := by decide +kernel
theorem dX3_byteWith_22 : decode cX3_byteWith 22 = .ok (.invokevirtual 38, 3) := by decide +kernel
theorem dX3_byteWith_25 : decode cX3_byteWith 25 = .ok (.invokestatic 42, 3) := by decide +kernel
theorem dX3_byteWith_28 : decode cX3_byteWith 28 = .ok (.ireturn, 1) := by decide +kernel
theorem dX3_paintPoint_0 : decode cX3_paintPoint 0 = .ok (.iconst 0, 1) := by decide +kernel
theorem dX3_paintPoint_1 : decode cX3_paintPoint 1 = .ok (.istore_n 3, 1) := by decide +kernel
theorem dX3_paintPoint_2 : decode cX3_paintPoint 2 = .ok (.iload_n 3, 1) := by decide +kernel
theorem dX3_paintPoint_3 : decode cX3_paintPoint 3 = .ok (.aload_n 0, 1) := by decide +kernel
theorem dX3_paintPoint_4 : decode cX3_paintPoint 4 = .ok (.getfield 14, 3) := by decide +kernel
theorem dX3_paintPoint_7 : decode cX3_paintPoint 7 = .ok (.getfield 47, 3) := by decide +kernel
theorem dX3_paintPoint_10 : decode cX3_paintPoint 10 = .ok (.if_icmp .ge 61, 3) := by decide +kernel
theorem dX3_paintPoint_13 : decode cX3_paintPoint 13 = .ok (.aload_n 0, 1) := by decide +kernel
theorem dX3_paintPoint_14 : decode cX3_paintPoint 14 = .ok (.getfield 14, 3) := by decide +kernel
theorem dX3_paintPoint_17 : decode cX3_paintPoint 17 = .ok (.getfield 50, 3) := by decide +kernel
theorem dX3_paintPoint_20 : decode cX3_paintPoint 20 = .ok (.iload_n 3, 1) := by decide +kernel
theorem dX3_paintPoint_21 : decode cX3_paintPoint 21 = .ok (.iaload, 1) := by decide +kernel
theorem dX3_paintPoint_22 : decode cX3_paintPoint 22 = .ok (.istore 4, 2) := by decide +kernel
theorem dX3_paintPoint_24 : decode cX3_paintPoint 24 = .ok (.iload 4, 2) := by decide +kernel
theorem dX3_paintPoint_26 : decode cX3_paintPoint 26 = .ok (.ifCond .lt 21, 3) := by decide +kernel
theorem dX3_paintPoint_29 : decode cX3_paintPoint 29 = .ok (.aload_n 0, 1) := by decide +kernel
theorem dX3_paintPoint_30 : decode cX3_paintPoint 30 = .ok (.getfield 34, 3) := by decide +kernel
theorem dX3_paintPoint_33 : decode cX3_paintPoint 33 = .ok (.iload_n 3, 1) := by decide +kernel
theorem dX3_paintPoint_34 : decode cX3_paintPoint 34 = .ok (.aload_n 0, 1) := by decide +kernel
theorem dX3_paintPoint_35 : decode cX3_paintPoint 35 = .ok (.getfield 31, 3) := by decide +kernel
theorem dX3_paintPoint_38 : decode cX3_paintPoint 38 = .ok (.imul, 1) := by decide +kernel
theorem dX3_paintPoint_39 : decode cX3_paintPoint 39 = .ok (.iload_n 1, 1) := by decide +kernel
theorem dX3_paintPoint_40 : decode cX3_paintPoint 40 = .ok (.iadd, 1) := by decide +kernel
theorem dX3_paintPoint_41 : decode cX3_paintPoint 41 = .ok (.iload 4, 2) := by decide +kernel
theorem dX3_paintPoint_43 : decode cX3_paintPoint 43 = .ok (.iastore, 1) := by decide +kernel
theorem dX3_paintPoint_44 : decode cX3_paintPoint 44 = .ok (.goto 21, 3) := by decide +kernel
theorem dX3_paintPoint_47 : decode cX3_paintPoint 47 = .ok (.iload_n 2, 1) := by decide +kernel
theorem dX3_paintPoint_48 : decode cX3_paintPoint 48 = .ok (.ifCond .ne 17, 3) := by decide +kernel
theorem dX3_paintPoint_51 : decode cX3_paintPoint 51 = .ok (.aload_n 0, 1) := by decide +kernel
theorem dX3_paintPoint_52 : decode cX3_paintPoint 52 = .ok (.getfield 34, 3) := by decide +kernel
theorem dX3_paintPoint_55 : decode cX3_paintPoint 55 = .ok (.iload_n 3, 1) := by decide +kernel
theorem dX3_paintPoint_56 : decode cX3_paintPoint 56 = .ok (.aload_n 0, 1) := by decide +kernel
theorem dX3_paintPoint_57 : decode cX3_paintPoint 57 = .ok (.getfield 31, 3) := by decide +kernel
theorem dX3_paintPoint_60 : decode cX3_paintPoint 60 = .ok (.imul, 1) := by decide +kernel
theorem dX3_paintPoint_61 : decode cX3_paintPoint 61 = .ok (.iload_n 1, 1) := by decide +kernel
theorem dX3_paintPoint_62 : decode cX3_paintPoint 62 = .ok (.iadd, 1) := by decide +kernel
theorem dX3_paintPoint_63 : decode cX3_paintPoint 63 = .ok (.iconst 0, 1) := by decide +kernel
theorem dX3_paintPoint_64 : decode cX3_paintPoint 64 = .ok (.iastore, 1) := by decide +kernel
theorem dX3_paintPoint_65 : decode cX3_paintPoint 65 = .ok (.iinc 3 1, 3) := by decide +kernel
theorem dX3_paintPoint_68 : decode cX3_paintPoint 68 = .ok (.goto (-66), 3) := by decide +kernel
theorem dX3_paintPoint_71 : decode cX3_paintPoint 71 = .ok (.aload_n 0, 1) := by decide +kernel
theorem dX3_paintPoint_72 : decode cX3_paintPoint 72 = .ok (.iload_n 1, 1) := by decide +kernel
theorem dX3_paintPoint_73 : decode cX3_paintPoint 73 = .ok (.invokevirtual 53, 3) := by decide +kernel
theorem dX3_paintPoint_76 : decode cX3_paintPoint 76 = .ok (.aload_n 0, 1) := by decide +kernel
theorem dX3_paintPoint_77 : decode cX3_paintPoint 77 = .ok (.getfield 18, 3) := by decide +kernel
theorem dX3_paintPoint_80 : decode cX3_paintPoint 80 = .ok (.isub, 1) := by decide +kernel
theorem dX3_paintPoint_81 : decode cX3_paintPoint 81 = .ok (.istore_n 3, 1) := by decide +kernel
theorem dX3_paintPoint_82 : decode cX3_paintPoint 82 = .ok (.iload_n 3, 1) := by decide +kernel
theorem dX3_paintPoint_83 : decode cX3_paintPoint 83 = .ok (.ifCond .le 14, 3) := by decide +kernel
theorem dX3_paintPoint_86 : decode cX3_paintPoint 86 = .ok (.aload_n 0, 1) := by decide +kernel
theorem dX3_paintPoint_87 : decode cX3_paintPoint 87 = .ok (.iload_n 1, 1) := by decide +kernel
theorem dX3_paintPoint_88 : decode cX3_paintPoint 88 = .ok (.iload_n 3, 1) := by decide +kernel
theorem dX3_paintPoint_89 : decode cX3_paintPoint 89 = .ok (.invokevirtual 57, 3) := by decide +kernel
theorem dX3_paintPoint_92 : decode cX3_paintPoint 92 = .ok (.aload_n 0, 1) := by decide +kernel
theorem dX3_paintPoint_93 : decode cX3_paintPoint 93 = .ok (.iload_n 1, 1) := by decide +kernel
theorem dX3_paintPoint_94 : decode cX3_paintPoint 94 = .ok (.invokevirtual 61, 3) := by decide +kernel
theorem dX3_paintPoint_97 : decode cX3_paintPoint 97 = .ok (.return_, 1) := by decide +kernel
theorem dX3_sumAt_0 : decode cX3_sumAt 0 = .ok (.iconst 0, 1) := by decide +kernel
theorem dX3_sumAt_1 : decode cX3_sumAt 1 = .ok (.istore_n 2, 1) := by decide +kernel
theorem dX3_sumAt_2 : decode cX3_sumAt 2 = .ok (.iconst 0, 1) := by decide +kernel
theorem dX3_sumAt_3 : decode cX3_sumAt 3 = .ok (.istore_n 3, 1) := by decide +kernel
theorem dX3_sumAt_4 : decode cX3_sumAt 4 = .ok (.iload_n 3, 1) := by decide +kernel
theorem dX3_sumAt_5 : decode cX3_sumAt 5 = .ok (.aload_n 0, 1) := by decide +kernel
theorem dX3_sumAt_6 : decode cX3_sumAt 6 = .ok (.getfield 14, 3) := by decide +kernel
theorem dX3_sumAt_9 : decode cX3_sumAt 9 = .ok (.getfield 47, 3) := by decide +kernel
theorem dX3_sumAt_12 : decode cX3_sumAt 12 = .ok (.if_icmp .ge 18, 3) := by decide +kernel
theorem dX3_sumAt_15 : decode cX3_sumAt 15 = .ok (.iload_n 2, 1) := by decide +kernel
theorem dX3_sumAt_16 : decode cX3_sumAt 16 = .ok (.aload_n 0, 1) := by decide +kernel
theorem dX3_sumAt_17 : decode cX3_sumAt 17 = .ok (.iload_n 3, 1) := by decide +kernel
theorem dX3_sumAt_18 : decode cX3_sumAt 18 = .ok (.iload_n 1, 1) := by decide +kernel
theorem dX3_sumAt_19 : decode cX3_sumAt 19 = .ok (.invokevirtual 38, 3) := by decide +kernel
theorem dX3_sumAt_22 : decode cX3_sumAt 22 = .ok (.iadd, 1) := by decide +kernel
theorem dX3_sumAt_23 : decode cX3_sumAt 23 = .ok (.istore_n 2, 1) := by decide +kernel
theorem dX3_sumAt_24 : decode cX3_sumAt 24 = .ok (.iinc 3 1, 3) := by decide +kernel
theorem dX3_sumAt_27 : decode cX3_sumAt 27 = .ok (.goto (-23), 3) := by decide +kernel
theorem dX3_sumAt_30 : decode cX3_sumAt 30 = .ok (.iload_n 2, 1) := by decide +kernel
theorem dX3_sumAt_31 : decode cX3_sumAt 31 = .ok (.ireturn, 1) := by decide +kernel
theorem dX3_moveToBlack_0 : decode cX3_moveToBlack 0 = .ok (.iload_n 2, 1) := by decide +kernel
theorem dX3_moveToBlack_1 : decode cX3_moveToBlack 1 = .ok (.iconst 1, 1) := by decide +kernel
theorem dX3_moveToBlack_2 : decode cX3_moveToBlack 2 = .ok (.iadd, 1) := by decide +kernel
theorem dX3_moveToBlack_3 : decode cX3_moveToBlack 3 = .ok (.iconst 2, 1) := by decide +kernel
theorem dX3_moveToBlack_4 : decode cX3_moveToBlack 4 = .ok (.idiv, 1) := by decide +kernel
theorem dX3_moveToBlack_5 : decode cX3_moveToBlack 5 = .ok (.sipush 255, 3) := by decide +kernel
theorem dX3_moveToBlack_8 : decode cX3_moveToBlack 8 = .ok (.aload_n 0, 1) := by decide +kernel
theorem dX3_moveToBlack_9 : decode cX3_moveToBlack 9 = .ok (.iconst 3, 1) := by decide +kernel
theorem dX3_moveToBlack_10 : decode cX3_moveToBlack 10 = .ok (.iload_n 1, 1) := by decide +kernel
theorem dX3_moveToBlack_11 : decode cX3_moveToBlack 11 = .ok (.invokevirtual 38, 3) := by decide +kernel
theorem dX3_moveToBlack_14 : decode cX3_moveToBlack 14 = .ok (.isub, 1) := by decide +kernel
theorem dX3_moveToBlack_15 : decode cX3_moveToBlack 15 = .ok (.invokestatic 65, 3) := by decide +kernel
theorem dX3_moveToBlack_18 : decode cX3_moveToBlack 18 = .ok (.istore_n 3, 1) := by decide +kernel
theorem dX3_moveToBlack_19 : decode cX3_moveToBlack 19 = .ok (.iconst 0, 1) := by decide +kernel
theorem dX3_moveToBlack_20 : decode cX3_moveToBlack 20 = .ok (.istore 4, 2) := by decide +kernel
theorem dX3_moveToBlack_22 : decode cX3_moveToBlack 22 = .ok (.iload 4, 2) := by decide +kernel
theorem dX3_moveToBlack_24 : decode cX3_moveToBlack 24 = .ok (.iconst 3, 1) := by decide +kernel
theorem dX3_moveToBlack_25 : decode cX3_moveToBlack 25 = .ok (.if_icmp .ge 21, 3) := by decide +kernel
theorem dX3_moveToBlack_28 : decode cX3_moveToBlack 28 = .ok (.iload_n 3, 1) := by decide +kernel
theorem dX3_moveToBlack_29 : decode cX3_moveToBlack 29 = .ok (.aload_n 0, 1) := by decide +kernel
theorem dX3_moveToBlack_30 : decode cX3_moveToBlack 30 = .ok (.iload 4, 2) := by decide +kernel
theorem dX3_moveToBlack_32 : decode cX3_moveToBlack 32 = .ok (.iload_n 1, 1) := by decide +kernel
theorem dX3_moveToBlack_33 : decode cX3_moveToBlack 33 = .ok (.invokevirtual 38, 3) := by decide +kernel
theorem dX3_moveToBlack_36 : decode cX3_moveToBlack 36 = .ok (.invokestatic 65, 3) := by decide +kernel
theorem dX3_moveToBlack_39 : decode cX3_moveToBlack 39 = .ok (.istore_n 3, 1) := by decide +kernel
theorem dX3_moveToBlack_40 : decode cX3_moveToBlack 40 = .ok (.iinc 4 1, 3) := by decide +kernel
theorem dX3_moveToBlack_43 : decode cX3_moveToBlack 43 = .ok (.goto (-21), 3) := by decide +kernel
theorem dX3_moveToBlack_46 : decode cX3_moveToBlack 46 = .ok (.iconst 0, 1) := by decide +kernel
theorem dX3_moveToBlack_47 : decode cX3_moveToBlack 47 = .ok (.istore 4, 2) := by decide +kernel
theorem dX3_moveToBlack_49 : decode cX3_moveToBlack 49 = .ok (.iload 4, 2) := by decide +kernel
theorem dX3_moveToBlack_51 : decode cX3_moveToBlack 51 = .ok (.iconst 3, 1) := by decide +kernel
theorem dX3_moveToBlack_52 : decode cX3_moveToBlack 52 = .ok (.if_icmp .ge 27, 3) := by decide +kernel
theorem dX3_moveToBlack_55 : decode cX3_moveToBlack 55 = .ok (.aload_n 0, 1) := by decide +kernel
theorem dX3_moveToBlack_56 : decode cX3_moveToBlack 56 = .ok (.getfield 34, 3) := by decide +kernel
theorem dX3_moveToBlack_59 : decode cX3_moveToBlack 59 = .ok (.iload 4, 2) := by decide +kernel
theorem dX3_moveToBlack_61 : decode cX3_moveToBlack 61 = .ok (.aload_n 0, 1) := by decide +kernel
theorem dX3_moveToBlack_62 : decode cX3_moveToBlack 62 = .ok (.getfield 31, 3) := by decide +kernel
theorem dX3_moveToBlack_65 : decode cX3_moveToBlack 65 = .ok (.imul, 1) := by decide +kernel
theorem dX3_moveToBlack_66 : decode cX3_moveToBlack 66 = .ok (.iload_n 1, 1) := by decide +kernel
theorem dX3_moveToBlack_67 : decode cX3_moveToBlack 67 = .ok (.iadd, 1) := by decide +kernel
theorem dX3_moveToBlack_68 : decode cX3_moveToBlack 68 = .ok (.dup2, 1) := by decide +kernel
theorem dX3_moveToBlack_69 : decode cX3_moveToBlack 69 = .ok (.iaload, 1) := by decide +kernel
theorem dX3_moveToBlack_70 : decode cX3_moveToBlack 70 = .ok (.iload_n 3, 1) := by decide +kernel
theorem dX3_moveToBlack_71 : decode cX3_moveToBlack 71 = .ok (.isub, 1) := by decide +kernel
theorem dX3_moveToBlack_72 : decode cX3_moveToBlack 72 = .ok (.iastore, 1) := by decide +kernel
theorem dX3_moveToBlack_73 : decode cX3_moveToBlack 73 = .ok (.iinc 4 1, 3) := by decide +kernel
theorem dX3_moveToBlack_76 : decode cX3_moveToBlack 76 = .ok (.goto (-27), 3) := by decide +kernel
theorem dX3_moveToBlack_79 : decode cX3_moveToBlack 79 = .ok (.aload_n 0, 1) := by decide +kernel
theorem dX3_moveToBlack_80 : decode cX3_moveToBlack 80 = .ok (.getfield 34, 3) := by decide +kernel
theorem dX3_moveToBlack_83 : decode cX3_moveToBlack 83 = .ok (.iconst 3, 1) := by decide +kernel
theorem dX3_moveToBlack_84 : decode cX3_moveToBlack 84 = .ok (.aload_n 0, 1) := by decide +kernel
theorem dX3_moveToBlack_85 : decode cX3_moveToBlack 85 = .ok (.getfield 31, 3) := by decide +kernel
theorem dX3_moveToBlack_88 : decode cX3_moveToBlack 88 = .ok (.imul, 1) := by decide +kernel
theorem dX3_moveToBlack_89 : decode cX3_moveToBlack 89 = .ok (.iload_n 1, 1) := by decide +kernel
theorem dX3_moveToBlack_90 : decode cX3_moveToBlack 90 = .ok (.iadd, 1) := by decide +kernel
theorem dX3_moveToBlack_91 : decode cX3_moveToBlack 91 = .ok (.dup2, 1) := by decide +kernel
theorem dX3_moveToBlack_92 : decode cX3_moveToBlack 92 = .ok (.iaload, 1) := by decide +kernel
theorem dX3_moveToBlack_93 : decode cX3_moveToBlack 93 = .ok (.iload_n 3, 1) := by decide +kernel
theorem dX3_moveToBlack_94 : decode cX3_moveToBlack 94 = .ok (.iadd, 1) := by decide +kernel
theorem dX3_moveToBlack_95 : decode cX3_moveToBlack 95 = .ok (.iastore, 1) := by decide +kernel
theorem dX3_moveToBlack_96 : decode cX3_moveToBlack 96 = .ok (.return_, 1) := by decide +kernel
theorem dX3_shrinkToLimit_0 : decode cX3_shrinkToLimit 0 = .ok (.aload_n 0, 1) := by decide +kernel
theorem dX3_shrinkToLimit_1 : decode cX3_shrinkToLimit 1 = .ok (.iload_n 1, 1) := by decide +kernel
theorem dX3_shrinkToLimit_2 : decode cX3_shrinkToLimit 2 = .ok (.invokevirtual 53, 3) := by decide +kernel
theorem dX3_shrinkToLimit_5 : decode cX3_shrinkToLimit 5 = .ok (.istore_n 2, 1) := by decide +kernel
theorem dX3_shrinkToLimit_6 : decode cX3_shrinkToLimit 6 = .ok (.iload_n 2, 1) := by decide +kernel
theorem dX3_shrinkToLimit_7 : decode cX3_shrinkToLimit 7 = .ok (.aload_n 0, 1) := by decide +kernel
theorem dX3_shrinkToLimit_8 : decode cX3_shrinkToLimit 8 = .ok (.getfield 18, 3) := by decide +kernel
theorem dX3_shrinkToLimit_11 : decode cX3_shrinkToLimit 11 = .ok (.if_icmp .gt 4, 3) := by decide +kernel
theorem dX3_shrinkToLimit_14 : decode cX3_shrinkToLimit 14 = .ok (.return_, 1) := by decide +kernel
theorem dX3_shrinkToLimit_15 : decode cX3_shrinkToLimit 15 = .ok (.aload_n 0, 1) := by decide +kernel
theorem dX3_shrinkToLimit_16 : decode cX3_shrinkToLimit 16 = .ok (.iconst 3, 1) := by decide +kernel
theorem dX3_shrinkToLimit_17 : decode cX3_shrinkToLimit 17 = .ok (.iload_n 1, 1) := by decide +kernel
theorem dX3_shrinkToLimit_18 : decode cX3_shrinkToLimit 18 = .ok (.invokevirtual 38, 3) := by decide +kernel
theorem dX3_shrinkToLimit_21 : decode cX3_shrinkToLimit 21 = .ok (.istore_n 3, 1) := by decide +kernel
theorem dX3_shrinkToLimit_22 : decode cX3_shrinkToLimit 22 = .ok (.iconst 0, 1) := by decide +kernel
theorem dX3_shrinkToLimit_23 : decode cX3_shrinkToLimit 23 = .ok (.aload_n 0, 1) := by decide +kernel
theorem dX3_shrinkToLimit_24 : decode cX3_shrinkToLimit 24 = .ok (.getfield 18, 3) := by decide +kernel
theorem dX3_shrinkToLimit_27 : decode cX3_shrinkToLimit 27 = .ok (.iload_n 3, 1) := by decide +kernel
theorem dX3_shrinkToLimit_28 : decode cX3_shrinkToLimit 28 = .ok (.isub, 1) := by decide +kernel
theorem dX3_shrinkToLimit_29 : decode cX3_shrinkToLimit 29 = .ok (.invokestatic 42, 3) := by decide +kernel
theorem dX3_shrinkToLimit_32 : decode cX3_shrinkToLimit 32 = .ok (.istore 4, 2) := by decide +kernel
theorem dX3_shrinkToLimit_34 : decode cX3_shrinkToLimit 34 = .ok (.iload_n 2, 1) := by decide +kernel
theorem dX3_shrinkToLimit_35 : decode cX3_shrinkToLimit 35 = .ok (.iload_n 3, 1) := by decide +kernel
theorem dX3_shrinkToLimit_36 : decode cX3_shrinkToLimit 36 = .ok (.isub, 1) := by decide +kernel
theorem dX3_shrinkToLimit_37 : decode cX3_shrinkToLimit 37 = .ok (.istore 5, 2) := by decide +kernel
theorem dX3_shrinkToLimit_39 : decode cX3_shrinkToLimit 39 = .ok (.iconst 0, 1) := by decide +kernel
theorem dX3_shrinkToLimit_40 : decode cX3_shrinkToLimit 40 = .ok (.istore 6, 2) := by decide +kernel
theorem dX3_shrinkToLimit_42 : decode cX3_shrinkToLimit 42 = .ok (.iload 6, 2) := by decide +kernel
theorem dX3_shrinkToLimit_44 : decode cX3_shrinkToLimit 44 = .ok (.aload_n 0, 1) := by decide +kernel
theorem dX3_shrinkToLimit_45 : decode cX3_shrinkToLimit 45 = .ok (.getfield 14, 3) := by decide +kernel
theorem dX3_shrinkToLimit_48 : decode cX3_shrinkToLimit 48 = .ok (.getfield 47, 3) := by decide +kernel
theorem dX3_shrinkToLimit_51 : decode cX3_shrinkToLimit 51 = .ok (.if_icmp .ge 47, 3) := by decide +kernel
theorem dX3_shrinkToLimit_54 : decode cX3_shrinkToLimit 54 = .ok (.iload 6, 2) := by decide +kernel
theorem dX3_shrinkToLimit_56 : decode cX3_shrinkToLimit 56 = .ok (.iconst 3, 1) := by decide +kernel
theorem dX3_shrinkToLimit_57 : decode cX3_shrinkToLimit 57 = .ok (.if_icmp .eq 35, 3) := by decide +kernel
theorem dX3_shrinkToLimit_60 : decode cX3_shrinkToLimit 60 = .ok (.iload 5, 2) := by decide +kernel
theorem dX3_shrinkToLimit_62 : decode cX3_shrinkToLimit 62 = .ok (.ifCond .le 30, 3) := by decide +kernel
theorem dX3_shrinkToLimit_65 : decode cX3_shrinkToLimit 65 = .ok (.aload_n 0, 1) := by decide +kernel
theorem dX3_shrinkToLimit_66 : decode cX3_shrinkToLimit 66 = .ok (.getfield 34, 3) := by decide +kernel
theorem dX3_shrinkToLimit_69 : decode cX3_shrinkToLimit 69 = .ok (.iload 6, 2) := by decide +kernel
theorem dX3_shrinkToLimit_71 : decode cX3_shrinkToLimit 71 = .ok (.aload_n 0, 1) := by decide +kernel
theorem dX3_shrinkToLimit_72 : decode cX3_shrinkToLimit 72 = .ok (.getfield 31, 3) := by decide +kernel
theorem dX3_shrinkToLimit_75 : decode cX3_shrinkToLimit 75 = .ok (.imul, 1) := by decide +kernel
theorem dX3_shrinkToLimit_76 : decode cX3_shrinkToLimit 76 = .ok (.iload_n 1, 1) := by decide +kernel
theorem dX3_shrinkToLimit_77 : decode cX3_shrinkToLimit 77 = .ok (.iadd, 1) := by decide +kernel
theorem dX3_shrinkToLimit_78 : decode cX3_shrinkToLimit 78 = .ok (.aload_n 0, 1) := by decide +kernel
theorem dX3_shrinkToLimit_79 : decode cX3_shrinkToLimit 79 = .ok (.iload 6, 2) := by decide +kernel
theorem dX3_shrinkToLimit_81 : decode cX3_shrinkToLimit 81 = .ok (.iload_n 1, 1) := by decide +kernel
theorem dX3_shrinkToLimit_82 : decode cX3_shrinkToLimit 82 = .ok (.invokevirtual 38, 3) := by decide +kernel
theorem dX3_shrinkToLimit_85 : decode cX3_shrinkToLimit 85 = .ok (.iload 4, 2) := by decide +kernel
theorem dX3_shrinkToLimit_87 : decode cX3_shrinkToLimit 87 = .ok (.imul, 1) := by decide +kernel
theorem dX3_shrinkToLimit_88 : decode cX3_shrinkToLimit 88 = .ok (.iload 5, 2) := by decide +kernel
theorem dX3_shrinkToLimit_90 : decode cX3_shrinkToLimit 90 = .ok (.idiv, 1) := by decide +kernel
theorem dX3_shrinkToLimit_91 : decode cX3_shrinkToLimit 91 = .ok (.iastore, 1) := by decide +kernel
theorem dX3_shrinkToLimit_92 : decode cX3_shrinkToLimit 92 = .ok (.iinc 6 1, 3) := by decide +kernel
theorem dX3_shrinkToLimit_95 : decode cX3_shrinkToLimit 95 = .ok (.goto (-53), 3) := by decide +kernel
theorem dX3_shrinkToLimit_98 : decode cX3_shrinkToLimit 98 = .ok (.aload_n 0, 1) := by decide +kernel
theorem dX3_shrinkToLimit_99 : decode cX3_shrinkToLimit 99 = .ok (.getfield 34, 3) := by decide +kernel
theorem dX3_shrinkToLimit_102 : decode cX3_shrinkToLimit 102 = .ok (.iconst 3, 1) := by decide +kernel
theorem dX3_shrinkToLimit_103 : decode cX3_shrinkToLimit 103 = .ok (.aload_n 0, 1) := by decide +kernel
theorem dX3_shrinkToLimit_104 : decode cX3_shrinkToLimit 104 = .ok (.getfield 31, 3) := by decide +kernel
theorem dX3_shrinkToLimit_107 : decode cX3_shrinkToLimit 107 = .ok (.imul, 1) := by decide +kernel
theorem dX3_shrinkToLimit_108 : decode cX3_shrinkToLimit 108 = .ok (.iload_n 1, 1) := by decide +kernel
theorem dX3_shrinkToLimit_109 : decode cX3_shrinkToLimit 109 = .ok (.iadd, 1) := by decide +kernel
theorem dX3_shrinkToLimit_110 : decode cX3_shrinkToLimit 110 = .ok (.iload_n 3, 1) := by decide +kernel
theorem dX3_shrinkToLimit_111 : decode cX3_shrinkToLimit 111 = .ok (.aload_n 0, 1) := by decide +kernel
theorem dX3_shrinkToLimit_112 : decode cX3_shrinkToLimit 112 = .ok (.getfield 18, 3) := by decide +kernel
theorem dX3_shrinkToLimit_115 : decode cX3_shrinkToLimit 115 = .ok (.invokestatic 65, 3) := by decide +kernel
theorem dX3_shrinkToLimit_118 : decode cX3_shrinkToLimit 118 = .ok (.iastore, 1) := by decide +kernel
theorem dX3_shrinkToLimit_119 : decode cX3_shrinkToLimit 119 = .ok (.return_, 1) := by decide +kernel
theorem dX3_bandOf_0 : decode cX3_bandOf 0 = .ok (.sipush 255, 3) := by decide +kernel
theorem dX3_bandOf_3 : decode cX3_bandOf 3 = .ok (.istore 4, 2) := by decide +kernel
theorem dX3_bandOf_5 : decode cX3_bandOf 5 = .ok (.iconst 0, 1) := by decide +kernel
theorem dX3_bandOf_6 : decode cX3_bandOf 6 = .ok (.istore 5, 2) := by decide +kernel
theorem dX3_bandOf_8 : decode cX3_bandOf 8 = .ok (.iload 5, 2) := by decide +kernel
theorem dX3_bandOf_10 : decode cX3_bandOf 10 = .ok (.aload_n 0, 1) := by decide +kernel
theorem dX3_bandOf_11 : decode cX3_bandOf 11 = .ok (.getfield 14, 3) := by decide +kernel
theorem dX3_bandOf_14 : decode cX3_bandOf 14 = .ok (.getfield 47, 3) := by decide +kernel
theorem dX3_bandOf_17 : decode cX3_bandOf 17 = .ok (.if_icmp .ge 47, 3) := by decide +kernel
theorem dX3_bandOf_20 : decode cX3_bandOf 20 = .ok (.aload_n 0, 1) := by decide +kernel
theorem dX3_bandOf_21 : decode cX3_bandOf 21 = .ok (.iload 5, 2) := by decide +kernel
theorem dX3_bandOf_23 : decode cX3_bandOf 23 = .ok (.iload_n 2, 1) := by decide +kernel
theorem dX3_bandOf_24 : decode cX3_bandOf 24 = .ok (.iload_n 3, 1) := by decide +kernel
theorem dX3_bandOf_25 : decode cX3_bandOf 25 = .ok (.invokevirtual 68, 3) := by decide +kernel
theorem dX3_bandOf_28 : decode cX3_bandOf 28 = .ok (.aload_n 0, 1) := by decide +kernel
theorem dX3_bandOf_29 : decode cX3_bandOf 29 = .ok (.getfield 14, 3) := by decide +kernel
theorem dX3_bandOf_32 : decode cX3_bandOf 32 = .ok (.iload 5, 2) := by decide +kernel
theorem dX3_bandOf_34 : decode cX3_bandOf 34 = .ok (.iload_n 1, 1) := by decide +kernel
theorem dX3_bandOf_35 : decode cX3_bandOf 35 = .ok (.invokevirtual 72, 3) := by decide +kernel
theorem dX3_bandOf_38 : decode cX3_bandOf 38 = .ok (.imul, 1) := by decide +kernel
theorem dX3_bandOf_39 : decode cX3_bandOf 39 = .ok (.istore 6, 2) := by decide +kernel
theorem dX3_bandOf_41 : decode cX3_bandOf 41 = .ok (.iload 4, 2) := by decide +kernel
theorem dX3_bandOf_43 : decode cX3_bandOf 43 = .ok (.ldc 75, 2) := by decide +kernel
theorem dX3_bandOf_45 : decode cX3_bandOf 45 = .ok (.iload 6, 2) := by decide +kernel
theorem dX3_bandOf_47 : decode cX3_bandOf 47 = .ok (.isub, 1) := by decide +kernel
theorem dX3_bandOf_48 : decode cX3_bandOf 48 = .ok (.imul, 1) := by decide +kernel
theorem dX3_bandOf_49 : decode cX3_bandOf 49 = .ok (.sipush 32512, 3) := by decide +kernel
theorem dX3_bandOf_52 : decode cX3_bandOf 52 = .ok (.iadd, 1) := by decide +kernel
theorem dX3_bandOf_53 : decode cX3_bandOf 53 = .ok (.ldc 75, 2) := by decide +kernel
theorem dX3_bandOf_55 : decode cX3_bandOf 55 = .ok (.idiv, 1) := by decide +kernel
theorem dX3_bandOf_56 : decode cX3_bandOf 56 = .ok (.istore 4, 2) := by decide +kernel
theorem dX3_bandOf_58 : decode cX3_bandOf 58 = .ok (.iinc 5 1, 3) := by decide +kernel
theorem dX3_bandOf_61 : decode cX3_bandOf 61 = .ok (.goto (-53), 3) := by decide +kernel
theorem dX3_bandOf_64 : decode cX3_bandOf 64 = .ok (.iload 4, 2) := by decide +kernel
theorem dX3_bandOf_66 : decode cX3_bandOf 66 = .ok (.ireturn, 1) := by decide +kernel
theorem dX3_lightness_0 : decode cX3_lightness 0 = .ok (.bipush 30, 2) := by decide +kernel
theorem dX3_lightness_2 : decode cX3_lightness 2 = .ok (.aload_n 0, 1) := by decide +kernel
theorem dX3_lightness_3 : decode cX3_lightness 3 = .ok (.iconst 0, 1) := by decide +kernel
theorem dX3_lightness_4 : decode cX3_lightness 4 = .ok (.iload_n 1, 1) := by decide +kernel
theorem dX3_lightness_5 : decode cX3_lightness 5 = .ok (.iconst (-1), 1) := by decide +kernel
theorem dX3_lightness_6 : decode cX3_lightness 6 = .ok (.invokevirtual 76, 3) := by decide +kernel
theorem dX3_lightness_9 : decode cX3_lightness 9 = .ok (.imul, 1) := by decide +kernel
theorem dX3_lightness_10 : decode cX3_lightness 10 = .ok (.bipush 59, 2) := by decide +kernel
theorem dX3_lightness_12 : decode cX3_lightness 12 = .ok (.aload_n 0, 1) := by decide +kernel
theorem dX3_lightness_13 : decode cX3_lightness 13 = .ok (.iconst 1, 1) := by decide +kernel
theorem dX3_lightness_14 : decode cX3_lightness 14 = .ok (.iload_n 1, 1) := by decide +kernel
theorem dX3_lightness_15 : decode cX3_lightness 15 = .ok (.iconst (-1), 1) := by decide +kernel
theorem dX3_lightness_16 : decode cX3_lightness 16 = .ok (.invokevirtual 76, 3) := by decide +kernel
theorem dX3_lightness_19 : decode cX3_lightness 19 = .ok (.imul, 1) := by decide +kernel
theorem dX3_lightness_20 : decode cX3_lightness 20 = .ok (.iadd, 1) := by decide +kernel
theorem dX3_lightness_21 : decode cX3_lightness 21 = .ok (.bipush 11, 2) := by decide +kernel
theorem dX3_lightness_23 : decode cX3_lightness 23 = .ok (.aload_n 0, 1) := by decide +kernel
theorem dX3_lightness_24 : decode cX3_lightness 24 = .ok (.iconst 2, 1) := by decide +kernel
theorem dX3_lightness_25 : decode cX3_lightness 25 = .ok (.iload_n 1, 1) := by decide +kernel
theorem dX3_lightness_26 : decode cX3_lightness 26 = .ok (.iconst (-1), 1) := by decide +kernel
theorem dX3_lightness_27 : decode cX3_lightness 27 = .ok (.invokevirtual 76, 3) := by decide +kernel
theorem dX3_lightness_30 : decode cX3_lightness 30 = .ok (.imul, 1) := by decide +kernel
theorem dX3_lightness_31 : decode cX3_lightness 31 = .ok (.iadd, 1) := by decide +kernel
theorem dX3_lightness_32 : decode cX3_lightness 32 = .ok (.bipush 100, 2) := by decide +kernel
theorem dX3_lightness_34 : decode cX3_lightness 34 = .ok (.idiv, 1) := by decide +kernel
theorem dX3_lightness_35 : decode cX3_lightness 35 = .ok (.ireturn, 1) := by decide +kernel
theorem dX3_unlike_0 : decode cX3_unlike 0 = .ok (.iconst 0, 1) := by decide +kernel
theorem dX3_unlike_1 : decode cX3_unlike 1 = .ok (.istore_n 3, 1) := by decide +kernel
theorem dX3_unlike_2 : decode cX3_unlike 2 = .ok (.iconst 0, 1) := by decide +kernel
theorem dX3_unlike_3 : decode cX3_unlike 3 = .ok (.istore 4, 2) := by decide +kernel
theorem dX3_unlike_5 : decode cX3_unlike 5 = .ok (.iconst 0, 1) := by decide +kernel
theorem dX3_unlike_6 : decode cX3_unlike 6 = .ok (.istore 5, 2) := by decide +kernel
theorem dX3_unlike_8 : decode cX3_unlike 8 = .ok (.iload 5, 2) := by decide +kernel
theorem dX3_unlike_10 : decode cX3_unlike 10 = .ok (.aload_n 0, 1) := by decide +kernel
theorem dX3_unlike_11 : decode cX3_unlike 11 = .ok (.getfield 14, 3) := by decide +kernel
theorem dX3_unlike_14 : decode cX3_unlike 14 = .ok (.getfield 47, 3) := by decide +kernel
theorem dX3_unlike_17 : decode cX3_unlike 17 = .ok (.if_icmp .ge 91, 3) := by decide +kernel
theorem dX3_unlike_20 : decode cX3_unlike 20 = .ok (.aload_n 0, 1) := by decide +kernel
theorem dX3_unlike_21 : decode cX3_unlike 21 = .ok (.iload 5, 2) := by decide +kernel
theorem dX3_unlike_23 : decode cX3_unlike 23 = .ok (.iload_n 1, 1) := by decide +kernel
theorem dX3_unlike_24 : decode cX3_unlike 24 = .ok (.invokevirtual 38, 3) := by decide +kernel
theorem dX3_unlike_27 : decode cX3_unlike 27 = .ok (.bipush 25, 2) := by decide +kernel
theorem dX3_unlike_29 : decode cX3_unlike 29 = .ok (.if_icmp .lt 7, 3) := by decide +kernel
theorem dX3_unlike_32 : decode cX3_unlike 32 = .ok (.iconst 1, 1) := by decide +kernel
theorem dX3_unlike_33 : decode cX3_unlike 33 = .ok (.goto 4, 3) := by decide +kernel
theorem dX3_unlike_36 : decode cX3_unlike 36 = .ok (.iconst 0, 1) := by decide +kernel
theorem dX3_unlike_37 : decode cX3_unlike 37 = .ok (.istore 6, 2) := by decide +kernel
theorem dX3_unlike_39 : decode cX3_unlike 39 = .ok (.aload_n 0, 1) := by decide +kernel
theorem dX3_unlike_40 : decode cX3_unlike 40 = .ok (.iload 5, 2) := by decide +kernel
theorem dX3_unlike_42 : decode cX3_unlike 42 = .ok (.iload_n 2, 1) := by decide +kernel
theorem dX3_unlike_43 : decode cX3_unlike 43 = .ok (.invokevirtual 38, 3) := by decide +kernel
theorem dX3_unlike_46 : decode cX3_unlike 46 = .ok (.bipush 25, 2) := by decide +kernel
theorem dX3_unlike_48 : decode cX3_unlike 48 = .ok (.if_icmp .lt 7, 3) := by decide +kernel
theorem dX3_unlike_51 : decode cX3_unlike 51 = .ok (.iconst 1, 1) := by decide +kernel
theorem dX3_unlike_52 : decode cX3_unlike 52 = .ok (.goto 4, 3) := by decide +kernel
theorem dX3_unlike_55 : decode cX3_unlike 55 = .ok (.iconst 0, 1) := by decide +kernel
theorem dX3_unlike_56 : decode cX3_unlike 56 = .ok (.istore 7, 2) := by decide +kernel
theorem dX3_unlike_58 : decode cX3_unlike 58 = .ok (.iload 6, 2) := by decide +kernel
theorem dX3_unlike_60 : decode cX3_unlike 60 = .ok (.ifCond .eq 10, 3) := by decide +kernel
theorem dX3_unlike_63 : decode cX3_unlike 63 = .ok (.iload 7, 2) := by decide +kernel
theorem dX3_unlike_65 : decode cX3_unlike 65 = .ok (.ifCond .eq 5, 3) := by decide +kernel
theorem dX3_unlike_68 : decode cX3_unlike 68 = .ok (.iconst 0, 1) := by decide +kernel
theorem dX3_unlike_69 : decode cX3_unlike 69 = .ok (.ireturn, 1) := by decide +kernel
theorem dX3_unlike_70 : decode cX3_unlike 70 = .ok (.iload_n 3, 1) := by decide +kernel
theorem dX3_unlike_71 : decode cX3_unlike 71 = .ok (.ifCond .ne 8, 3) := by decide +kernel
theorem dX3_unlike_74 : decode cX3_unlike 74 = .ok (.iload 6, 2) := by decide +kernel
theorem dX3_unlike_76 : decode cX3_unlike 76 = .ok (.ifCond .eq 7, 3) := by decide +kernel
theorem dX3_unlike_79 : decode cX3_unlike 79 = .ok (.iconst 1, 1) := by decide +kernel
theorem dX3_unlike_80 : decode cX3_unlike 80 = .ok (.goto 4, 3) := by decide +kernel
theorem dX3_unlike_83 : decode cX3_unlike 83 = .ok (.iconst 0, 1) := by decide +kernel
theorem dX3_unlike_84 : decode cX3_unlike 84 = .ok (.istore_n 3, 1) := by decide +kernel
theorem dX3_unlike_85 : decode cX3_unlike 85 = .ok (.iload 4, 2) := by decide +kernel
theorem dX3_unlike_87 : decode cX3_unlike 87 = .ok (.ifCond .ne 8, 3) := by decide +kernel
theorem dX3_unlike_90 : decode cX3_unlike 90 = .ok (.iload 7, 2) := by decide +kernel
theorem dX3_unlike_92 : decode cX3_unlike 92 = .ok (.ifCond .eq 7, 3) := by decide +kernel
theorem dX3_unlike_95 : decode cX3_unlike 95 = .ok (.iconst 1, 1) := by decide +kernel
theorem dX3_unlike_96 : decode cX3_unlike 96 = .ok (.goto 4, 3) := by decide +kernel
theorem dX3_unlike_99 : decode cX3_unlike 99 = .ok (.iconst 0, 1) := by decide +kernel
theorem dX3_unlike_100 : decode cX3_unlike 100 = .ok (.istore 4, 2) := by decide +kernel
theorem dX3_unlike_102 : decode cX3_unlike 102 = .ok (.iinc 5 1, 3) := by decide +kernel
theorem dX3_unlike_105 : decode cX3_unlike 105 = .ok (.goto (-97), 3) := by decide +kernel
theorem dX3_unlike_108 : decode cX3_unlike 108 = .ok (.iload_n 3, 1) := by decide +kernel
theorem dX3_unlike_109 : decode cX3_unlike 109 = .ok (.ifCond .eq 12, 3) := by decide +kernel
theorem dX3_unlike_112 : decode cX3_unlike 112 = .ok (.iload 4, 2) := by decide +kernel
theorem dX3_unlike_114 : decode cX3_unlike 114 = .ok (.ifCond .eq 7, 3) := by decide +kernel
theorem dX3_unlike_117 : decode cX3_unlike 117 = .ok (.iconst 1, 1) := by decide +kernel
theorem dX3_unlike_118 : decode cX3_unlike 118 = .ok (.goto 4, 3) := by decide +kernel
theorem dX3_unlike_121 : decode cX3_unlike 121 = .ok (.iconst 0, 1) := by decide +kernel
theorem dX3_unlike_122 : decode cX3_unlike 122 = .ok (.ireturn, 1) := by decide +kernel
theorem dX3_lenderOf_0 : decode cX3_lenderOf 0 = .ok (.iload_n 1, 1) := by decide +kernel
theorem dX3_lenderOf_1 : decode cX3_lenderOf 1 = .ok (.aload_n 0, 1) := by decide +kernel
theorem dX3_lenderOf_2 : decode cX3_lenderOf 2 = .ok (.getfield 25, 3) := by decide +kernel
theorem dX3_lenderOf_5 : decode cX3_lenderOf 5 = .ok (.iload_n 2, 1) := by decide +kernel
theorem dX3_lenderOf_6 : decode cX3_lenderOf 6 = .ok (.imul, 1) := by decide +kernel
theorem dX3_lenderOf_7 : decode cX3_lenderOf 7 = .ok (.iadd, 1) := by decide +kernel
theorem dX3_lenderOf_8 : decode cX3_lenderOf 8 = .ok (.istore_n 3, 1) := by decide +kernel
theorem dX3_lenderOf_9 : decode cX3_lenderOf 9 = .ok (.aload_n 0, 1) := by decide +kernel
theorem dX3_lenderOf_10 : decode cX3_lenderOf 10 = .ok (.iload_n 3, 1) := by decide +kernel
theorem dX3_lenderOf_11 : decode cX3_lenderOf 11 = .ok (.invokevirtual 79, 3) := by decide +kernel
theorem dX3_lenderOf_14 : decode cX3_lenderOf 14 = .ok (.istore 4, 2) := by decide +kernel
theorem dX3_lenderOf_16 : decode cX3_lenderOf 16 = .ok (.iconst (-1), 1) := by decide +kernel
theorem dX3_lenderOf_17 : decode cX3_lenderOf 17 = .ok (.istore 5, 2) := by decide +kernel
theorem dX3_lenderOf_19 : decode cX3_lenderOf 19 = .ok (.ldc 84, 2) := by decide +kernel
theorem dX3_lenderOf_21 : decode cX3_lenderOf 21 = .ok (.istore 6, 2) := by decide +kernel
theorem dX3_lenderOf_23 : decode cX3_lenderOf 23 = .ok (.iconst 0, 1) := by decide +kernel
theorem dX3_lenderOf_24 : decode cX3_lenderOf 24 = .ok (.iload_n 2, 1) := by decide +kernel
theorem dX3_lenderOf_25 : decode cX3_lenderOf 25 = .ok (.aload_n 0, 1) := by decide +kernel
theorem dX3_lenderOf_26 : decode cX3_lenderOf 26 = .ok (.getfield 22, 3) := by decide +kernel
theorem dX3_lenderOf_29 : decode cX3_lenderOf 29 = .ok (.isub, 1) := by decide +kernel
theorem dX3_lenderOf_30 : decode cX3_lenderOf 30 = .ok (.invokestatic 42, 3) := by decide +kernel
theorem dX3_lenderOf_33 : decode cX3_lenderOf 33 = .ok (.istore 7, 2) := by decide +kernel
theorem dX3_lenderOf_35 : decode cX3_lenderOf 35 = .ok (.iload 7, 2) := by decide +kernel
theorem dX3_lenderOf_37 : decode cX3_lenderOf 37 = .ok (.aload_n 0, 1) := by decide +kernel
theorem dX3_lenderOf_38 : decode cX3_lenderOf 38 = .ok (.getfield 28, 3) := by decide +kernel
theorem dX3_lenderOf_41 : decode cX3_lenderOf 41 = .ok (.iconst 1, 1) := by decide +kernel
theorem dX3_lenderOf_42 : decode cX3_lenderOf 42 = .ok (.isub, 1) := by decide +kernel
theorem dX3_lenderOf_43 : decode cX3_lenderOf 43 = .ok (.iload_n 2, 1) := by decide +kernel
theorem dX3_lenderOf_44 : decode cX3_lenderOf 44 = .ok (.aload_n 0, 1) := by decide +kernel
theorem dX3_lenderOf_45 : decode cX3_lenderOf 45 = .ok (.getfield 22, 3) := by decide +kernel
theorem dX3_lenderOf_48 : decode cX3_lenderOf 48 = .ok (.iadd, 1) := by decide +kernel
theorem dX3_lenderOf_49 : decode cX3_lenderOf 49 = .ok (.invokestatic 65, 3) := by decide +kernel
theorem dX3_lenderOf_52 : decode cX3_lenderOf 52 = .ok (.if_icmp .gt 116, 3) := by decide +kernel
theorem dX3_lenderOf_55 : decode cX3_lenderOf 55 = .ok (.iconst 0, 1) := by decide +kernel
theorem dX3_lenderOf_56 : decode cX3_lenderOf 56 = .ok (.iload_n 1, 1) := by decide +kernel
theorem dX3_lenderOf_57 : decode cX3_lenderOf 57 = .ok (.aload_n 0, 1) := by decide +kernel
theorem dX3_lenderOf_58 : decode cX3_lenderOf 58 = .ok (.getfield 22, 3) := by decide +kernel
theorem dX3_lenderOf_61 : decode cX3_lenderOf 61 = .ok (.isub, 1) := by decide +kernel
theorem dX3_lenderOf_62 : decode cX3_lenderOf 62 = .ok (.invokestatic 42, 3) := by decide +kernel
theorem dX3_lenderOf_65 : decode cX3_lenderOf 65 = .ok (.istore 8, 2) := by decide +kernel
theorem dX3_lenderOf_67 : decode cX3_lenderOf 67 = .ok (.iload 8, 2) := by decide +kernel
theorem dX3_lenderOf_69 : decode cX3_lenderOf 69 = .ok (.aload_n 0, 1) := by decide +kernel
theorem dX3_lenderOf_70 : decode cX3_lenderOf 70 = .ok (.getfield 25, 3) := by decide +kernel
theorem dX3_lenderOf_73 : decode cX3_lenderOf 73 = .ok (.iconst 1, 1) := by decide +kernel
theorem dX3_lenderOf_74 : decode cX3_lenderOf 74 = .ok (.isub, 1) := by decide +kernel
theorem dX3_lenderOf_75 : decode cX3_lenderOf 75 = .ok (.iload_n 1, 1) := by decide +kernel
theorem dX3_lenderOf_76 : decode cX3_lenderOf 76 = .ok (.aload_n 0, 1) := by decide +kernel
theorem dX3_lenderOf_77 : decode cX3_lenderOf 77 = .ok (.getfield 22, 3) := by decide +kernel
theorem dX3_lenderOf_80 : decode cX3_lenderOf 80 = .ok (.iadd, 1) := by decide +kernel
theorem dX3_lenderOf_81 : decode cX3_lenderOf 81 = .ok (.invokestatic 65, 3) := by decide +kernel
theorem dX3_lenderOf_84 : decode cX3_lenderOf 84 = .ok (.if_icmp .gt 78, 3) := by decide +kernel
theorem dX3_lenderOf_87 : decode cX3_lenderOf 87 = .ok (.iload 8, 2) := by decide +kernel
theorem dX3_lenderOf_89 : decode cX3_lenderOf 89 = .ok (.aload_n 0, 1) := by decide +kernel
theorem dX3_lenderOf_90 : decode cX3_lenderOf 90 = .ok (.getfield 25, 3) := by decide +kernel
theorem dX3_lenderOf_93 : decode cX3_lenderOf 93 = .ok (.iload 7, 2) := by decide +kernel
theorem dX3_lenderOf_95 : decode cX3_lenderOf 95 = .ok (.imul, 1) := by decide +kernel
theorem dX3_lenderOf_96 : decode cX3_lenderOf 96 = .ok (.iadd, 1) := by decide +kernel
theorem dX3_lenderOf_97 : decode cX3_lenderOf 97 = .ok (.istore 9, 2) := by decide +kernel
theorem dX3_lenderOf_99 : decode cX3_lenderOf 99 = .ok (.iload 8, 2) := by decide +kernel
theorem dX3_lenderOf_101 : decode cX3_lenderOf 101 = .ok (.iload_n 1, 1) := by decide +kernel
theorem dX3_lenderOf_102 : decode cX3_lenderOf 102 = .ok (.isub, 1) := by decide +kernel
theorem dX3_lenderOf_103 : decode cX3_lenderOf 103 = .ok (.iload 8, 2) := by decide +kernel
theorem dX3_lenderOf_105 : decode cX3_lenderOf 105 = .ok (.iload_n 1, 1) := by decide +kernel
theorem dX3_lenderOf_106 : decode cX3_lenderOf 106 = .ok (.isub, 1) := by decide +kernel
theorem dX3_lenderOf_107 : decode cX3_lenderOf 107 = .ok (.imul, 1) := by decide +kernel
theorem dX3_lenderOf_108 : decode cX3_lenderOf 108 = .ok (.iload 7, 2) := by decide +kernel
theorem dX3_lenderOf_110 : decode cX3_lenderOf 110 = .ok (.iload_n 2, 1) := by decide +kernel
theorem dX3_lenderOf_111 : decode cX3_lenderOf 111 = .ok (.isub, 1) := by decide +kernel
theorem dX3_lenderOf_112 : decode cX3_lenderOf 112 = .ok (.iload 7, 2) := by decide +kernel
theorem dX3_lenderOf_114 : decode cX3_lenderOf 114 = .ok (.iload_n 2, 1) := by decide +kernel
theorem dX3_lenderOf_115 : decode cX3_lenderOf 115 = .ok (.isub, 1) := by decide +kernel
theorem dX3_lenderOf_116 : decode cX3_lenderOf 116 = .ok (.imul, 1) := by decide +kernel
theorem dX3_lenderOf_117 : decode cX3_lenderOf 117 = .ok (.iadd, 1) := by decide +kernel
theorem dX3_lenderOf_118 : decode cX3_lenderOf 118 = .ok (.istore 10, 2) := by decide +kernel
theorem dX3_lenderOf_120 : decode cX3_lenderOf 120 = .ok (.iload 10, 2) := by decide +kernel
theorem dX3_lenderOf_122 : decode cX3_lenderOf 122 = .ok (.iload 6, 2) := by decide +kernel
theorem dX3_lenderOf_124 : decode cX3_lenderOf 124 = .ok (.if_icmp .ge 32, 3) := by decide +kernel
theorem dX3_lenderOf_127 : decode cX3_lenderOf 127 = .ok (.aload_n 0, 1) := by decide +kernel
theorem dX3_lenderOf_128 : decode cX3_lenderOf 128 = .ok (.iload_n 3, 1) := by decide +kernel
theorem dX3_lenderOf_129 : decode cX3_lenderOf 129 = .ok (.iload 9, 2) := by decide +kernel
theorem dX3_lenderOf_131 : decode cX3_lenderOf 131 = .ok (.invokevirtual 85, 3) := by decide +kernel
theorem dX3_lenderOf_134 : decode cX3_lenderOf 134 = .ok (.ifCond .eq 22, 3) := by decide +kernel
theorem dX3_lenderOf_137 : decode cX3_lenderOf 137 = .ok (.aload_n 0, 1) := by decide +kernel
theorem dX3_lenderOf_138 : decode cX3_lenderOf 138 = .ok (.iload 9, 2) := by decide +kernel
theorem dX3_lenderOf_140 : decode cX3_lenderOf 140 = .ok (.invokevirtual 79, 3) := by decide +kernel
theorem dX3_lenderOf_143 : decode cX3_lenderOf 143 = .ok (.iload 4, 2) := by decide +kernel
theorem dX3_lenderOf_145 : decode cX3_lenderOf 145 = .ok (.if_icmp .le 11, 3) := by decide +kernel
theorem dX3_lenderOf_148 : decode cX3_lenderOf 148 = .ok (.iload 9, 2) := by decide +kernel
theorem dX3_lenderOf_150 : decode cX3_lenderOf 150 = .ok (.istore 5, 2) := by decide +kernel
theorem dX3_lenderOf_152 : decode cX3_lenderOf 152 = .ok (.iload 10, 2) := by decide +kernel
theorem dX3_lenderOf_154 : decode cX3_lenderOf 154 = .ok (.istore 6, 2) := by decide +kernel
theorem dX3_lenderOf_156 : decode cX3_lenderOf 156 = .ok (.iinc 8 1, 3) := by decide +kernel
theorem dX3_lenderOf_159 : decode cX3_lenderOf 159 = .ok (.goto (-92), 3) := by decide +kernel
theorem dX3_lenderOf_162 : decode cX3_lenderOf 162 = .ok (.iinc 7 1, 3) := by decide +kernel
theorem dX3_lenderOf_165 : decode cX3_lenderOf 165 = .ok (.goto (-130), 3) := by decide +kernel
theorem dX3_lenderOf_168 : decode cX3_lenderOf 168 = .ok (.iload 5, 2) := by decide +kernel
theorem dX3_lenderOf_170 : decode cX3_lenderOf 170 = .ok (.ireturn, 1) := by decide +kernel
theorem dX3_startsRun_0 : decode cX3_startsRun 0 = .ok (.iload_n 2, 1) := by decide +kernel
theorem dX3_startsRun_1 : decode cX3_startsRun 1 = .ok (.aload_n 0, 1) := by decide +kernel
theorem dX3_startsRun_2 : decode cX3_startsRun 2 = .ok (.getfield 25, 3) := by decide +kernel
theorem dX3_startsRun_5 : decode cX3_startsRun 5 = .ok (.irem, 1) := by decide +kernel
theorem dX3_startsRun_6 : decode cX3_startsRun 6 = .ok (.ifCond .eq 20, 3) := by decide +kernel
theorem dX3_startsRun_9 : decode cX3_startsRun 9 = .ok (.aload_n 0, 1) := by decide +kernel
theorem dX3_startsRun_10 : decode cX3_startsRun 10 = .ok (.iload_n 1, 1) := by decide +kernel
theorem dX3_startsRun_11 : decode cX3_startsRun 11 = .ok (.iload_n 2, 1) := by decide +kernel
theorem dX3_startsRun_12 : decode cX3_startsRun 12 = .ok (.invokevirtual 38, 3) := by decide +kernel
theorem dX3_startsRun_15 : decode cX3_startsRun 15 = .ok (.aload_n 0, 1) := by decide +kernel
theorem dX3_startsRun_16 : decode cX3_startsRun 16 = .ok (.iload_n 1, 1) := by decide +kernel
theorem dX3_startsRun_17 : decode cX3_startsRun 17 = .ok (.iload_n 2, 1) := by decide +kernel
theorem dX3_startsRun_18 : decode cX3_startsRun 18 = .ok (.iconst 1, 1) := by decide +kernel
theorem dX3_startsRun_19 : decode cX3_startsRun 19 = .ok (.isub, 1) := by decide +kernel
theorem dX3_startsRun_20 : decode cX3_startsRun 20 = .ok (.invokevirtual 38, 3) := by decide +kernel
theorem dX3_startsRun_23 : decode cX3_startsRun 23 = .ok (.if_icmp .eq 7, 3) := by decide +kernel
theorem dX3_startsRun_26 : decode cX3_startsRun 26 = .ok (.iconst 1, 1) := by decide +kernel
theorem dX3_startsRun_27 : decode cX3_startsRun 27 = .ok (.goto 4, 3) := by decide +kernel
theorem dX3_startsRun_30 : decode cX3_startsRun 30 = .ok (.iconst 0, 1) := by decide +kernel
theorem dX3_startsRun_31 : decode cX3_startsRun 31 = .ok (.ireturn, 1) := by decide +kernel
theorem dX3_countRuns_0 : decode cX3_countRuns 0 = .ok (.iconst 0, 1) := by decide +kernel
theorem dX3_countRuns_1 : decode cX3_countRuns 1 = .ok (.istore_n 2, 1) := by decide +kernel
theorem dX3_countRuns_2 : decode cX3_countRuns 2 = .ok (.iconst 0, 1) := by decide +kernel
theorem dX3_countRuns_3 : decode cX3_countRuns 3 = .ok (.istore_n 3, 1) := by decide +kernel
theorem dX3_countRuns_4 : decode cX3_countRuns 4 = .ok (.iload_n 3, 1) := by decide +kernel
theorem dX3_countRuns_5 : decode cX3_countRuns 5 = .ok (.aload_n 0, 1) := by decide +kernel
theorem dX3_countRuns_6 : decode cX3_countRuns 6 = .ok (.getfield 31, 3) := by decide +kernel
theorem dX3_countRuns_9 : decode cX3_countRuns 9 = .ok (.if_icmp .ge 21, 3) := by decide +kernel
theorem dX3_countRuns_12 : decode cX3_countRuns 12 = .ok (.aload_n 0, 1) := by decide +kernel
theorem dX3_countRuns_13 : decode cX3_countRuns 13 = .ok (.iload_n 1, 1) := by decide +kernel
theorem dX3_countRuns_14 : decode cX3_countRuns 14 = .ok (.iload_n 3, 1) := by decide +kernel
theorem dX3_countRuns_15 : decode cX3_countRuns 15 = .ok (.invokevirtual 89, 3) := by decide +kernel
theorem dX3_countRuns_18 : decode cX3_countRuns 18 = .ok (.ifCond .eq 6, 3) := by decide +kernel
theorem dX3_countRuns_21 : decode cX3_countRuns 21 = .ok (.iinc 2 1, 3) := by decide +kernel
theorem dX3_countRuns_24 : decode cX3_countRuns 24 = .ok (.iinc 3 1, 3) := by decide +kernel
theorem dX3_countRuns_27 : decode cX3_countRuns 27 = .ok (.goto (-23), 3) := by decide +kernel
theorem dX3_countRuns_30 : decode cX3_countRuns 30 = .ok (.iload_n 2, 1) := by decide +kernel
theorem dX3_countRuns_31 : decode cX3_countRuns 31 = .ok (.ireturn, 1) := by decide +kernel
theorem dX3_startOfRun_0 : decode cX3_startOfRun 0 = .ok (.iconst 0, 1) := by decide +kernel
theorem dX3_startOfRun_1 : decode cX3_startOfRun 1 = .ok (.istore_n 3, 1) := by decide +kernel
theorem dX3_startOfRun_2 : decode cX3_startOfRun 2 = .ok (.iconst 0, 1) := by decide +kernel
theorem dX3_startOfRun_3 : decode cX3_startOfRun 3 = .ok (.istore 4, 2) := by decide +kernel
theorem dX3_startOfRun_5 : decode cX3_startOfRun 5 = .ok (.iload 4, 2) := by decide +kernel
theorem dX3_startOfRun_7 : decode cX3_startOfRun 7 = .ok (.aload_n 0, 1) := by decide +kernel
theorem dX3_startOfRun_8 : decode cX3_startOfRun 8 = .ok (.getfield 31, 3) := by decide +kernel
theorem dX3_startOfRun_11 : decode cX3_startOfRun 11 = .ok (.if_icmp .ge 30, 3) := by decide +kernel
theorem dX3_startOfRun_14 : decode cX3_startOfRun 14 = .ok (.aload_n 0, 1) := by decide +kernel
theorem dX3_startOfRun_15 : decode cX3_startOfRun 15 = .ok (.iload_n 1, 1) := by decide +kernel
theorem dX3_startOfRun_16 : decode cX3_startOfRun 16 = .ok (.iload 4, 2) := by decide +kernel
theorem dX3_startOfRun_18 : decode cX3_startOfRun 18 = .ok (.invokevirtual 89, 3) := by decide +kernel
theorem dX3_startOfRun_21 : decode cX3_startOfRun 21 = .ok (.ifCond .eq 14, 3) := by decide +kernel
theorem dX3_startOfRun_24 : decode cX3_startOfRun 24 = .ok (.iload_n 3, 1) := by decide +kernel
theorem dX3_startOfRun_25 : decode cX3_startOfRun 25 = .ok (.iload_n 2, 1) := by decide +kernel
theorem dX3_startOfRun_26 : decode cX3_startOfRun 26 = .ok (.if_icmp .ne 6, 3) := by decide +kernel
theorem dX3_startOfRun_29 : decode cX3_startOfRun 29 = .ok (.iload 4, 2) := by decide +kernel
theorem dX3_startOfRun_31 : decode cX3_startOfRun 31 = .ok (.ireturn, 1) := by decide +kernel
theorem dX3_startOfRun_32 : decode cX3_startOfRun 32 = .ok (.iinc 3 1, 3) := by decide +kernel
theorem dX3_startOfRun_35 : decode cX3_startOfRun 35 = .ok (.iinc 4 1, 3) := by decide +kernel
theorem dX3_startOfRun_38 : decode cX3_startOfRun 38 = .ok (.goto (-33), 3) := by decide +kernel
theorem dX3_startOfRun_41 : decode cX3_startOfRun 41 = .ok (.iconst (-1), 1) := by decide +kernel
theorem dX3_startOfRun_42 : decode cX3_startOfRun 42 = .ok (.ireturn, 1) := by decide +kernel
theorem dX3_lengthOfRun_0 : decode cX3_lengthOfRun 0 = .ok (.iload_n 2, 1) := by decide +kernel
theorem dX3_lengthOfRun_1 : decode cX3_lengthOfRun 1 = .ok (.iconst 1, 1) := by decide +kernel
theorem dX3_lengthOfRun_2 : decode cX3_lengthOfRun 2 = .ok (.iadd, 1) := by decide +kernel
theorem dX3_lengthOfRun_3 : decode cX3_lengthOfRun 3 = .ok (.istore_n 3, 1) := by decide +kernel
theorem dX3_lengthOfRun_4 : decode cX3_lengthOfRun 4 = .ok (.iload_n 3, 1) := by decide +kernel
theorem dX3_lengthOfRun_5 : decode cX3_lengthOfRun 5 = .ok (.aload_n 0, 1) := by decide +kernel
theorem dX3_lengthOfRun_6 : decode cX3_lengthOfRun 6 = .ok (.getfield 31, 3) := by decide +kernel
theorem dX3_lengthOfRun_9 : decode cX3_lengthOfRun 9 = .ok (.if_icmp .ge 18, 3) := by decide +kernel
theorem dX3_lengthOfRun_12 : decode cX3_lengthOfRun 12 = .ok (.aload_n 0, 1) := by decide +kernel
theorem dX3_lengthOfRun_13 : decode cX3_lengthOfRun 13 = .ok (.iload_n 1, 1) := by decide +kernel
theorem dX3_lengthOfRun_14 : decode cX3_lengthOfRun 14 = .ok (.iload_n 3, 1) := by decide +kernel
theorem dX3_lengthOfRun_15 : decode cX3_lengthOfRun 15 = .ok (.invokevirtual 89, 3) := by decide +kernel
theorem dX3_lengthOfRun_18 : decode cX3_lengthOfRun 18 = .ok (.ifCond .ne 9, 3) := by decide +kernel
theorem dX3_lengthOfRun_21 : decode cX3_lengthOfRun 21 = .ok (.iinc 3 1, 3) := by decide +kernel
theorem dX3_lengthOfRun_24 : decode cX3_lengthOfRun 24 = .ok (.goto (-20), 3) := by decide +kernel
theorem dX3_lengthOfRun_27 : decode cX3_lengthOfRun 27 = .ok (.iload_n 3, 1) := by decide +kernel
theorem dX3_lengthOfRun_28 : decode cX3_lengthOfRun 28 = .ok (.iload_n 2, 1) := by decide +kernel
theorem dX3_lengthOfRun_29 : decode cX3_lengthOfRun 29 = .ok (.isub, 1) := by decide +kernel
theorem dX3_lengthOfRun_30 : decode cX3_lengthOfRun 30 = .ok (.ireturn, 1) := by decide +kernel
theorem dX4_init_0 : decode cX4_init 0 = .ok (.aload_n 0, 1) := by decide +kernel
theorem dX4_init_1 : decode cX4_init 1 = .ok (.invokespecial 1, 3) := by decide +kernel
theorem dX4_init_4 : decode cX4_init 4 = .ok (.iconst 1, 1) := by decide +kernel
theorem dX4_init_5 : decode cX4_init 5 = .ok (.bipush 16, 2) := by decide +kernel
theorem dX4_init_7 : decode cX4_init 7 = .ok (.iload_n 1, 1) := by decide +kernel
theorem dX4_init_8 : decode cX4_init 8 = .ok (.invokestatic 9, 3) := by decide +kernel
theorem dX4_init_11 : decode cX4_init 11 = .ok (.invokestatic 15, 3) := by decide +kernel
theorem dX4_init_14 : decode cX4_init 14 = .ok (.istore_n 3, 1) := by decide +kernel
theorem dX4_init_15 : decode cX4_init 15 = .ok (.iconst 1, 1) := by decide +kernel
theorem dX4_init_16 : decode cX4_init 16 = .ok (.bipush 12, 2) := by decide +kernel
theorem dX4_init_18 : decode cX4_init 18 = .ok (.iload_n 2, 1) := by decide +kernel
theorem dX4_init_19 : decode cX4_init 19 = .ok (.invokestatic 9, 3) := by decide +kernel
theorem dX4_init_22 : decode cX4_init 22 = .ok (.invokestatic 15, 3) := by decide +kernel
theorem dX4_init_25 : decode cX4_init 25 = .ok (.istore 4, 2) := by decide +kernel
theorem dX4_init_27 : decode cX4_init 27 = .ok (.aload_n 0, 1) := by decide +kernel
theorem dX4_init_28 : decode cX4_init 28 = .ok (.new 18, 3) := by decide +kernel
theorem dX4_init_31 : decode cX4_init 31 = .ok (.dup, 1) := by decide +kernel
theorem dX4_init_32 : decode cX4_init 32 = .ok (.iload_n 3, 1) := by decide +kernel
theorem dX4_init_33 : decode cX4_init 33 = .ok (.iload 4, 2) := by decide +kernel
theorem dX4_init_35 : decode cX4_init 35 = .ok (.invokespecial 20, 3) := by decide +kernel
theorem dX4_init_38 : decode cX4_init 38 = .ok (.putfield 23, 3) := by decide +kernel
theorem dX4_init_41 : decode cX4_init 41 = .ok (.aload_n 0, 1) := by decide +kernel
theorem dX4_init_42 : decode cX4_init 42 = .ok (.new 27, 3) := by decide +kernel
theorem dX4_init_45 : decode cX4_init 45 = .ok (.dup, 1) := by decide +kernel
theorem dX4_init_46 : decode cX4_init 46 = .ok (.invokespecial 29, 3) := by decide +kernel
theorem dX4_init_49 : decode cX4_init 49 = .ok (.putfield 30, 3) := by decide +kernel
theorem dX4_init_52 : decode cX4_init 52 = .ok (.aload_n 0, 1) := by decide +kernel
theorem dX4_init_53 : decode cX4_init 53 = .ok (.bipush 6, 2) := by decide +kernel
theorem dX4_init_55 : decode cX4_init 55 = .ok (.anewarray 34, 3) := by decide +kernel
theorem dX4_init_58 : decode cX4_init 58 = .ok (.putfield 36, 3) := by decide +kernel
theorem dX4_init_61 : decode cX4_init 61 = .ok (.aload_n 0, 1) := by decide +kernel
theorem dX4_init_62 : decode cX4_init 62 = .ok (.iconst 0, 1) := by decide +kernel
theorem dX4_init_63 : decode cX4_init 63 = .ok (.putfield 40, 3) := by decide +kernel
theorem dX4_init_66 : decode cX4_init 66 = .ok (.return_, 1) := by decide +kernel
theorem dX4_ink_0 : decode cX4_ink 0 = .ok (.iload_n 1, 1) := by decide +kernel
theorem dX4_ink_1 : decode cX4_ink 1 = .ok (.invokestatic 44, 3) := by decide +kernel
theorem dX4_ink_4 : decode cX4_ink 4 = .ok (.ifCond .eq 25, 3) := by decide +kernel
theorem dX4_ink_7 : decode cX4_ink 7 = .ok (.iload_n 2, 1) := by decide +kernel
theorem dX4_ink_8 : decode cX4_ink 8 = .ok (.invokestatic 44, 3) := by decide +kernel
theorem dX4_ink_11 : decode cX4_ink 11 = .ok (.ifCond .eq 18, 3) := by decide +kernel
theorem dX4_ink_14 : decode cX4_ink 14 = .ok (.iload_n 3, 1) := by decide +kernel
theorem dX4_ink_15 : decode cX4_ink 15 = .ok (.invokestatic 44, 3) := by decide +kernel
theorem dX4_ink_18 : decode cX4_ink 18 = .ok (.ifCond .eq 11, 3) := by decide +kernel
theorem dX4_ink_21 : decode cX4_ink 21 = .ok (.iload 4, 2) := by decide +kernel
theorem dX4_ink_23 : decode cX4_ink 23 = .ok (.invokestatic 44, 3) := by decide +kernel
theorem dX4_ink_26 : decode cX4_ink 26 = .ok (.ifCond .ne 13, 3) := by decide +kernel
theorem dX4_ink_29 : decode cX4_ink 29 = .ok (.new 48, 3) := by decide +kernel
theorem dX4_ink_32 : decode cX4_ink 32 = .ok (.dup, 1) := by decide +kernel
theorem dX4_ink_33 : decode cX4_ink 33 = .ok (.ldc 50, 2) := by decide +kernel
theorem dX4_ink_35 : decode cX4_ink 35 = .ok (.invokespecial 52, 3) := by decide +kernel
theorem dX4_ink_38 : decode cX4_ink 38 = .ok (.athrow, 1) := by decide +kernel
theorem dX4_ink_39 : decode cX4_ink 39 = .ok (.aload_n 0, 1) := by decide +kernel
theorem dX4_ink_40 : decode cX4_ink 40 = .ok (.getfield 23, 3) := by decide +kernel
theorem dX4_ink_43 : decode cX4_ink 43 = .ok (.getfield 55, 3) := by decide +kernel
theorem dX4_ink_46 : decode cX4_ink 46 = .ok (.getfield 59, 3) := by decide +kernel
theorem dX4_ink_49 : decode cX4_ink 49 = .ok (.bipush 8, 2) := by decide +kernel
theorem dX4_ink_51 : decode cX4_ink 51 = .ok (.if_icmp .lt 13, 3) := by decide +kernel
theorem dX4_ink_54 : decode cX4_ink 54 = .ok (.new 64, 3) := by decide +kernel
theorem dX4_ink_57 : decode cX4_ink 57 = .ok (.dup, 1) := by decide +kernel
theorem dX4_ink_58 : decode cX4_ink 58 = .ok (.ldc 66, 2) := by decide +kernel
theorem dX4_ink_60 : decode cX4_ink 60 = .ok (.invokespecial 68, 3) := by decide +kernel
theorem dX4_ink_63 : decode cX4_ink 63 = .ok (.athrow, 1) := by decide +kernel
theorem dX4_ink_64 : decode cX4_ink 64 = .ok (.aload_n 0, 1) := by decide +kernel
theorem dX4_ink_65 : decode cX4_ink 65 = .ok (.getfield 23, 3) := by decide +kernel
theorem dX4_ink_68 : decode cX4_ink 68 = .ok (.getfield 55, 3) := by decide +kernel
theorem dX4_ink_71 : decode cX4_ink 71 = .ok (.iload_n 1, 1) := by decide +kernel
theorem dX4_ink_72 : decode cX4_ink 72 = .ok (.iload_n 2, 1) := by decide +kernel
theorem dX4_ink_73 : decode cX4_ink 73 = .ok (.iload_n 3, 1) := by decide +kernel
theorem dX4_ink_74 : decode cX4_ink 74 = .ok (.iload 4, 2) := by decide +kernel
theorem dX4_ink_76 : decode cX4_ink 76 = .ok (.invokevirtual 69, 3) := by decide +kernel
theorem dX4_ink_79 : decode cX4_ink 79 = .ok (.ireturn, 1) := by decide +kernel
theorem dX4_colour_0 : decode cX4_colour 0 = .ok (.iload_n 2, 1) := by decide +kernel
theorem dX4_colour_1 : decode cX4_colour 1 = .ok (.iconst (-1), 1) := by decide +kernel
theorem dX4_colour_2 : decode cX4_colour 2 = .ok (.if_icmp .lt 10, 3) := by decide +kernel
theorem dX4_colour_5 : decode cX4_colour 5 = .ok (.iload_n 2, 1) := by decide +kernel
theorem dX4_colour_6 : decode cX4_colour 6 = .ok (.sipush 255, 3) := by decide +kernel
theorem dX4_colour_9 : decode cX4_colour 9 = .ok (.if_icmp .le 13, 3) := by decide +kernel
theorem dX4_colour_12 : decode cX4_colour 12 = .ok (.new 48, 3) := by decide +kernel
theorem dX4_colour_15 : decode cX4_colour 15 = .ok (.dup, 1) := by decide +kernel
theorem dX4_colour_16 : decode cX4_colour 16 = .ok (.ldc 73, 2) := by decide +kernel
theorem dX4_colour_18 : decode cX4_colour 18 = .ok (.invokespecial 52, 3) := by decide +kernel
theorem dX4_colour_21 : decode cX4_colour 21 = .ok (.athrow, 1) := by decide +kernel
theorem dX4_colour_22 : decode cX4_colour 22 = .ok (.aload_n 0, 1) := by decide +kernel
theorem dX4_colour_23 : decode cX4_colour 23 = .ok (.iload_n 1, 1) := by decide +kernel
theorem dX4_colour_24 : decode cX4_colour 24 = .ok (.invokevirtual 75, 3) := by decide +kernel
theorem dX4_colour_27 : decode cX4_colour 27 = .ok (.aload_n 0, 1) := by decide +kernel
theorem dX4_colour_28 : decode cX4_colour 28 = .ok (.getfield 23, 3) := by decide +kernel
theorem dX4_colour_31 : decode cX4_colour 31 = .ok (.getfield 55, 3) := by decide +kernel
theorem dX4_colour_34 : decode cX4_colour 34 = .ok (.getfield 79, 3) := by decide +kernel
theorem dX4_colour_37 : decode cX4_colour 37 = .ok (.iload_n 1, 1) := by decide +kernel
theorem dX4_colour_38 : decode cX4_colour 38 = .ok (.iload_n 2, 1) := by decide +kernel
theorem dX4_colour_39 : decode cX4_colour 39 = .ok (.iastore, 1) := by decide +kernel
theorem dX4_colour_40 : decode cX4_colour 40 = .ok (.return_, 1) := by decide +kernel
theorem dX4_paint_0 : decode cX4_paint 0 = .ok (.iconst 0, 1) := by decide +kernel
theorem dX4_paint_1 : decode cX4_paint 1 = .ok (.iload_n 1, 1) := by decide +kernel
theorem dX4_paint_2 : decode cX4_paint 2 = .ok (.invokestatic 15, 3) := by decide +kernel
theorem dX4_paint_5 : decode cX4_paint 5 = .ok (.istore 6, 2) := by decide +kernel
theorem dX4_paint_7 : decode cX4_paint 7 = .ok (.aload_n 0, 1) := by decide +kernel
theorem dX4_paint_8 : decode cX4_paint 8 = .ok (.getfield 23, 3) := by decide +kernel
theorem dX4_paint_11 : decode cX4_paint 11 = .ok (.getfield 83, 3) := by decide +kernel
theorem dX4_paint_14 : decode cX4_paint 14 = .ok (.iconst 1, 1) := by decide +kernel
theorem dX4_paint_15 : decode cX4_paint 15 = .ok (.isub, 1) := by decide +kernel
theorem dX4_paint_16 : decode cX4_paint 16 = .ok (.iload_n 3, 1) := by decide +kernel
theorem dX4_paint_17 : decode cX4_paint 17 = .ok (.invokestatic 9, 3) := by decide +kernel
theorem dX4_paint_20 : decode cX4_paint 20 = .ok (.istore 7, 2) := by decide +kernel
theorem dX4_paint_22 : decode cX4_paint 22 = .ok (.iconst 0, 1) := by decide +kernel
theorem dX4_paint_23 : decode cX4_paint 23 = .ok (.iload_n 2, 1) := by decide +kernel
theorem dX4_paint_24 : decode cX4_paint 24 = .ok (.invokestatic 15, 3) := by decide +kernel
theorem dX4_paint_27 : decode cX4_paint 27 = .ok (.istore 8, 2) := by decide +kernel
theorem dX4_paint_29 : decode cX4_paint 29 = .ok (.aload_n 0, 1) := by decide +kernel
theorem dX4_paint_30 : decode cX4_paint 30 = .ok (.getfield 23, 3) := by decide +kernel
theorem dX4_paint_33 : decode cX4_paint 33 = .ok (.getfield 86, 3) := by decide +kernel
theorem dX4_paint_36 : decode cX4_paint 36 = .ok (.iconst 1, 1) := by decide +kernel
theorem dX4_paint_37 : decode cX4_paint 37 = .ok (.isub, 1) := by decide +kernel
theorem dX4_paint_38 : decode cX4_paint 38 = .ok (.iload 4, 2) := by decide +kernel
theorem dX4_paint_40 : decode cX4_paint 40 = .ok (.invokestatic 9, 3) := by decide +kernel
theorem dX4_paint_43 : decode cX4_paint 43 = .ok (.istore 9, 2) := by decide +kernel
theorem dX4_paint_45 : decode cX4_paint 45 = .ok (.iconst 0, 1) := by decide +kernel
theorem dX4_paint_46 : decode cX4_paint 46 = .ok (.istore 10, 2) := by decide +kernel
theorem dX4_paint_48 : decode cX4_paint 48 = .ok (.iload 8, 2) := by decide +kernel
theorem dX4_paint_50 : decode cX4_paint 50 = .ok (.istore 11, 2) := by decide +kernel
theorem dX4_paint_52 : decode cX4_paint 52 = .ok (.iload 11, 2) := by decide +kernel
theorem dX4_paint_54 : decode cX4_paint 54 = .ok (.iload 9, 2) := by decide +kernel
theorem dX4_paint_56 : decode cX4_paint 56 = .ok (.if_icmp .gt 51, 3) := by decide +kernel
theorem dX4_paint_59 : decode cX4_paint 59 = .ok (.iload 6, 2) := by decide +kernel
theorem dX4_paint_61 : decode cX4_paint 61 = .ok (.istore 12, 2) := by decide +kernel
theorem dX4_paint_63 : decode cX4_paint 63 = .ok (.iload 12, 2) := by decide +kernel
theorem dX4_paint_65 : decode cX4_paint 65 = .ok (.iload 7, 2) := by decide +kernel
theorem dX4_paint_67 : decode cX4_paint 67 = .ok (.if_icmp .gt 34, 3) := by decide +kernel
theorem dX4_paint_70 : decode cX4_paint 70 = .ok (.aload_n 0, 1) := by decide +kernel
theorem dX4_paint_71 : decode cX4_paint 71 = .ok (.getfield 23, 3) := by decide +kernel
theorem dX4_paint_74 : decode cX4_paint 74 = .ok (.iload 12, 2) := by decide +kernel
theorem dX4_paint_76 : decode cX4_paint 76 = .ok (.aload_n 0, 1) := by decide +kernel
theorem dX4_paint_77 : decode cX4_paint 77 = .ok (.getfield 23, 3) := by decide +kernel
theorem dX4_paint_80 : decode cX4_paint 80 = .ok (.getfield 83, 3) := by decide +kernel
theorem dX4_paint_83 : decode cX4_paint 83 = .ok (.iload 11, 2) := by decide +kernel
theorem dX4_paint_85 : decode cX4_paint 85 = .ok (.imul, 1) := by decide +kernel
theorem dX4_paint_86 : decode cX4_paint 86 = .ok (.iadd, 1) := by decide +kernel
theorem dX4_paint_87 : decode cX4_paint 87 = .ok (.iload 5, 2) := by decide +kernel
theorem dX4_paint_89 : decode cX4_paint 89 = .ok (.invokevirtual 89, 3) := by decide +kernel
theorem dX4_paint_92 : decode cX4_paint 92 = .ok (.iinc 10 1, 3) := by decide +kernel
theorem dX4_paint_95 : decode cX4_paint 95 = .ok (.iinc 12 1, 3) := by decide +kernel
theorem dX4_paint_98 : decode cX4_paint 98 = .ok (.goto (-35), 3) := by decide +kernel
theorem dX4_paint_101 : decode cX4_paint 101 = .ok (.iinc 11 1, 3) := by decide +kernel
theorem dX4_paint_104 : decode cX4_paint 104 = .ok (.goto (-52), 3) := by decide +kernel
theorem dX4_paint_107 : decode cX4_paint 107 = .ok (.iload 10, 2) := by decide +kernel
theorem dX4_paint_109 : decode cX4_paint 109 = .ok (.ireturn, 1) := by decide +kernel
theorem dX4_limit_0 : decode cX4_limit 0 = .ok (.iload_n 1, 1) := by decide +kernel
theorem dX4_limit_1 : decode cX4_limit 1 = .ok (.ifCond .lt 10, 3) := by decide +kernel
theorem dX4_limit_4 : decode cX4_limit 4 = .ok (.iload_n 1, 1) := by decide +kernel
theorem dX4_limit_5 : decode cX4_limit 5 = .ok (.sipush 2040, 3) := by decide +kernel
theorem dX4_limit_8 : decode cX4_limit 8 = .ok (.if_icmp .le 13, 3) := by decide +kernel
theorem dX4_limit_11 : decode cX4_limit 11 = .ok (.new 48, 3) := by decide +kernel
theorem dX4_limit_14 : decode cX4_limit 14 = .ok (.dup, 1) := by decide +kernel
theorem dX4_limit_15 : decode cX4_limit 15 = .ok (.ldc 93, 2) := by decide +kernel
theorem dX4_limit_17 : decode cX4_limit 17 = .ok (.invokespecial 52, 3) := by decide +kernel
theorem dX4_limit_20 : decode cX4_limit 20 = .ok (.athrow, 1) := by decide +kernel
theorem dX4_limit_21 : decode cX4_limit 21 = .ok (.aload_n 0, 1) := by decide +kernel
theorem dX4_limit_22 : decode cX4_limit 22 = .ok (.getfield 23, 3) := by decide +kernel
theorem dX4_limit_25 : decode cX4_limit 25 = .ok (.getfield 95, 3) := by decide +kernel
theorem dX4_limit_28 : decode cX4_limit 28 = .ok (.istore_n 2, 1) := by decide +kernel
theorem dX4_limit_29 : decode cX4_limit 29 = .ok (.aload_n 0, 1) := by decide +kernel
theorem dX4_limit_30 : decode cX4_limit 30 = .ok (.getfield 23, 3) := by decide +kernel
theorem dX4_limit_33 : decode cX4_limit 33 = .ok (.iload_n 1, 1) := by decide +kernel
theorem dX4_limit_34 : decode cX4_limit 34 = .ok (.putfield 95, 3) := by decide +kernel
theorem dX4_limit_37 : decode cX4_limit 37 = .ok (.iload_n 2, 1) := by decide +kernel
theorem dX4_limit_38 : decode cX4_limit 38 = .ok (.ireturn, 1) := by decide +kernel
theorem dX4_plate_0 : decode cX4_plate 0 = .ok (.iload 4, 2) := by decide +kernel
theorem dX4_plate_2 : decode cX4_plate 2 = .ok (.ifCond .lt 9, 3) := by decide +kernel
theorem dX4_plate_5 : decode cX4_plate 5 = .ok (.iload 4, 2) := by decide +kernel
theorem dX4_plate_7 : decode cX4_plate 7 = .ok (.iconst 3, 1) := by decide +kernel
theorem dX4_plate_8 : decode cX4_plate 8 = .ok (.if_icmp .le 13, 3) := by decide +kernel
theorem dX4_plate_11 : decode cX4_plate 11 = .ok (.new 48, 3) := by decide +kernel
theorem dX4_plate_14 : decode cX4_plate 14 = .ok (.dup, 1) := by decide +kernel
theorem dX4_plate_15 : decode cX4_plate 15 = .ok (.ldc 98, 2) := by decide +kernel
theorem dX4_plate_17 : decode cX4_plate 17 = .ok (.invokespecial 52, 3) := by decide +kernel
theorem dX4_plate_20 : decode cX4_plate 20 = .ok (.athrow, 1) := by decide +kernel
theorem dX4_plate_21 : decode cX4_plate 21 = .ok (.aload_n 0, 1) := by decide +kernel
theorem dX4_plate_22 : decode cX4_plate 22 = .ok (.iload_n 1, 1) := by decide +kernel
theorem dX4_plate_23 : decode cX4_plate 23 = .ok (.invokevirtual 75, 3) := by decide +kernel
theorem dX4_plate_26 : decode cX4_plate 26 = .ok (.aload_n 0, 1) := by decide +kernel
theorem dX4_plate_27 : decode cX4_plate 27 = .ok (.iload_n 2, 1) := by decide +kernel
theorem dX4_plate_28 : decode cX4_plate 28 = .ok (.iload_n 3, 1) := by decide +kernel
theorem dX4_plate_29 : decode cX4_plate 29 = .ok (.invokevirtual 100, 3) := by decide +kernel
theorem dX4_plate_32 : decode cX4_plate 32 = .ok (.iload 4, 2) := by decide +kernel
theorem dX4_plate_34 : decode cX4_plate 34 = .ok (.iconst 2, 1) := by decide +kernel
theorem dX4_plate_35 : decode cX4_plate 35 = .ok (.irem, 1) := by decide +kernel
theorem dX4_plate_36 : decode cX4_plate 36 = .ok (.iconst 1, 1) := by decide +kernel
theorem dX4_plate_37 : decode cX4_plate 37 = .ok (.if_icmp .ne 15, 3) := by decide +kernel
theorem dX4_plate_40 : decode cX4_plate 40 = .ok (.aload_n 0, 1) := by decide +kernel
theorem dX4_plate_41 : decode cX4_plate 41 = .ok (.getfield 23, 3) := by decide +kernel
theorem dX4_plate_44 : decode cX4_plate 44 = .ok (.iload_n 2, 1) := by decide +kernel
theorem dX4_plate_45 : decode cX4_plate 45 = .ok (.iload_n 3, 1) := by decide +kernel
theorem dX4_plate_46 : decode cX4_plate 46 = .ok (.invokevirtual 103, 3) := by decide +kernel
theorem dX4_plate_49 : decode cX4_plate 49 = .ok (.goto 4, 3) := by decide +kernel
theorem dX4_plate_52 : decode cX4_plate 52 = .ok (.iconst (-1), 1) := by decide +kernel
theorem dX4_plate_53 : decode cX4_plate 53 = .ok (.istore 5, 2) := by decide +kernel
theorem dX4_plate_55 : decode cX4_plate 55 = .ok (.aload_n 0, 1) := by decide +kernel
theorem dX4_plate_56 : decode cX4_plate 56 = .ok (.getfield 23, 3) := by decide +kernel
theorem dX4_plate_59 : decode cX4_plate 59 = .ok (.iload_n 1, 1) := by decide +kernel
theorem dX4_plate_60 : decode cX4_plate 60 = .ok (.iload_n 2, 1) := by decide +kernel
theorem dX4_plate_61 : decode cX4_plate 61 = .ok (.aload_n 0, 1) := by decide +kernel
theorem dX4_plate_62 : decode cX4_plate 62 = .ok (.getfield 23, 3) := by decide +kernel
theorem dX4_plate_65 : decode cX4_plate 65 = .ok (.getfield 83, 3) := by decide +kernel
theorem dX4_plate_68 : decode cX4_plate 68 = .ok (.iload_n 3, 1) := by decide +kernel
theorem dX4_plate_69 : decode cX4_plate 69 = .ok (.imul, 1) := by decide +kernel
theorem dX4_plate_70 : decode cX4_plate 70 = .ok (.iadd, 1) := by decide +kernel
theorem dX4_plate_71 : decode cX4_plate 71 = .ok (.iload 5, 2) := by decide +kernel
theorem dX4_plate_73 : decode cX4_plate 73 = .ok (.invokevirtual 106, 3) := by decide +kernel
theorem dX4_plate_76 : decode cX4_plate 76 = .ok (.istore 6, 2) := by decide +kernel
theorem dX4_plate_78 : decode cX4_plate 78 = .ok (.iload 4, 2) := by decide +kernel
theorem dX4_plate_80 : decode cX4_plate 80 = .ok (.iconst 2, 1) := by decide +kernel
theorem dX4_plate_81 : decode cX4_plate 81 = .ok (.if_icmp .lt 15, 3) := by decide +kernel
theorem dX4_plate_84 : decode cX4_plate 84 = .ok (.aload_n 0, 1) := by decide +kernel
theorem dX4_plate_85 : decode cX4_plate 85 = .ok (.getfield 30, 3) := by decide +kernel
theorem dX4_plate_88 : decode cX4_plate 88 = .ok (.iload 6, 2) := by decide +kernel
theorem dX4_plate_90 : decode cX4_plate 90 = .ok (.invokevirtual 110, 3) := by decide +kernel
theorem dX4_plate_93 : decode cX4_plate 93 = .ok (.goto 5, 3) := by decide +kernel
theorem dX4_plate_96 : decode cX4_plate 96 = .ok (.iload 6, 2) := by decide +kernel
theorem dX4_plate_98 : decode cX4_plate 98 = .ok (.ireturn, 1) := by decide +kernel
theorem dX4_seen_0 : decode cX4_seen 0 = .ok (.aload_n 0, 1) := by decide +kernel
theorem dX4_seen_1 : decode cX4_seen 1 = .ok (.iload_n 1, 1) := by decide +kernel
theorem dX4_seen_2 : decode cX4_seen 2 = .ok (.iload_n 2, 1) := by decide +kernel
theorem dX4_seen_3 : decode cX4_seen 3 = .ok (.invokevirtual 100, 3) := by decide +kernel
theorem dX4_seen_6 : decode cX4_seen 6 = .ok (.iload_n 3, 1) := by decide +kernel
theorem dX4_seen_7 : decode cX4_seen 7 = .ok (.ifCond .lt 8, 3) := by decide +kernel
theorem dX4_seen_10 : decode cX4_seen 10 = .ok (.iload_n 3, 1) := by decide +kernel
theorem dX4_seen_11 : decode cX4_seen 11 = .ok (.iconst 3, 1) := by decide +kernel
theorem dX4_seen_12 : decode cX4_seen 12 = .ok (.if_icmp .lt 13, 3) := by decide +kernel
theorem dX4_seen_15 : decode cX4_seen 15 = .ok (.new 114, 3) := by decide +kernel
theorem dX4_seen_18 : decode cX4_seen 18 = .ok (.dup, 1) := by decide +kernel
theorem dX4_seen_19 : decode cX4_seen 19 = .ok (.ldc 116, 2) := by decide +kernel
theorem dX4_seen_21 : decode cX4_seen 21 = .ok (.invokespecial 118, 3) := by decide +kernel
theorem dX4_seen_24 : decode cX4_seen 24 = .ok (.athrow, 1) := by decide +kernel
theorem dX4_seen_25 : decode cX4_seen 25 = .ok (.iload 4, 2) := by decide +kernel
theorem dX4_seen_27 : decode cX4_seen 27 = .ok (.ifCond .eq 15, 3) := by decide +kernel
theorem dX4_seen_30 : decode cX4_seen 30 = .ok (.aload_n 0, 1) := by decide +kernel
theorem dX4_seen_31 : decode cX4_seen 31 = .ok (.getfield 23, 3) := by decide +kernel
theorem dX4_seen_34 : decode cX4_seen 34 = .ok (.iload_n 1, 1) := by decide +kernel
theorem dX4_seen_35 : decode cX4_seen 35 = .ok (.iload_n 2, 1) := by decide +kernel
theorem dX4_seen_36 : decode cX4_seen 36 = .ok (.invokevirtual 103, 3) := by decide +kernel
theorem dX4_seen_39 : decode cX4_seen 39 = .ok (.goto 4, 3) := by decide +kernel
theorem dX4_seen_42 : decode cX4_seen 42 = .ok (.iconst (-1), 1) := by decide +kernel
theorem dX4_seen_43 : decode cX4_seen 43 = .ok (.istore 5, 2) := by decide +kernel
theorem dX4_seen_45 : decode cX4_seen 45 = .ok (.aload_n 0, 1) := by decide +kernel
theorem dX4_seen_46 : decode cX4_seen 46 = .ok (.getfield 23, 3) := by decide +kernel
theorem dX4_seen_49 : decode cX4_seen 49 = .ok (.iload_n 3, 1) := by decide +kernel
theorem dX4_seen_50 : decode cX4_seen 50 = .ok (.iload_n 1, 1) := by decide +kernel
theorem dX4_seen_51 : decode cX4_seen 51 = .ok (.aload_n 0, 1) := by decide +kernel
theorem dX4_seen_52 : decode cX4_seen 52 = .ok (.getfield 23, 3) := by decide +kernel
theorem dX4_seen_55 : decode cX4_seen 55 = .ok (.getfield 83, 3) := by decide +kernel
theorem dX4_seen_58 : decode cX4_seen 58 = .ok (.iload_n 2, 1) := by decide +kernel
theorem dX4_seen_59 : decode cX4_seen 59 = .ok (.imul, 1) := by decide +kernel
theorem dX4_seen_60 : decode cX4_seen 60 = .ok (.iadd, 1) := by decide +kernel
theorem dX4_seen_61 : decode cX4_seen 61 = .ok (.iload 5, 2) := by decide +kernel
theorem dX4_seen_63 : decode cX4_seen 63 = .ok (.invokevirtual 119, 3) := by decide +kernel
theorem dX4_seen_66 : decode cX4_seen 66 = .ok (.ireturn, 1) := by decide +kernel
theorem dX4_lender_0 : decode cX4_lender 0 = .ok (.aload_n 0, 1) := by decide +kernel
theorem dX4_lender_1 : decode cX4_lender 1 = .ok (.iload_n 1, 1) := by decide +kernel
theorem dX4_lender_2 : decode cX4_lender 2 = .ok (.iload_n 2, 1) := by decide +kernel
theorem dX4_lender_3 : decode cX4_lender 3 = .ok (.invokevirtual 100, 3) := by decide +kernel
theorem dX4_lender_6 : decode cX4_lender 6 = .ok (.aload_n 0, 1) := by decide +kernel
theorem dX4_lender_7 : decode cX4_lender 7 = .ok (.getfield 23, 3) := by decide +kernel
theorem dX4_lender_10 : decode cX4_lender 10 = .ok (.iload_n 1, 1) := by decide +kernel
theorem dX4_lender_11 : decode cX4_lender 11 = .ok (.iload_n 2, 1) := by decide +kernel
theorem dX4_lender_12 : decode cX4_lender 12 = .ok (.invokevirtual 103, 3) := by decide +kernel
theorem dX4_lender_15 : decode cX4_lender 15 = .ok (.ireturn, 1) := by decide +kernel
theorem dX4_width_0 : decode cX4_width 0 = .ok (.iload_n 1, 1) := by decide +kernel
theorem dX4_width_1 : decode cX4_width 1 = .ok (.ifCond .lt 8, 3) := by decide +kernel
theorem dX4_width_4 : decode cX4_width 4 = .ok (.iload_n 1, 1) := by decide +kernel
theorem dX4_width_5 : decode cX4_width 5 = .ok (.iconst 3, 1) := by decide +kernel
theorem dX4_width_6 : decode cX4_width 6 = .ok (.if_icmp .le 13, 3) := by decide +kernel
theorem dX4_width_9 : decode cX4_width 9 = .ok (.new 48, 3) := by decide +kernel
theorem dX4_width_12 : decode cX4_width 12 = .ok (.dup, 1) := by decide +kernel
theorem dX4_width_13 : decode cX4_width 13 = .ok (.ldc 122, 2) := by decide +kernel
theorem dX4_width_15 : decode cX4_width 15 = .ok (.invokespecial 52, 3) := by decide +kernel
theorem dX4_width_18 : decode cX4_width 18 = .ok (.athrow, 1) := by decide +kernel
theorem dX4_width_19 : decode cX4_width 19 = .ok (.aload_n 0, 1) := by decide +kernel
theorem dX4_width_20 : decode cX4_width 20 = .ok (.getfield 23, 3) := by decide +kernel
theorem dX4_width_23 : decode cX4_width 23 = .ok (.getfield 124, 3) := by decide +kernel
theorem dX4_width_26 : decode cX4_width 26 = .ok (.istore_n 2, 1) := by decide +kernel
theorem dX4_width_27 : decode cX4_width 27 = .ok (.aload_n 0, 1) := by decide +kernel
theorem dX4_width_28 : decode cX4_width 28 = .ok (.getfield 23, 3) := by decide +kernel
theorem dX4_width_31 : decode cX4_width 31 = .ok (.iload_n 1, 1) := by decide +kernel
theorem dX4_width_32 : decode cX4_width 32 = .ok (.putfield 124, 3) := by decide +kernel
theorem dX4_width_35 : decode cX4_width 35 = .ok (.iload_n 2, 1) := by decide +kernel
theorem dX4_width_36 : decode cX4_width 36 = .ok (.ireturn, 1) := by decide +kernel
theorem dX4_gain_0 : decode cX4_gain 0 = .ok (.iload_n 1, 1) := by decide +kernel
theorem dX4_gain_1 : decode cX4_gain 1 = .ok (.invokestatic 44, 3) := by decide +kernel
theorem dX4_gain_4 : decode cX4_gain 4 = .ok (.ifCond .eq 10, 3) := by decide +kernel
theorem dX4_gain_7 : decode cX4_gain 7 = .ok (.iload_n 2, 1) := by decide +kernel
theorem dX4_gain_8 : decode cX4_gain 8 = .ok (.invokestatic 44, 3) := by decide +kernel
theorem dX4_gain_11 : decode cX4_gain 11 = .ok (.ifCond .ne 13, 3) := by decide +kernel
theorem dX4_gain_14 : decode cX4_gain 14 = .ok (.new 48, 3) := by decide +kernel
theorem dX4_gain_17 : decode cX4_gain 17 = .ok (.dup, 1) := by decide +kernel
theorem dX4_gain_18 : decode cX4_gain 18 = .ok (.ldc 127, 2) := by decide +kernel
theorem dX4_gain_20 : decode cX4_gain 20 = .ok (.invokespecial 52, 3) := by decide +kernel
theorem dX4_gain_23 : decode cX4_gain 23 = .ok (.athrow, 1) := by decide +kernel
theorem dX4_gain_24 : decode cX4_gain 24 = .ok (.aload_n 0, 1) := by decide +kernel
theorem dX4_gain_25 : decode cX4_gain 25 = .ok (.getfield 30, 3) := by decide +kernel
theorem dX4_gain_28 : decode cX4_gain 28 = .ok (.iload_n 1, 1) := by decide +kernel
theorem dX4_gain_29 : decode cX4_gain 29 = .ok (.invokevirtual 129, 3) := by decide +kernel
theorem dX4_gain_32 : decode cX4_gain 32 = .ok (.ifCond .ne 13, 3) := by decide +kernel
theorem dX4_gain_35 : decode cX4_gain 35 = .ok (.new 64, 3) := by decide +kernel
theorem dX4_gain_38 : decode cX4_gain 38 = .ok (.dup, 1) := by decide +kernel
theorem dX4_gain_39 : decode cX4_gain 39 = .ok (.ldc 132, 2) := by decide +kernel
theorem dX4_gain_41 : decode cX4_gain 41 = .ok (.invokespecial 68, 3) := by decide +kernel
theorem dX4_gain_44 : decode cX4_gain 44 = .ok (.athrow, 1) := by decide +kernel
theorem dX4_gain_45 : decode cX4_gain 45 = .ok (.aload_n 0, 1) := by decide +kernel
theorem dX4_gain_46 : decode cX4_gain 46 = .ok (.getfield 30, 3) := by decide +kernel
theorem dX4_gain_49 : decode cX4_gain 49 = .ok (.iload_n 1, 1) := by decide +kernel
theorem dX4_gain_50 : decode cX4_gain 50 = .ok (.iload_n 2, 1) := by decide +kernel
theorem dX4_gain_51 : decode cX4_gain 51 = .ok (.invokevirtual 134, 3) := by decide +kernel
theorem dX4_gain_54 : decode cX4_gain 54 = .ok (.return_, 1) := by decide +kernel
theorem dX4_cell_0 : decode cX4_cell 0 = .ok (.iload_n 1, 1) := by decide +kernel
theorem dX4_cell_1 : decode cX4_cell 1 = .ok (.ifCond .lt 21, 3) := by decide +kernel
theorem dX4_cell_4 : decode cX4_cell 4 = .ok (.iload_n 1, 1) := by decide +kernel
theorem dX4_cell_5 : decode cX4_cell 5 = .ok (.bipush 12, 2) := by decide +kernel
theorem dX4_cell_7 : decode cX4_cell 7 = .ok (.if_icmp .gt 15, 3) := by decide +kernel
theorem dX4_cell_10 : decode cX4_cell 10 = .ok (.iload_n 2, 1) := by decide +kernel
theorem dX4_cell_11 : decode cX4_cell 11 = .ok (.bipush (-12), 2) := by decide +kernel
theorem dX4_cell_13 : decode cX4_cell 13 = .ok (.if_icmp .lt 9, 3) := by decide +kernel
theorem dX4_cell_16 : decode cX4_cell 16 = .ok (.iload_n 2, 1) := by decide +kernel
theorem dX4_cell_17 : decode cX4_cell 17 = .ok (.bipush 12, 2) := by decide +kernel
theorem dX4_cell_19 : decode cX4_cell 19 = .ok (.if_icmp .le 13, 3) := by decide +kernel
theorem dX4_cell_22 : decode cX4_cell 22 = .ok (.new 48, 3) := by decide +kernel
theorem dX4_cell_25 : decode cX4_cell 25 = .ok (.dup, 1) := by decide +kernel
theorem dX4_cell_26 : decode cX4_cell 26 = .ok (.ldc 137, 2) := by decide +kernel
theorem dX4_cell_28 : decode cX4_cell 28 = .ok (.invokespecial 52, 3) := by decide +kernel
theorem dX4_cell_31 : decode cX4_cell 31 = .ok (.athrow, 1) := by decide +kernel
theorem dX4_cell_32 : decode cX4_cell 32 = .ok (.iload_n 1, 1) := by decide +kernel
theorem dX4_cell_33 : decode cX4_cell 33 = .ok (.ifCond .ne 17, 3) := by decide +kernel
theorem dX4_cell_36 : decode cX4_cell 36 = .ok (.iload_n 2, 1) := by decide +kernel
theorem dX4_cell_37 : decode cX4_cell 37 = .ok (.ifCond .ne 13, 3) := by decide +kernel
theorem dX4_cell_40 : decode cX4_cell 40 = .ok (.new 139, 3) := by decide +kernel
theorem dX4_cell_43 : decode cX4_cell 43 = .ok (.dup, 1) := by decide +kernel
theorem dX4_cell_44 : decode cX4_cell 44 = .ok (.ldc 141, 2) := by decide +kernel
theorem dX4_cell_46 : decode cX4_cell 46 = .ok (.invokespecial 143, 3) := by decide +kernel
theorem dX4_cell_49 : decode cX4_cell 49 = .ok (.athrow, 1) := by decide +kernel
theorem dX4_cell_50 : decode cX4_cell 50 = .ok (.aload_n 0, 1) := by decide +kernel
theorem dX4_cell_51 : decode cX4_cell 51 = .ok (.getfield 40, 3) := by decide +kernel
theorem dX4_cell_54 : decode cX4_cell 54 = .ok (.bipush 6, 2) := by decide +kernel
theorem dX4_cell_56 : decode cX4_cell 56 = .ok (.if_icmp .lt 13, 3) := by decide +kernel
theorem dX4_cell_59 : decode cX4_cell 59 = .ok (.new 64, 3) := by decide +kernel
theorem dX4_cell_62 : decode cX4_cell 62 = .ok (.dup, 1) := by decide +kernel
theorem dX4_cell_63 : decode cX4_cell 63 = .ok (.ldc 144, 2) := by decide +kernel
theorem dX4_cell_65 : decode cX4_cell 65 = .ok (.invokespecial 68, 3) := by decide +kernel
theorem dX4_cell_68 : decode cX4_cell 68 = .ok (.athrow, 1) := by decide +kernel
theorem dX4_cell_69 : decode cX4_cell 69 = .ok (.aload_n 0, 1) := by decide +kernel
theorem dX4_cell_70 : decode cX4_cell 70 = .ok (.getfield 36, 3) := by decide +kernel
theorem dX4_cell_73 : decode cX4_cell 73 = .ok (.aload_n 0, 1) := by decide +kernel
theorem dX4_cell_74 : decode cX4_cell 74 = .ok (.getfield 40, 3) := by decide +kernel
theorem dX4_cell_77 : decode cX4_cell 77 = .ok (.new 34, 3) := by decide +kernel
theorem dX4_cell_80 : decode cX4_cell 80 = .ok (.dup, 1) := by decide +kernel
theorem dX4_cell_81 : decode cX4_cell 81 = .ok (.iload_n 1, 1) := by decide +kernel
theorem dX4_cell_82 : decode cX4_cell 82 = .ok (.iload_n 2, 1) := by decide +kernel
theorem dX4_cell_83 : decode cX4_cell 83 = .ok (.invokespecial 146, 3) := by decide +kernel
theorem dX4_cell_86 : decode cX4_cell 86 = .ok (.aastore, 1) := by decide +kernel
theorem dX4_cell_87 : decode cX4_cell 87 = .ok (.aload_n 0, 1) := by decide +kernel
theorem dX4_cell_88 : decode cX4_cell 88 = .ok (.dup, 1) := by decide +kernel
theorem dX4_cell_89 : decode cX4_cell 89 = .ok (.getfield 40, 3) := by decide +kernel
theorem dX4_cell_92 : decode cX4_cell 92 = .ok (.iconst 1, 1) := by decide +kernel
theorem dX4_cell_93 : decode cX4_cell 93 = .ok (.iadd, 1) := by decide +kernel
theorem dX4_cell_94 : decode cX4_cell 94 = .ok (.putfield 40, 3) := by decide +kernel
theorem dX4_cell_97 : decode cX4_cell 97 = .ok (.aload_n 0, 1) := by decide +kernel
theorem dX4_cell_98 : decode cX4_cell 98 = .ok (.getfield 40, 3) := by decide +kernel
theorem dX4_cell_101 : decode cX4_cell 101 = .ok (.iconst 1, 1) := by decide +kernel
theorem dX4_cell_102 : decode cX4_cell 102 = .ok (.isub, 1) := by decide +kernel
theorem dX4_cell_103 : decode cX4_cell 103 = .ok (.ireturn, 1) := by decide +kernel
theorem dX4_rank_0 : decode cX4_rank 0 = .ok (.aload_n 0, 1) := by decide +kernel
theorem dX4_rank_1 : decode cX4_rank 1 = .ok (.iload_n 1, 1) := by decide +kernel
theorem dX4_rank_2 : decode cX4_rank 2 = .ok (.invokevirtual 147, 3) := by decide +kernel
theorem dX4_rank_5 : decode cX4_rank 5 = .ok (.astore_n 3, 1) := by decide +kernel
theorem dX4_rank_6 : decode cX4_rank 6 = .ok (.iload_n 2, 1) := by decide +kernel
theorem dX4_rank_7 : decode cX4_rank 7 = .ok (.iconst (-1), 1) := by decide +kernel
theorem dX4_rank_8 : decode cX4_rank 8 = .ok (.if_icmp .lt 12, 3) := by decide +kernel
theorem dX4_rank_11 : decode cX4_rank 11 = .ok (.iload_n 2, 1) := by decide +kernel
theorem dX4_rank_12 : decode cX4_rank 12 = .ok (.aload_n 3, 1) := by decide +kernel
theorem dX4_rank_13 : decode cX4_rank 13 = .ok (.getfield 151, 3) := by decide +kernel
theorem dX4_rank_16 : decode cX4_rank 16 = .ok (.arraylength, 1) := by decide +kernel
theorem dX4_rank_17 : decode cX4_rank 17 = .ok (.if_icmp .lt 13, 3) := by decide +kernel
theorem dX4_rank_20 : decode cX4_rank 20 = .ok (.new 114, 3) := by decide +kernel
theorem dX4_rank_23 : decode cX4_rank 23 = .ok (.dup, 1) := by decide +kernel
theorem dX4_rank_24 : decode cX4_rank 24 = .ok (.ldc 154, 2) := by decide +kernel
theorem dX4_rank_26 : decode cX4_rank 26 = .ok (.invokespecial 118, 3) := by decide +kernel
theorem dX4_rank_29 : decode cX4_rank 29 = .ok (.athrow, 1) := by decide +kernel
theorem dX4_rank_30 : decode cX4_rank 30 = .ok (.iload_n 2, 1) := by decide +kernel
theorem dX4_rank_31 : decode cX4_rank 31 = .ok (.iconst (-1), 1) := by decide +kernel
theorem dX4_rank_32 : decode cX4_rank 32 = .ok (.if_icmp .ne 11, 3) := by decide +kernel
theorem dX4_rank_35 : decode cX4_rank 35 = .ok (.aload_n 3, 1) := by decide +kernel
theorem dX4_rank_36 : decode cX4_rank 36 = .ok (.getfield 151, 3) := by decide +kernel
theorem dX4_rank_39 : decode cX4_rank 39 = .ok (.arraylength, 1) := by decide +kernel
