/-! decode rows (printed), 1 -/
theorem dX0_init_0 : decode cX0_init 0 = .ok (.aload_n 0, 1) := by decide +kernel
theorem dX0_init_1 : decode cX0_init 1 = .ok (.invokespecial 3, 3) := by decide +kernel
theorem dX0_init_4 : decode cX0_init 4 = .ok (.aload_n 0, 1) := by decide +kernel
theorem dX0_init_5 : decode cX0_init 5 = .ok (.iconst 3, 1) := by decide +kernel
theorem dX0_init_6 : decode cX0_init 6 = .ok (.newarray .int, 2) := by decide +kernel
theorem dX0_init_8 : decode cX0_init 8 = .ok (.putfield 9, 3) := by decide +kernel
theorem dX0_init_11 : decode cX0_init 11 = .ok (.aload_n 0, 1) := by decide +kernel
theorem dX0_init_12 : decode cX0_init 12 = .ok (.iload_n 1, 1) := by decide +kernel
theorem dX0_init_13 : decode cX0_init 13 = .ok (.putfield 15, 3) := by decide +kernel
theorem dX0_init_16 : decode cX0_init 16 = .ok (.aload_n 0, 1) := by decide +kernel
theorem dX0_init_17 : decode cX0_init 17 = .ok (.aload_n 2, 1) := by decide +kernel
theorem dX0_init_18 : decode cX0_init 18 = .ok (.putfield 19, 3) := by decide +kernel
theorem dX0_init_21 : decode cX0_init 21 = .ok (.aload_n 0, 1) := by decide +kernel
theorem dX0_init_22 : decode cX0_init 22 = .ok (.iload_n 3, 1) := by decide +kernel
theorem dX0_init_23 : decode cX0_init 23 = .ok (.putfield 23, 3) := by decide +kernel
theorem dX0_init_26 : decode cX0_init 26 = .ok (.aload_n 0, 1) := by decide +kernel
theorem dX0_init_27 : decode cX0_init 27 = .ok (.iload 4, 2) := by decide +kernel
theorem dX0_init_29 : decode cX0_init 29 = .ok (.putfield 26, 3) := by decide +kernel
theorem dX0_init_32 : decode cX0_init 32 = .ok (.iconst 0, 1) := by decide +kernel
theorem dX0_init_33 : decode cX0_init 33 = .ok (.istore 5, 2) := by decide +kernel
theorem dX0_init_35 : decode cX0_init 35 = .ok (.iload 5, 2) := by decide +kernel
theorem dX0_init_37 : decode cX0_init 37 = .ok (.aload_n 0, 1) := by decide +kernel
theorem dX0_init_38 : decode cX0_init 38 = .ok (.getfield 9, 3) := by decide +kernel
theorem dX0_init_41 : decode cX0_init 41 = .ok (.arraylength, 1) := by decide +kernel
theorem dX0_init_42 : decode cX0_init 42 = .ok (.if_icmp .ge 17, 3) := by decide +kernel
theorem dX0_init_45 : decode cX0_init 45 = .ok (.aload_n 0, 1) := by decide +kernel
theorem dX0_init_46 : decode cX0_init 46 = .ok (.getfield 9, 3) := by decide +kernel
theorem dX0_init_49 : decode cX0_init 49 = .ok (.iload 5, 2) := by decide +kernel
theorem dX0_init_51 : decode cX0_init 51 = .ok (.iconst (-1), 1) := by decide +kernel
theorem dX0_init_52 : decode cX0_init 52 = .ok (.iastore, 1) := by decide +kernel
theorem dX0_init_53 : decode cX0_init 53 = .ok (.iinc 5 1, 3) := by decide +kernel
theorem dX0_init_56 : decode cX0_init 56 = .ok (.goto (-21), 3) := by decide +kernel
theorem dX0_init_59 : decode cX0_init 59 = .ok (.return_, 1) := by decide +kernel
theorem dX0_firstDayAt_0 : decode cX0_firstDayAt 0 = .ok (.aload_n 0, 1) := by decide +kernel
theorem dX0_firstDayAt_1 : decode cX0_firstDayAt 1 = .ok (.getfield 9, 3) := by decide +kernel
theorem dX0_firstDayAt_4 : decode cX0_firstDayAt 4 = .ok (.iload_n 1, 1) := by decide +kernel
theorem dX0_firstDayAt_5 : decode cX0_firstDayAt 5 = .ok (.invokestatic 29, 3) := by decide +kernel
theorem dX0_firstDayAt_8 : decode cX0_firstDayAt 8 = .ok (.ireturn, 1) := by decide +kernel
theorem dX0_arriveAt_0 : decode cX0_arriveAt 0 = .ok (.iload_n 1, 1) := by decide +kernel
theorem dX0_arriveAt_1 : decode cX0_arriveAt 1 = .ok (.ifCond .lt 19, 3) := by decide +kernel
theorem dX0_arriveAt_4 : decode cX0_arriveAt 4 = .ok (.iload_n 1, 1) := by decide +kernel
theorem dX0_arriveAt_5 : decode cX0_arriveAt 5 = .ok (.aload_n 0, 1) := by decide +kernel
theorem dX0_arriveAt_6 : decode cX0_arriveAt 6 = .ok (.getfield 9, 3) := by decide +kernel
theorem dX0_arriveAt_9 : decode cX0_arriveAt 9 = .ok (.arraylength, 1) := by decide +kernel
theorem dX0_arriveAt_10 : decode cX0_arriveAt 10 = .ok (.if_icmp .ge 10, 3) := by decide +kernel
theorem dX0_arriveAt_13 : decode cX0_arriveAt 13 = .ok (.aload_n 0, 1) := by decide +kernel
theorem dX0_arriveAt_14 : decode cX0_arriveAt 14 = .ok (.getfield 9, 3) := by decide +kernel
theorem dX0_arriveAt_17 : decode cX0_arriveAt 17 = .ok (.iload_n 1, 1) := by decide +kernel
theorem dX0_arriveAt_18 : decode cX0_arriveAt 18 = .ok (.iload_n 2, 1) := by decide +kernel
theorem dX0_arriveAt_19 : decode cX0_arriveAt 19 = .ok (.iastore, 1) := by decide +kernel
theorem dX0_arriveAt_20 : decode cX0_arriveAt 20 = .ok (.return_, 1) := by decide +kernel
theorem dX1_init_0 : decode cX1_init 0 = .ok (.aload_n 0, 1) := by decide +kernel
theorem dX1_init_1 : decode cX1_init 1 = .ok (.invokespecial 3, 3) := by decide +kernel
theorem dX1_init_4 : decode cX1_init 4 = .ok (.aload_n 0, 1) := by decide +kernel
theorem dX1_init_5 : decode cX1_init 5 = .ok (.iconst 5, 1) := by decide +kernel
theorem dX1_init_6 : decode cX1_init 6 = .ok (.newarray .int, 2) := by decide +kernel
theorem dX1_init_8 : decode cX1_init 8 = .ok (.putfield 9, 3) := by decide +kernel
theorem dX1_init_11 : decode cX1_init 11 = .ok (.aload_n 0, 1) := by decide +kernel
theorem dX1_init_12 : decode cX1_init 12 = .ok (.iload_n 1, 1) := by decide +kernel
theorem dX1_init_13 : decode cX1_init 13 = .ok (.putfield 15, 3) := by decide +kernel
theorem dX1_init_16 : decode cX1_init 16 = .ok (.aload_n 0, 1) := by decide +kernel
theorem dX1_init_17 : decode cX1_init 17 = .ok (.aload_n 2, 1) := by decide +kernel
theorem dX1_init_18 : decode cX1_init 18 = .ok (.putfield 19, 3) := by decide +kernel
theorem dX1_init_21 : decode cX1_init 21 = .ok (.return_, 1) := by decide +kernel
theorem dX1_takesStep_0 : decode cX1_takesStep 0 = .ok (.aload_n 0, 1) := by decide +kernel
theorem dX1_takesStep_1 : decode cX1_takesStep 1 = .ok (.getfield 23, 3) := by decide +kernel
theorem dX1_takesStep_4 : decode cX1_takesStep 4 = .ok (.ifCond .lt 15, 3) := by decide +kernel
theorem dX1_takesStep_7 : decode cX1_takesStep 7 = .ok (.aload_n 0, 1) := by decide +kernel
theorem dX1_takesStep_8 : decode cX1_takesStep 8 = .ok (.getfield 23, 3) := by decide +kernel
theorem dX1_takesStep_11 : decode cX1_takesStep 11 = .ok (.aload_n 0, 1) := by decide +kernel
theorem dX1_takesStep_12 : decode cX1_takesStep 12 = .ok (.getfield 9, 3) := by decide +kernel
theorem dX1_takesStep_15 : decode cX1_takesStep 15 = .ok (.arraylength, 1) := by decide +kernel
theorem dX1_takesStep_16 : decode cX1_takesStep 16 = .ok (.if_icmp .lt 5, 3) := by decide +kernel
theorem dX1_takesStep_19 : decode cX1_takesStep 19 = .ok (.iconst 0, 1) := by decide +kernel
theorem dX1_takesStep_20 : decode cX1_takesStep 20 = .ok (.ireturn, 1) := by decide +kernel
theorem dX1_takesStep_21 : decode cX1_takesStep 21 = .ok (.aload_n 0, 1) := by decide +kernel
theorem dX1_takesStep_22 : decode cX1_takesStep 22 = .ok (.getfield 9, 3) := by decide +kernel
theorem dX1_takesStep_25 : decode cX1_takesStep 25 = .ok (.aload_n 0, 1) := by decide +kernel
theorem dX1_takesStep_26 : decode cX1_takesStep 26 = .ok (.getfield 23, 3) := by decide +kernel
theorem dX1_takesStep_29 : decode cX1_takesStep 29 = .ok (.iload_n 1, 1) := by decide +kernel
theorem dX1_takesStep_30 : decode cX1_takesStep 30 = .ok (.iastore, 1) := by decide +kernel
theorem dX1_takesStep_31 : decode cX1_takesStep 31 = .ok (.aload_n 0, 1) := by decide +kernel
theorem dX1_takesStep_32 : decode cX1_takesStep 32 = .ok (.dup, 1) := by decide +kernel
theorem dX1_takesStep_33 : decode cX1_takesStep 33 = .ok (.getfield 23, 3) := by decide +kernel
theorem dX1_takesStep_36 : decode cX1_takesStep 36 = .ok (.iconst 1, 1) := by decide +kernel
theorem dX1_takesStep_37 : decode cX1_takesStep 37 = .ok (.iadd, 1) := by decide +kernel
theorem dX1_takesStep_38 : decode cX1_takesStep 38 = .ok (.putfield 23, 3) := by decide +kernel
theorem dX1_takesStep_41 : decode cX1_takesStep 41 = .ok (.iconst 1, 1) := by decide +kernel
theorem dX1_takesStep_42 : decode cX1_takesStep 42 = .ok (.ireturn, 1) := by decide +kernel
theorem dX2_init_0 : decode cX2_init 0 = .ok (.aload_n 0, 1) := by decide +kernel
theorem dX2_init_1 : decode cX2_init 1 = .ok (.invokespecial 3, 3) := by decide +kernel
theorem dX2_init_4 : decode cX2_init 4 = .ok (.aload_n 0, 1) := by decide +kernel
theorem dX2_init_5 : decode cX2_init 5 = .ok (.sipush 300, 3) := by decide +kernel
theorem dX2_init_8 : decode cX2_init 8 = .ok (.newarray .int, 2) := by decide +kernel
theorem dX2_init_10 : decode cX2_init 10 = .ok (.putfield 9, 3) := by decide +kernel
theorem dX2_init_13 : decode cX2_init 13 = .ok (.aload_n 0, 1) := by decide +kernel
theorem dX2_init_14 : decode cX2_init 14 = .ok (.sipush 300, 3) := by decide +kernel
theorem dX2_init_17 : decode cX2_init 17 = .ok (.newarray .int, 2) := by decide +kernel
theorem dX2_init_19 : decode cX2_init 19 = .ok (.putfield 15, 3) := by decide +kernel
theorem dX2_init_22 : decode cX2_init 22 = .ok (.aload_n 0, 1) := by decide +kernel
theorem dX2_init_23 : decode cX2_init 23 = .ok (.sipush 300, 3) := by decide +kernel
theorem dX2_init_26 : decode cX2_init 26 = .ok (.newarray .int, 2) := by decide +kernel
theorem dX2_init_28 : decode cX2_init 28 = .ok (.putfield 18, 3) := by decide +kernel
theorem dX2_init_31 : decode cX2_init 31 = .ok (.return_, 1) := by decide +kernel
theorem dX2_find_0 : decode cX2_find 0 = .ok (.iconst 0, 1) := by decide +kernel
theorem dX2_find_1 : decode cX2_find 1 = .ok (.istore 4, 2) := by decide +kernel
theorem dX2_find_3 : decode cX2_find 3 = .ok (.iload 4, 2) := by decide +kernel
theorem dX2_find_5 : decode cX2_find 5 = .ok (.aload_n 0, 1) := by decide +kernel
theorem dX2_find_6 : decode cX2_find 6 = .ok (.getfield 21, 3) := by decide +kernel
theorem dX2_find_9 : decode cX2_find 9 = .ok (.if_icmp .ge 44, 3) := by decide +kernel
theorem dX2_find_12 : decode cX2_find 12 = .ok (.iload 4, 2) := by decide +kernel
theorem dX2_find_14 : decode cX2_find 14 = .ok (.aload_n 0, 1) := by decide +kernel
theorem dX2_find_15 : decode cX2_find 15 = .ok (.getfield 9, 3) := by decide +kernel
theorem dX2_find_18 : decode cX2_find 18 = .ok (.arraylength, 1) := by decide +kernel
theorem dX2_find_19 : decode cX2_find 19 = .ok (.if_icmp .ge 34, 3) := by decide +kernel
theorem dX2_find_22 : decode cX2_find 22 = .ok (.aload_n 0, 1) := by decide +kernel
theorem dX2_find_23 : decode cX2_find 23 = .ok (.getfield 9, 3) := by decide +kernel
theorem dX2_find_26 : decode cX2_find 26 = .ok (.iload 4, 2) := by decide +kernel
theorem dX2_find_28 : decode cX2_find 28 = .ok (.iaload, 1) := by decide +kernel
theorem dX2_find_29 : decode cX2_find 29 = .ok (.iload_n 1, 1) := by decide +kernel
theorem dX2_find_30 : decode cX2_find 30 = .ok (.if_icmp .ne 17, 3) := by decide +kernel
theorem dX2_find_33 : decode cX2_find 33 = .ok (.aload_n 0, 1) := by decide +kernel
theorem dX2_find_34 : decode cX2_find 34 = .ok (.iload 4, 2) := by decide +kernel
theorem dX2_find_36 : decode cX2_find 36 = .ok (.iload_n 2, 1) := by decide +kernel
theorem dX2_find_37 : decode cX2_find 37 = .ok (.iload_n 3, 1) := by decide +kernel
theorem dX2_find_38 : decode cX2_find 38 = .ok (.invokevirtual 25, 3) := by decide +kernel
theorem dX2_find_41 : decode cX2_find 41 = .ok (.ifCond .eq 6, 3) := by decide +kernel
theorem dX2_find_44 : decode cX2_find 44 = .ok (.iload 4, 2) := by decide +kernel
theorem dX2_find_46 : decode cX2_find 46 = .ok (.ireturn, 1) := by decide +kernel
theorem dX2_find_47 : decode cX2_find 47 = .ok (.iinc 4 1, 3) := by decide +kernel
theorem dX2_find_50 : decode cX2_find 50 = .ok (.goto (-47), 3) := by decide +kernel
theorem dX2_find_53 : decode cX2_find 53 = .ok (.bipush (-2), 2) := by decide +kernel
theorem dX2_find_55 : decode cX2_find 55 = .ok (.ireturn, 1) := by decide +kernel
theorem dX2_findOrMake_0 : decode cX2_findOrMake 0 = .ok (.aload_n 0, 1) := by decide +kernel
theorem dX2_findOrMake_1 : decode cX2_findOrMake 1 = .ok (.iload_n 1, 1) := by decide +kernel
theorem dX2_findOrMake_2 : decode cX2_findOrMake 2 = .ok (.iload_n 2, 1) := by decide +kernel
theorem dX2_findOrMake_3 : decode cX2_findOrMake 3 = .ok (.iload_n 3, 1) := by decide +kernel
theorem dX2_findOrMake_4 : decode cX2_findOrMake 4 = .ok (.invokevirtual 29, 3) := by decide +kernel
theorem dX2_findOrMake_7 : decode cX2_findOrMake 7 = .ok (.istore 4, 2) := by decide +kernel
theorem dX2_findOrMake_9 : decode cX2_findOrMake 9 = .ok (.iload 4, 2) := by decide +kernel
theorem dX2_findOrMake_11 : decode cX2_findOrMake 11 = .ok (.bipush (-2), 2) := by decide +kernel
theorem dX2_findOrMake_13 : decode cX2_findOrMake 13 = .ok (.if_icmp .ne 20, 3) := by decide +kernel
theorem dX2_findOrMake_16 : decode cX2_findOrMake 16 = .ok (.aload_n 0, 1) := by decide +kernel
theorem dX2_findOrMake_17 : decode cX2_findOrMake 17 = .ok (.getfield 21, 3) := by decide +kernel
theorem dX2_findOrMake_20 : decode cX2_findOrMake 20 = .ok (.ifCond .lt 13, 3) := by decide +kernel
theorem dX2_findOrMake_23 : decode cX2_findOrMake 23 = .ok (.aload_n 0, 1) := by decide +kernel
theorem dX2_findOrMake_24 : decode cX2_findOrMake 24 = .ok (.getfield 21, 3) := by decide +kernel
theorem dX2_findOrMake_27 : decode cX2_findOrMake 27 = .ok (.sipush 300, 3) := by decide +kernel
theorem dX2_findOrMake_30 : decode cX2_findOrMake 30 = .ok (.if_icmp .lt 6, 3) := by decide +kernel
theorem dX2_findOrMake_33 : decode cX2_findOrMake 33 = .ok (.iload 4, 2) := by decide +kernel
theorem dX2_findOrMake_35 : decode cX2_findOrMake 35 = .ok (.ireturn, 1) := by decide +kernel
theorem dX2_findOrMake_36 : decode cX2_findOrMake 36 = .ok (.aload_n 0, 1) := by decide +kernel
theorem dX2_findOrMake_37 : decode cX2_findOrMake 37 = .ok (.getfield 21, 3) := by decide +kernel
theorem dX2_findOrMake_40 : decode cX2_findOrMake 40 = .ok (.istore 5, 2) := by decide +kernel
theorem dX2_findOrMake_42 : decode cX2_findOrMake 42 = .ok (.aload_n 0, 1) := by decide +kernel
theorem dX2_findOrMake_43 : decode cX2_findOrMake 43 = .ok (.getfield 9, 3) := by decide +kernel
theorem dX2_findOrMake_46 : decode cX2_findOrMake 46 = .ok (.iload 5, 2) := by decide +kernel
theorem dX2_findOrMake_48 : decode cX2_findOrMake 48 = .ok (.iload_n 1, 1) := by decide +kernel
theorem dX2_findOrMake_49 : decode cX2_findOrMake 49 = .ok (.iastore, 1) := by decide +kernel
theorem dX2_findOrMake_50 : decode cX2_findOrMake 50 = .ok (.aload_n 0, 1) := by decide +kernel
theorem dX2_findOrMake_51 : decode cX2_findOrMake 51 = .ok (.getfield 15, 3) := by decide +kernel
theorem dX2_findOrMake_54 : decode cX2_findOrMake 54 = .ok (.iload 5, 2) := by decide +kernel
theorem dX2_findOrMake_56 : decode cX2_findOrMake 56 = .ok (.iload_n 2, 1) := by decide +kernel
theorem dX2_findOrMake_57 : decode cX2_findOrMake 57 = .ok (.iastore, 1) := by decide +kernel
theorem dX2_findOrMake_58 : decode cX2_findOrMake 58 = .ok (.aload_n 0, 1) := by decide +kernel
theorem dX2_findOrMake_59 : decode cX2_findOrMake 59 = .ok (.getfield 18, 3) := by decide +kernel
theorem dX2_findOrMake_62 : decode cX2_findOrMake 62 = .ok (.iload 5, 2) := by decide +kernel
theorem dX2_findOrMake_64 : decode cX2_findOrMake 64 = .ok (.iload_n 3, 1) := by decide +kernel
theorem dX2_findOrMake_65 : decode cX2_findOrMake 65 = .ok (.iastore, 1) := by decide +kernel
theorem dX2_findOrMake_66 : decode cX2_findOrMake 66 = .ok (.aload_n 0, 1) := by decide +kernel
theorem dX2_findOrMake_67 : decode cX2_findOrMake 67 = .ok (.dup, 1) := by decide +kernel
theorem dX2_findOrMake_68 : decode cX2_findOrMake 68 = .ok (.getfield 21, 3) := by decide +kernel
theorem dX2_findOrMake_71 : decode cX2_findOrMake 71 = .ok (.iconst 1, 1) := by decide +kernel
theorem dX2_findOrMake_72 : decode cX2_findOrMake 72 = .ok (.iadd, 1) := by decide +kernel
theorem dX2_findOrMake_73 : decode cX2_findOrMake 73 = .ok (.putfield 21, 3) := by decide +kernel
theorem dX2_findOrMake_76 : decode cX2_findOrMake 76 = .ok (.iload 5, 2) := by decide +kernel
theorem dX2_findOrMake_78 : decode cX2_findOrMake 78 = .ok (.ireturn, 1) := by decide +kernel
theorem dX2_isOf_0 : decode cX2_isOf 0 = .ok (.iload_n 1, 1) := by decide +kernel
theorem dX2_isOf_1 : decode cX2_isOf 1 = .ok (.ifCond .lt 39, 3) := by decide +kernel
theorem dX2_isOf_4 : decode cX2_isOf 4 = .ok (.iload_n 1, 1) := by decide +kernel
theorem dX2_isOf_5 : decode cX2_isOf 5 = .ok (.aload_n 0, 1) := by decide +kernel
theorem dX2_isOf_6 : decode cX2_isOf 6 = .ok (.getfield 21, 3) := by decide +kernel
theorem dX2_isOf_9 : decode cX2_isOf 9 = .ok (.if_icmp .ge 31, 3) := by decide +kernel
theorem dX2_isOf_12 : decode cX2_isOf 12 = .ok (.aload_n 0, 1) := by decide +kernel
theorem dX2_isOf_13 : decode cX2_isOf 13 = .ok (.getfield 15, 3) := by decide +kernel
theorem dX2_isOf_16 : decode cX2_isOf 16 = .ok (.iload_n 1, 1) := by decide +kernel
theorem dX2_isOf_17 : decode cX2_isOf 17 = .ok (.invokestatic 33, 3) := by decide +kernel
theorem dX2_isOf_20 : decode cX2_isOf 20 = .ok (.iload_n 2, 1) := by decide +kernel
theorem dX2_isOf_21 : decode cX2_isOf 21 = .ok (.if_icmp .ne 19, 3) := by decide +kernel
theorem dX2_isOf_24 : decode cX2_isOf 24 = .ok (.aload_n 0, 1) := by decide +kernel
theorem dX2_isOf_25 : decode cX2_isOf 25 = .ok (.getfield 18, 3) := by decide +kernel
theorem dX2_isOf_28 : decode cX2_isOf 28 = .ok (.iload_n 1, 1) := by decide +kernel
theorem dX2_isOf_29 : decode cX2_isOf 29 = .ok (.invokestatic 33, 3) := by decide +kernel
theorem dX2_isOf_32 : decode cX2_isOf 32 = .ok (.iload_n 3, 1) := by decide +kernel
theorem dX2_isOf_33 : decode cX2_isOf 33 = .ok (.if_icmp .ne 7, 3) := by decide +kernel
theorem dX2_isOf_36 : decode cX2_isOf 36 = .ok (.iconst 1, 1) := by decide +kernel
theorem dX2_isOf_37 : decode cX2_isOf 37 = .ok (.goto 4, 3) := by decide +kernel
theorem dX2_isOf_40 : decode cX2_isOf 40 = .ok (.iconst 0, 1) := by decide +kernel
theorem dX2_isOf_41 : decode cX2_isOf 41 = .ok (.ireturn, 1) := by decide +kernel
theorem dX2_fillChain_0 : decode cX2_fillChain 0 = .ok (.iconst 0, 1) := by decide +kernel
theorem dX2_fillChain_1 : decode cX2_fillChain 1 = .ok (.istore_n 3, 1) := by decide +kernel
theorem dX2_fillChain_2 : decode cX2_fillChain 2 = .ok (.iload_n 1, 1) := by decide +kernel
theorem dX2_fillChain_3 : decode cX2_fillChain 3 = .ok (.istore 4, 2) := by decide +kernel
theorem dX2_fillChain_5 : decode cX2_fillChain 5 = .ok (.iload 4, 2) := by decide +kernel
theorem dX2_fillChain_7 : decode cX2_fillChain 7 = .ok (.iconst (-1), 1) := by decide +kernel
theorem dX2_fillChain_8 : decode cX2_fillChain 8 = .ok (.if_icmp .eq 31, 3) := by decide +kernel
theorem dX2_fillChain_11 : decode cX2_fillChain 11 = .ok (.iload_n 3, 1) := by decide +kernel
theorem dX2_fillChain_12 : decode cX2_fillChain 12 = .ok (.aload_n 2, 1) := by decide +kernel
theorem dX2_fillChain_13 : decode cX2_fillChain 13 = .ok (.arraylength, 1) := by decide +kernel
theorem dX2_fillChain_14 : decode cX2_fillChain 14 = .ok (.if_icmp .ge 25, 3) := by decide +kernel
theorem dX2_fillChain_17 : decode cX2_fillChain 17 = .ok (.aload_n 2, 1) := by decide +kernel
theorem dX2_fillChain_18 : decode cX2_fillChain 18 = .ok (.iload_n 3, 1) := by decide +kernel
theorem dX2_fillChain_19 : decode cX2_fillChain 19 = .ok (.iload 4, 2) := by decide +kernel
theorem dX2_fillChain_21 : decode cX2_fillChain 21 = .ok (.iastore, 1) := by decide +kernel
theorem dX2_fillChain_22 : decode cX2_fillChain 22 = .ok (.iinc 3 1, 3) := by decide +kernel
theorem dX2_fillChain_25 : decode cX2_fillChain 25 = .ok (.aload_n 0, 1) := by decide +kernel
theorem dX2_fillChain_26 : decode cX2_fillChain 26 = .ok (.getfield 9, 3) := by decide +kernel
theorem dX2_fillChain_29 : decode cX2_fillChain 29 = .ok (.iload 4, 2) := by decide +kernel
theorem dX2_fillChain_31 : decode cX2_fillChain 31 = .ok (.invokestatic 33, 3) := by decide +kernel
theorem dX2_fillChain_34 : decode cX2_fillChain 34 = .ok (.istore 4, 2) := by decide +kernel
theorem dX2_fillChain_36 : decode cX2_fillChain 36 = .ok (.goto (-31), 3) := by decide +kernel
theorem dX2_fillChain_39 : decode cX2_fillChain 39 = .ok (.iload_n 3, 1) := by decide +kernel
theorem dX2_fillChain_40 : decode cX2_fillChain 40 = .ok (.ireturn, 1) := by decide +kernel
theorem dX3_init_0 : decode cX3_init 0 = .ok (.aload_n 0, 1) := by decide +kernel
theorem dX3_init_1 : decode cX3_init 1 = .ok (.invokespecial 1, 3) := by decide +kernel
theorem dX3_init_4 : decode cX3_init 4 = .ok (.aload_n 0, 1) := by decide +kernel
theorem dX3_init_5 : decode cX3_init 5 = .ok (.iload_n 1, 1) := by decide +kernel
theorem dX3_init_6 : decode cX3_init 6 = .ok (.putfield 7, 3) := by decide +kernel
theorem dX3_init_9 : decode cX3_init 9 = .ok (.aload_n 0, 1) := by decide +kernel
theorem dX3_init_10 : decode cX3_init 10 = .ok (.aload_n 2, 1) := by decide +kernel
theorem dX3_init_11 : decode cX3_init 11 = .ok (.putfield 13, 3) := by decide +kernel
theorem dX3_init_14 : decode cX3_init 14 = .ok (.aload_n 0, 1) := by decide +kernel
theorem dX3_init_15 : decode cX3_init 15 = .ok (.iload_n 3, 1) := by decide +kernel
theorem dX3_init_16 : decode cX3_init 16 = .ok (.putfield 17, 3) := by decide +kernel
theorem dX3_init_19 : decode cX3_init 19 = .ok (.aload_n 0, 1) := by decide +kernel
theorem dX3_init_20 : decode cX3_init 20 = .ok (.iload 4, 2) := by decide +kernel
theorem dX3_init_22 : decode cX3_init 22 = .ok (.putfield 20, 3) := by decide +kernel
theorem dX3_init_25 : decode cX3_init 25 = .ok (.aload_n 0, 1) := by decide +kernel
theorem dX3_init_26 : decode cX3_init 26 = .ok (.aload 5, 2) := by decide +kernel
theorem dX3_init_28 : decode cX3_init 28 = .ok (.putfield 23, 3) := by decide +kernel
theorem dX3_init_31 : decode cX3_init 31 = .ok (.return_, 1) := by decide +kernel
theorem dX4_init_0 : decode cX4_init 0 = .ok (.aload_n 0, 1) := by decide +kernel
theorem dX4_init_1 : decode cX4_init 1 = .ok (.invokespecial 3, 3) := by decide +kernel
theorem dX4_init_4 : decode cX4_init 4 = .ok (.aload_n 0, 1) := by decide +kernel
theorem dX4_init_5 : decode cX4_init 5 = .ok (.new 9, 3) := by decide +kernel
theorem dX4_init_8 : decode cX4_init 8 = .ok (.dup, 1) := by decide +kernel
theorem dX4_init_9 : decode cX4_init 9 = .ok (.invokespecial 11, 3) := by decide +kernel
theorem dX4_init_12 : decode cX4_init 12 = .ok (.putfield 12, 3) := by decide +kernel
theorem dX4_init_15 : decode cX4_init 15 = .ok (.aload_n 0, 1) := by decide +kernel
theorem dX4_init_16 : decode cX4_init 16 = .ok (.bipush 10, 2) := by decide +kernel
theorem dX4_init_18 : decode cX4_init 18 = .ok (.newarray .int, 2) := by decide +kernel
theorem dX4_init_20 : decode cX4_init 20 = .ok (.putfield 16, 3) := by decide +kernel
theorem dX4_init_23 : decode cX4_init 23 = .ok (.aload_n 0, 1) := by decide +kernel
theorem dX4_init_24 : decode cX4_init 24 = .ok (.bipush 10, 2) := by decide +kernel
theorem dX4_init_26 : decode cX4_init 26 = .ok (.newarray .int, 2) := by decide +kernel
theorem dX4_init_28 : decode cX4_init 28 = .ok (.putfield 20, 3) := by decide +kernel
theorem dX4_init_31 : decode cX4_init 31 = .ok (.aload_n 0, 1) := by decide +kernel
theorem dX4_init_32 : decode cX4_init 32 = .ok (.bipush 10, 2) := by decide +kernel
theorem dX4_init_34 : decode cX4_init 34 = .ok (.anewarray 23, 3) := by decide +kernel
theorem dX4_init_37 : decode cX4_init 37 = .ok (.putfield 25, 3) := by decide +kernel
theorem dX4_init_40 : decode cX4_init 40 = .ok (.aload_n 0, 1) := by decide +kernel
theorem dX4_init_41 : decode cX4_init 41 = .ok (.bipush 60, 2) := by decide +kernel
theorem dX4_init_43 : decode cX4_init 43 = .ok (.anewarray 29, 3) := by decide +kernel
theorem dX4_init_46 : decode cX4_init 46 = .ok (.putfield 31, 3) := by decide +kernel
theorem dX4_init_49 : decode cX4_init 49 = .ok (.aload_n 0, 1) := by decide +kernel
theorem dX4_init_50 : decode cX4_init 50 = .ok (.bipush 30, 2) := by decide +kernel
theorem dX4_init_52 : decode cX4_init 52 = .ok (.anewarray 35, 3) := by decide +kernel
theorem dX4_init_55 : decode cX4_init 55 = .ok (.putfield 37, 3) := by decide +kernel
theorem dX4_init_58 : decode cX4_init 58 = .ok (.aload_n 0, 1) := by decide +kernel
theorem dX4_init_59 : decode cX4_init 59 = .ok (.iconst 3, 1) := by decide +kernel
theorem dX4_init_60 : decode cX4_init 60 = .ok (.newarray .int, 2) := by decide +kernel
theorem dX4_init_62 : decode cX4_init 62 = .ok (.putfield 41, 3) := by decide +kernel
theorem dX4_init_65 : decode cX4_init 65 = .ok (.aload_n 0, 1) := by decide +kernel
theorem dX4_init_66 : decode cX4_init 66 = .ok (.bipush 10, 2) := by decide +kernel
theorem dX4_init_68 : decode cX4_init 68 = .ok (.anewarray 23, 3) := by decide +kernel
theorem dX4_init_71 : decode cX4_init 71 = .ok (.putfield 44, 3) := by decide +kernel
theorem dX4_init_74 : decode cX4_init 74 = .ok (.aload_n 0, 1) := by decide +kernel
theorem dX4_init_75 : decode cX4_init 75 = .ok (.bipush 10, 2) := by decide +kernel
theorem dX4_init_77 : decode cX4_init 77 = .ok (.anewarray 23, 3) := by decide +kernel
theorem dX4_init_80 : decode cX4_init 80 = .ok (.putfield 47, 3) := by decide +kernel
theorem dX4_init_83 : decode cX4_init 83 = .ok (.aload_n 0, 1) := by decide +kernel
theorem dX4_init_84 : decode cX4_init 84 = .ok (.bipush 50, 2) := by decide +kernel
theorem dX4_init_86 : decode cX4_init 86 = .ok (.newarray .int, 2) := by decide +kernel
theorem dX4_init_88 : decode cX4_init 88 = .ok (.putfield 50, 3) := by decide +kernel
theorem dX4_init_91 : decode cX4_init 91 = .ok (.aload_n 0, 1) := by decide +kernel
theorem dX4_init_92 : decode cX4_init 92 = .ok (.bipush 30, 2) := by decide +kernel
theorem dX4_init_94 : decode cX4_init 94 = .ok (.anewarray 35, 3) := by decide +kernel
theorem dX4_init_97 : decode cX4_init 97 = .ok (.putfield 53, 3) := by decide +kernel
theorem dX4_init_100 : decode cX4_init 100 = .ok (.iconst 0, 1) := by decide +kernel
theorem dX4_init_101 : decode cX4_init 101 = .ok (.istore_n 1, 1) := by decide +kernel
theorem dX4_init_102 : decode cX4_init 102 = .ok (.iload_n 1, 1) := by decide +kernel
theorem dX4_init_103 : decode cX4_init 103 = .ok (.aload_n 0, 1) := by decide +kernel
theorem dX4_init_104 : decode cX4_init 104 = .ok (.getfield 41, 3) := by decide +kernel
theorem dX4_init_107 : decode cX4_init 107 = .ok (.arraylength, 1) := by decide +kernel
theorem dX4_init_108 : decode cX4_init 108 = .ok (.if_icmp .ge 16, 3) := by decide +kernel
theorem dX4_init_111 : decode cX4_init 111 = .ok (.aload_n 0, 1) := by decide +kernel
theorem dX4_init_112 : decode cX4_init 112 = .ok (.getfield 41, 3) := by decide +kernel
theorem dX4_init_115 : decode cX4_init 115 = .ok (.iload_n 1, 1) := by decide +kernel
theorem dX4_init_116 : decode cX4_init 116 = .ok (.iconst 1, 1) := by decide +kernel
theorem dX4_init_117 : decode cX4_init 117 = .ok (.iastore, 1) := by decide +kernel
theorem dX4_init_118 : decode cX4_init 118 = .ok (.iinc 1 1, 3) := by decide +kernel
theorem dX4_init_121 : decode cX4_init 121 = .ok (.goto (-19), 3) := by decide +kernel
theorem dX4_init_124 : decode cX4_init 124 = .ok (.aload_n 0, 1) := by decide +kernel
theorem dX4_init_125 : decode cX4_init 125 = .ok (.bipush 10, 2) := by decide +kernel
theorem dX4_init_127 : decode cX4_init 127 = .ok (.putfield 56, 3) := by decide +kernel
theorem dX4_init_130 : decode cX4_init 130 = .ok (.aload_n 0, 1) := by decide +kernel
theorem dX4_init_131 : decode cX4_init 131 = .ok (.bipush 20, 2) := by decide +kernel
theorem dX4_init_133 : decode cX4_init 133 = .ok (.putfield 60, 3) := by decide +kernel
theorem dX4_init_136 : decode cX4_init 136 = .ok (.return_, 1) := by decide +kernel
theorem dX4_add_0 : decode cX4_add 0 = .ok (.iload_n 1, 1) := by decide +kernel
theorem dX4_add_1 : decode cX4_add 1 = .ok (.iconst (-1), 1) := by decide +kernel
theorem dX4_add_2 : decode cX4_add 2 = .ok (.if_icmp .ne 7, 3) := by decide +kernel
theorem dX4_add_5 : decode cX4_add 5 = .ok (.aconst_null, 1) := by decide +kernel
theorem dX4_add_6 : decode cX4_add 6 = .ok (.goto 8, 3) := by decide +kernel
theorem dX4_add_9 : decode cX4_add 9 = .ok (.aload_n 0, 1) := by decide +kernel
theorem dX4_add_10 : decode cX4_add 10 = .ok (.iload_n 1, 1) := by decide +kernel
theorem dX4_add_11 : decode cX4_add 11 = .ok (.invokevirtual 63, 3) := by decide +kernel
theorem dX4_add_14 : decode cX4_add 14 = .ok (.astore_n 2, 1) := by decide +kernel
theorem dX4_add_15 : decode cX4_add 15 = .ok (.aload_n 0, 1) := by decide +kernel
theorem dX4_add_16 : decode cX4_add 16 = .ok (.getfield 67, 3) := by decide +kernel
theorem dX4_add_19 : decode cX4_add 19 = .ok (.ifCond .lt 15, 3) := by decide +kernel
theorem dX4_add_22 : decode cX4_add 22 = .ok (.aload_n 0, 1) := by decide +kernel
theorem dX4_add_23 : decode cX4_add 23 = .ok (.getfield 67, 3) := by decide +kernel
theorem dX4_add_26 : decode cX4_add 26 = .ok (.aload_n 0, 1) := by decide +kernel
theorem dX4_add_27 : decode cX4_add 27 = .ok (.getfield 25, 3) := by decide +kernel
theorem dX4_add_30 : decode cX4_add 30 = .ok (.arraylength, 1) := by decide +kernel
theorem dX4_add_31 : decode cX4_add 31 = .ok (.if_icmp .lt 13, 3) := by decide +kernel
theorem dX4_add_34 : decode cX4_add 34 = .ok (.new 70, 3) := by decide +kernel
theorem dX4_add_37 : decode cX4_add 37 = .ok (.dup, 1) := by decide +kernel
theorem dX4_add_38 : decode cX4_add 38 = .ok (.ldc 72, 2) := by decide +kernel
theorem dX4_add_40 : decode cX4_add 40 = .ok (.invokespecial 74, 3) := by decide +kernel
theorem dX4_add_43 : decode cX4_add 43 = .ok (.athrow, 1) := by decide +kernel
theorem dX4_add_44 : decode cX4_add 44 = .ok (.new 23, 3) := by decide +kernel
theorem dX4_add_47 : decode cX4_add 47 = .ok (.dup, 1) := by decide +kernel
theorem dX4_add_48 : decode cX4_add 48 = .ok (.aload_n 0, 1) := by decide +kernel
theorem dX4_add_49 : decode cX4_add 49 = .ok (.getfield 67, 3) := by decide +kernel
theorem dX4_add_52 : decode cX4_add 52 = .ok (.aload_n 2, 1) := by decide +kernel
theorem dX4_add_53 : decode cX4_add 53 = .ok (.invokespecial 77, 3) := by decide +kernel
theorem dX4_add_56 : decode cX4_add 56 = .ok (.astore_n 3, 1) := by decide +kernel
theorem dX4_add_57 : decode cX4_add 57 = .ok (.aload_n 0, 1) := by decide +kernel
theorem dX4_add_58 : decode cX4_add 58 = .ok (.getfield 25, 3) := by decide +kernel
theorem dX4_add_61 : decode cX4_add 61 = .ok (.aload_n 0, 1) := by decide +kernel
theorem dX4_add_62 : decode cX4_add 62 = .ok (.getfield 67, 3) := by decide +kernel
theorem dX4_add_65 : decode cX4_add 65 = .ok (.aload_n 3, 1) := by decide +kernel
theorem dX4_add_66 : decode cX4_add 66 = .ok (.aastore, 1) := by decide +kernel
theorem dX4_add_67 : decode cX4_add 67 = .ok (.aload_n 0, 1) := by decide +kernel
theorem dX4_add_68 : decode cX4_add 68 = .ok (.dup, 1) := by decide +kernel
theorem dX4_add_69 : decode cX4_add 69 = .ok (.getfield 67, 3) := by decide +kernel
theorem dX4_add_72 : decode cX4_add 72 = .ok (.iconst 1, 1) := by decide +kernel
theorem dX4_add_73 : decode cX4_add 73 = .ok (.iadd, 1) := by decide +kernel
theorem dX4_add_74 : decode cX4_add 74 = .ok (.putfield 67, 3) := by decide +kernel
theorem dX4_add_77 : decode cX4_add 77 = .ok (.aload_n 3, 1) := by decide +kernel
theorem dX4_add_78 : decode cX4_add 78 = .ok (.getfield 80, 3) := by decide +kernel
theorem dX4_add_81 : decode cX4_add 81 = .ok (.ireturn, 1) := by decide +kernel
theorem dX4_step_0 : decode cX4_step 0 = .ok (.aload_n 0, 1) := by decide +kernel
theorem dX4_step_1 : decode cX4_step 1 = .ok (.iload_n 1, 1) := by decide +kernel
theorem dX4_step_2 : decode cX4_step 2 = .ok (.invokevirtual 63, 3) := by decide +kernel
theorem dX4_step_5 : decode cX4_step 5 = .ok (.astore_n 3, 1) := by decide +kernel
theorem dX4_step_6 : decode cX4_step 6 = .ok (.iload_n 2, 1) := by decide +kernel
theorem dX4_step_7 : decode cX4_step 7 = .ok (.ifCond .lt 9, 3) := by decide +kernel
theorem dX4_step_10 : decode cX4_step 10 = .ok (.iload_n 2, 1) := by decide +kernel
theorem dX4_step_11 : decode cX4_step 11 = .ok (.bipush 10, 2) := by decide +kernel
theorem dX4_step_13 : decode cX4_step 13 = .ok (.if_icmp .lt 13, 3) := by decide +kernel
theorem dX4_step_16 : decode cX4_step 16 = .ok (.new 83, 3) := by decide +kernel
theorem dX4_step_19 : decode cX4_step 19 = .ok (.dup, 1) := by decide +kernel
theorem dX4_step_20 : decode cX4_step 20 = .ok (.ldc 85, 2) := by decide +kernel
theorem dX4_step_22 : decode cX4_step 22 = .ok (.invokespecial 87, 3) := by decide +kernel
theorem dX4_step_25 : decode cX4_step 25 = .ok (.athrow, 1) := by decide +kernel
theorem dX4_step_26 : decode cX4_step 26 = .ok (.aload_n 3, 1) := by decide +kernel
theorem dX4_step_27 : decode cX4_step 27 = .ok (.iload_n 2, 1) := by decide +kernel
theorem dX4_step_28 : decode cX4_step 28 = .ok (.invokevirtual 88, 3) := by decide +kernel
theorem dX4_step_31 : decode cX4_step 31 = .ok (.ifCond .ne 13, 3) := by decide +kernel
theorem dX4_step_34 : decode cX4_step 34 = .ok (.new 70, 3) := by decide +kernel
theorem dX4_step_37 : decode cX4_step 37 = .ok (.dup, 1) := by decide +kernel
theorem dX4_step_38 : decode cX4_step 38 = .ok (.ldc 92, 2) := by decide +kernel
theorem dX4_step_40 : decode cX4_step 40 = .ok (.invokespecial 74, 3) := by decide +kernel
theorem dX4_step_43 : decode cX4_step 43 = .ok (.athrow, 1) := by decide +kernel
theorem dX4_step_44 : decode cX4_step 44 = .ok (.aload_n 3, 1) := by decide +kernel
theorem dX4_step_45 : decode cX4_step 45 = .ok (.getfield 94, 3) := by decide +kernel
theorem dX4_step_48 : decode cX4_step 48 = .ok (.ireturn, 1) := by decide +kernel
theorem dX4_change_0 : decode cX4_change 0 = .ok (.iload_n 1, 1) := by decide +kernel
theorem dX4_change_1 : decode cX4_change 1 = .ok (.ifCond .lt 21, 3) := by decide +kernel
theorem dX4_change_4 : decode cX4_change 4 = .ok (.iload_n 1, 1) := by decide +kernel
theorem dX4_change_5 : decode cX4_change 5 = .ok (.aload_n 0, 1) := by decide +kernel
theorem dX4_change_6 : decode cX4_change 6 = .ok (.getfield 16, 3) := by decide +kernel
theorem dX4_change_9 : decode cX4_change 9 = .ok (.arraylength, 1) := by decide +kernel
theorem dX4_change_10 : decode cX4_change 10 = .ok (.if_icmp .ge 12, 3) := by decide +kernel
theorem dX4_change_13 : decode cX4_change 13 = .ok (.iload_n 1, 1) := by decide +kernel
theorem dX4_change_14 : decode cX4_change 14 = .ok (.aload_n 0, 1) := by decide +kernel
theorem dX4_change_15 : decode cX4_change 15 = .ok (.getfield 20, 3) := by decide +kernel
theorem dX4_change_18 : decode cX4_change 18 = .ok (.arraylength, 1) := by decide +kernel
theorem dX4_change_19 : decode cX4_change 19 = .ok (.if_icmp .lt 13, 3) := by decide +kernel
theorem dX4_change_22 : decode cX4_change 22 = .ok (.new 83, 3) := by decide +kernel
theorem dX4_change_25 : decode cX4_change 25 = .ok (.dup, 1) := by decide +kernel
theorem dX4_change_26 : decode cX4_change 26 = .ok (.ldc 85, 2) := by decide +kernel
theorem dX4_change_28 : decode cX4_change 28 = .ok (.invokespecial 87, 3) := by decide +kernel
theorem dX4_change_31 : decode cX4_change 31 = .ok (.athrow, 1) := by decide +kernel
theorem dX4_change_32 : decode cX4_change 32 = .ok (.iload_n 2, 1) := by decide +kernel
theorem dX4_change_33 : decode cX4_change 33 = .ok (.iconst (-1), 1) := by decide +kernel
theorem dX4_change_34 : decode cX4_change 34 = .ok (.if_icmp .lt 13, 3) := by decide +kernel
theorem dX4_change_37 : decode cX4_change 37 = .ok (.iload_n 2, 1) := by decide +kernel
theorem dX4_change_38 : decode cX4_change 38 = .ok (.aload_n 0, 1) := by decide +kernel
theorem dX4_change_39 : decode cX4_change 39 = .ok (.getfield 20, 3) := by decide +kernel
theorem dX4_change_42 : decode cX4_change 42 = .ok (.iload_n 1, 1) := by decide +kernel
theorem dX4_change_43 : decode cX4_change 43 = .ok (.iaload, 1) := by decide +kernel
theorem dX4_change_44 : decode cX4_change 44 = .ok (.if_icmp .lt 13, 3) := by decide +kernel
theorem dX4_change_47 : decode cX4_change 47 = .ok (.new 83, 3) := by decide +kernel
theorem dX4_change_50 : decode cX4_change 50 = .ok (.dup, 1) := by decide +kernel
theorem dX4_change_51 : decode cX4_change 51 = .ok (.ldc 97, 2) := by decide +kernel
theorem dX4_change_53 : decode cX4_change 53 = .ok (.invokespecial 87, 3) := by decide +kernel
theorem dX4_change_56 : decode cX4_change 56 = .ok (.athrow, 1) := by decide +kernel
theorem dX4_change_57 : decode cX4_change 57 = .ok (.iload_n 2, 1) := by decide +kernel
theorem dX4_change_58 : decode cX4_change 58 = .ok (.iconst (-1), 1) := by decide +kernel
theorem dX4_change_59 : decode cX4_change 59 = .ok (.if_icmp .ne 13, 3) := by decide +kernel
theorem dX4_change_62 : decode cX4_change 62 = .ok (.aload_n 0, 1) := by decide +kernel
theorem dX4_change_63 : decode cX4_change 63 = .ok (.getfield 20, 3) := by decide +kernel
theorem dX4_change_66 : decode cX4_change 66 = .ok (.iload_n 1, 1) := by decide +kernel
theorem dX4_change_67 : decode cX4_change 67 = .ok (.dup2, 1) := by decide +kernel
theorem dX4_change_68 : decode cX4_change 68 = .ok (.iaload, 1) := by decide +kernel
theorem dX4_change_69 : decode cX4_change 69 = .ok (.iconst 1, 1) := by decide +kernel
theorem dX4_change_70 : decode cX4_change 70 = .ok (.iadd, 1) := by decide +kernel
theorem dX4_change_71 : decode cX4_change 71 = .ok (.iastore, 1) := by decide +kernel
theorem dX4_change_72 : decode cX4_change 72 = .ok (.aload_n 0, 1) := by decide +kernel
theorem dX4_change_73 : decode cX4_change 73 = .ok (.getfield 16, 3) := by decide +kernel
theorem dX4_change_76 : decode cX4_change 76 = .ok (.iload_n 1, 1) := by decide +kernel
theorem dX4_change_77 : decode cX4_change 77 = .ok (.iload_n 2, 1) := by decide +kernel
theorem dX4_change_78 : decode cX4_change 78 = .ok (.iconst (-1), 1) := by decide +kernel
theorem dX4_change_79 : decode cX4_change 79 = .ok (.if_icmp .ne 12, 3) := by decide +kernel
theorem dX4_change_82 : decode cX4_change 82 = .ok (.aload_n 0, 1) := by decide +kernel
theorem dX4_change_83 : decode cX4_change 83 = .ok (.getfield 20, 3) := by decide +kernel
theorem dX4_change_86 : decode cX4_change 86 = .ok (.iload_n 1, 1) := by decide +kernel
theorem dX4_change_87 : decode cX4_change 87 = .ok (.iaload, 1) := by decide +kernel
theorem dX4_change_88 : decode cX4_change 88 = .ok (.goto 4, 3) := by decide +kernel
theorem dX4_change_91 : decode cX4_change 91 = .ok (.iload_n 2, 1) := by decide +kernel
theorem dX4_change_92 : decode cX4_change 92 = .ok (.iastore, 1) := by decide +kernel
theorem dX4_change_93 : decode cX4_change 93 = .ok (.aload_n 0, 1) := by decide +kernel
theorem dX4_change_94 : decode cX4_change 94 = .ok (.getfield 16, 3) := by decide +kernel
theorem dX4_change_97 : decode cX4_change 97 = .ok (.iload_n 1, 1) := by decide +kernel
theorem dX4_change_98 : decode cX4_change 98 = .ok (.iaload, 1) := by decide +kernel
theorem dX4_change_99 : decode cX4_change 99 = .ok (.ireturn, 1) := by decide +kernel
theorem dX4_bake_0 : decode cX4_bake 0 = .ok (.aload_n 0, 1) := by decide +kernel
theorem dX4_bake_1 : decode cX4_bake 1 = .ok (.iload_n 1, 1) := by decide +kernel
theorem dX4_bake_2 : decode cX4_bake 2 = .ok (.invokevirtual 63, 3) := by decide +kernel
theorem dX4_bake_5 : decode cX4_bake 5 = .ok (.astore_n 2, 1) := by decide +kernel
theorem dX4_bake_6 : decode cX4_bake 6 = .ok (.aload_n 2, 1) := by decide +kernel
theorem dX4_bake_7 : decode cX4_bake 7 = .ok (.getfield 99, 3) := by decide +kernel
theorem dX4_bake_10 : decode cX4_bake 10 = .ok (.ifnull 23, 3) := by decide +kernel
theorem dX4_bake_13 : decode cX4_bake 13 = .ok (.aload_n 2, 1) := by decide +kernel
theorem dX4_bake_14 : decode cX4_bake 14 = .ok (.getfield 99, 3) := by decide +kernel
theorem dX4_bake_17 : decode cX4_bake 17 = .ok (.getfield 103, 3) := by decide +kernel
theorem dX4_bake_20 : decode cX4_bake 20 = .ok (.ifnonnull 13, 3) := by decide +kernel
theorem dX4_bake_23 : decode cX4_bake 23 = .ok (.new 70, 3) := by decide +kernel
theorem dX4_bake_26 : decode cX4_bake 26 = .ok (.dup, 1) := by decide +kernel
theorem dX4_bake_27 : decode cX4_bake 27 = .ok (.ldc 107, 2) := by decide +kernel
theorem dX4_bake_29 : decode cX4_bake 29 = .ok (.invokespecial 74, 3) := by decide +kernel
theorem dX4_bake_32 : decode cX4_bake 32 = .ok (.athrow, 1) := by decide +kernel
theorem dX4_bake_33 : decode cX4_bake 33 = .ok (.aload_n 0, 1) := by decide +kernel
theorem dX4_bake_34 : decode cX4_bake 34 = .ok (.aload_n 2, 1) := by decide +kernel
theorem dX4_bake_35 : decode cX4_bake 35 = .ok (.invokevirtual 109, 3) := by decide +kernel
theorem dX4_bake_38 : decode cX4_bake 38 = .ok (.ifCond .eq 22, 3) := by decide +kernel
theorem dX4_bake_41 : decode cX4_bake 41 = .ok (.aload_n 0, 1) := by decide +kernel
theorem dX4_bake_42 : decode cX4_bake 42 = .ok (.getfield 113, 3) := by decide +kernel
theorem dX4_bake_45 : decode cX4_bake 45 = .ok (.bipush 60, 2) := by decide +kernel
theorem dX4_bake_47 : decode cX4_bake 47 = .ok (.if_icmp .lt 13, 3) := by decide +kernel
theorem dX4_bake_50 : decode cX4_bake 50 = .ok (.new 70, 3) := by decide +kernel
theorem dX4_bake_53 : decode cX4_bake 53 = .ok (.dup, 1) := by decide +kernel
theorem dX4_bake_54 : decode cX4_bake 54 = .ok (.ldc 116, 2) := by decide +kernel
theorem dX4_bake_56 : decode cX4_bake 56 = .ok (.invokespecial 74, 3) := by decide +kernel
theorem dX4_bake_59 : decode cX4_bake 59 = .ok (.athrow, 1) := by decide +kernel
theorem dX4_bake_60 : decode cX4_bake 60 = .ok (.aload_n 0, 1) := by decide +kernel
theorem dX4_bake_61 : decode cX4_bake 61 = .ok (.aload_n 2, 1) := by decide +kernel
theorem dX4_bake_62 : decode cX4_bake 62 = .ok (.invokevirtual 118, 3) := by decide +kernel
theorem dX4_bake_65 : decode cX4_bake 65 = .ok (.aload_n 2, 1) := by decide +kernel
theorem dX4_bake_66 : decode cX4_bake 66 = .ok (.getfield 103, 3) := by decide +kernel
theorem dX4_bake_69 : decode cX4_bake 69 = .ok (.invokestatic 122, 3) := by decide +kernel
theorem dX4_bake_72 : decode cX4_bake 72 = .ok (.ireturn, 1) := by decide +kernel
theorem dX4_bakeAll_0 : decode cX4_bakeAll 0 = .ok (.aload_n 0, 1) := by decide +kernel
theorem dX4_bakeAll_1 : decode cX4_bakeAll 1 = .ok (.getfield 113, 3) := by decide +kernel
theorem dX4_bakeAll_4 : decode cX4_bakeAll 4 = .ok (.istore_n 1, 1) := by decide +kernel
theorem dX4_bakeAll_5 : decode cX4_bakeAll 5 = .ok (.iload_n 1, 1) := by decide +kernel
theorem dX4_bakeAll_6 : decode cX4_bakeAll 6 = .ok (.aload_n 0, 1) := by decide +kernel
theorem dX4_bakeAll_7 : decode cX4_bakeAll 7 = .ok (.invokevirtual 126, 3) := by decide +kernel
theorem dX4_bakeAll_10 : decode cX4_bakeAll 10 = .ok (.iadd, 1) := by decide +kernel
theorem dX4_bakeAll_11 : decode cX4_bakeAll 11 = .ok (.bipush 60, 2) := by decide +kernel
theorem dX4_bakeAll_13 : decode cX4_bakeAll 13 = .ok (.if_icmp .le 13, 3) := by decide +kernel
theorem dX4_bakeAll_16 : decode cX4_bakeAll 16 = .ok (.new 70, 3) := by decide +kernel
theorem dX4_bakeAll_19 : decode cX4_bakeAll 19 = .ok (.dup, 1) := by decide +kernel
theorem dX4_bakeAll_20 : decode cX4_bakeAll 20 = .ok (.ldc 130, 2) := by decide +kernel
theorem dX4_bakeAll_22 : decode cX4_bakeAll 22 = .ok (.invokespecial 74, 3) := by decide +kernel
theorem dX4_bakeAll_25 : decode cX4_bakeAll 25 = .ok (.athrow, 1) := by decide +kernel
theorem dX4_bakeAll_26 : decode cX4_bakeAll 26 = .ok (.aload_n 0, 1) := by decide +kernel
theorem dX4_bakeAll_27 : decode cX4_bakeAll 27 = .ok (.invokevirtual 132, 3) := by decide +kernel
theorem dX4_bakeAll_30 : decode cX4_bakeAll 30 = .ok (.aload_n 0, 1) := by decide +kernel
theorem dX4_bakeAll_31 : decode cX4_bakeAll 31 = .ok (.getfield 44, 3) := by decide +kernel
theorem dX4_bakeAll_34 : decode cX4_bakeAll 34 = .ok (.astore_n 2, 1) := by decide +kernel
theorem dX4_bakeAll_35 : decode cX4_bakeAll 35 = .ok (.aload_n 2, 1) := by decide +kernel
theorem dX4_bakeAll_36 : decode cX4_bakeAll 36 = .ok (.arraylength, 1) := by decide +kernel
theorem dX4_bakeAll_37 : decode cX4_bakeAll 37 = .ok (.istore_n 3, 1) := by decide +kernel
theorem dX4_bakeAll_38 : decode cX4_bakeAll 38 = .ok (.iconst 0, 1) := by decide +kernel
theorem dX4_bakeAll_39 : decode cX4_bakeAll 39 = .ok (.istore 4, 2) := by decide +kernel
theorem dX4_bakeAll_41 : decode cX4_bakeAll 41 = .ok (.iload 4, 2) := by decide +kernel
theorem dX4_bakeAll_43 : decode cX4_bakeAll 43 = .ok (.iload_n 3, 1) := by decide +kernel
theorem dX4_bakeAll_44 : decode cX4_bakeAll 44 = .ok (.if_icmp .ge 21, 3) := by decide +kernel
theorem dX4_bakeAll_47 : decode cX4_bakeAll 47 = .ok (.aload_n 2, 1) := by decide +kernel
theorem dX4_bakeAll_48 : decode cX4_bakeAll 48 = .ok (.iload 4, 2) := by decide +kernel
theorem dX4_bakeAll_50 : decode cX4_bakeAll 50 = .ok (.aaload, 1) := by decide +kernel
theorem dX4_bakeAll_51 : decode cX4_bakeAll 51 = .ok (.astore 5, 2) := by decide +kernel
theorem dX4_bakeAll_53 : decode cX4_bakeAll 53 = .ok (.aload_n 0, 1) := by decide +kernel
theorem dX4_bakeAll_54 : decode cX4_bakeAll 54 = .ok (.aload 5, 2) := by decide +kernel
theorem dX4_bakeAll_56 : decode cX4_bakeAll 56 = .ok (.invokevirtual 118, 3) := by decide +kernel
theorem dX4_bakeAll_59 : decode cX4_bakeAll 59 = .ok (.iinc 4 1, 3) := by decide +kernel
theorem dX4_bakeAll_62 : decode cX4_bakeAll 62 = .ok (.goto (-21), 3) := by decide +kernel
theorem dX4_bakeAll_65 : decode cX4_bakeAll 65 = .ok (.aload_n 0, 1) := by decide +kernel
theorem dX4_bakeAll_66 : decode cX4_bakeAll 66 = .ok (.getfield 113, 3) := by decide +kernel
theorem dX4_bakeAll_69 : decode cX4_bakeAll 69 = .ok (.iload_n 1, 1) := by decide +kernel
theorem dX4_bakeAll_70 : decode cX4_bakeAll 70 = .ok (.isub, 1) := by decide +kernel
theorem dX4_bakeAll_71 : decode cX4_bakeAll 71 = .ok (.ireturn, 1) := by decide +kernel
theorem dX4_isFresh_0 : decode cX4_isFresh 0 = .ok (.aload_n 0, 1) := by decide +kernel
theorem dX4_isFresh_1 : decode cX4_isFresh 1 = .ok (.iload_n 1, 1) := by decide +kernel
theorem dX4_isFresh_2 : decode cX4_isFresh 2 = .ok (.invokevirtual 63, 3) := by decide +kernel
theorem dX4_isFresh_5 : decode cX4_isFresh 5 = .ok (.astore_n 2, 1) := by decide +kernel
theorem dX4_isFresh_6 : decode cX4_isFresh 6 = .ok (.aload_n 2, 1) := by decide +kernel
theorem dX4_isFresh_7 : decode cX4_isFresh 7 = .ok (.ifnull 21, 3) := by decide +kernel
theorem dX4_isFresh_10 : decode cX4_isFresh 10 = .ok (.aload_n 0, 1) := by decide +kernel
theorem dX4_isFresh_11 : decode cX4_isFresh 11 = .ok (.aload_n 2, 1) := by decide +kernel
theorem dX4_isFresh_12 : decode cX4_isFresh 12 = .ok (.invokevirtual 109, 3) := by decide +kernel
theorem dX4_isFresh_15 : decode cX4_isFresh 15 = .ok (.ifCond .eq 5, 3) := by decide +kernel
theorem dX4_isFresh_18 : decode cX4_isFresh 18 = .ok (.iconst 0, 1) := by decide +kernel
theorem dX4_isFresh_19 : decode cX4_isFresh 19 = .ok (.ireturn, 1) := by decide +kernel
theorem dX4_isFresh_20 : decode cX4_isFresh 20 = .ok (.aload_n 2, 1) := by decide +kernel
theorem dX4_isFresh_21 : decode cX4_isFresh 21 = .ok (.getfield 99, 3) := by decide +kernel
theorem dX4_isFresh_24 : decode cX4_isFresh 24 = .ok (.astore_n 2, 1) := by decide +kernel
theorem dX4_isFresh_25 : decode cX4_isFresh 25 = .ok (.goto (-19), 3) := by decide +kernel
theorem dX4_isFresh_28 : decode cX4_isFresh 28 = .ok (.iconst 1, 1) := by decide +kernel
theorem dX4_isFresh_29 : decode cX4_isFresh 29 = .ok (.ireturn, 1) := by decide +kernel
theorem dX4_isFreshAnew_0 : decode cX4_isFreshAnew 0 = .ok (.aload_n 0, 1) := by decide +kernel
theorem dX4_isFreshAnew_1 : decode cX4_isFreshAnew 1 = .ok (.iload_n 1, 1) := by decide +kernel
theorem dX4_isFreshAnew_2 : decode cX4_isFreshAnew 2 = .ok (.invokevirtual 63, 3) := by decide +kernel
theorem dX4_isFreshAnew_5 : decode cX4_isFreshAnew 5 = .ok (.astore_n 2, 1) := by decide +kernel
theorem dX4_isFreshAnew_6 : decode cX4_isFreshAnew 6 = .ok (.aload_n 2, 1) := by decide +kernel
theorem dX4_isFreshAnew_7 : decode cX4_isFreshAnew 7 = .ok (.ifnull 21, 3) := by decide +kernel
theorem dX4_isFreshAnew_10 : decode cX4_isFreshAnew 10 = .ok (.aload_n 0, 1) := by decide +kernel
theorem dX4_isFreshAnew_11 : decode cX4_isFreshAnew 11 = .ok (.aload_n 2, 1) := by decide +kernel
theorem dX4_isFreshAnew_12 : decode cX4_isFreshAnew 12 = .ok (.invokevirtual 135, 3) := by decide +kernel
theorem dX4_isFreshAnew_15 : decode cX4_isFreshAnew 15 = .ok (.ifCond .ne 5, 3) := by decide +kernel
theorem dX4_isFreshAnew_18 : decode cX4_isFreshAnew 18 = .ok (.iconst 0, 1) := by decide +kernel
theorem dX4_isFreshAnew_19 : decode cX4_isFreshAnew 19 = .ok (.ireturn, 1) := by decide +kernel
theorem dX4_isFreshAnew_20 : decode cX4_isFreshAnew 20 = .ok (.aload_n 2, 1) := by decide +kernel
theorem dX4_isFreshAnew_21 : decode cX4_isFreshAnew 21 = .ok (.getfield 99, 3) := by decide +kernel
theorem dX4_isFreshAnew_24 : decode cX4_isFreshAnew 24 = .ok (.astore_n 2, 1) := by decide +kernel
theorem dX4_isFreshAnew_25 : decode cX4_isFreshAnew 25 = .ok (.goto (-19), 3) := by decide +kernel
theorem dX4_isFreshAnew_28 : decode cX4_isFreshAnew 28 = .ok (.iconst 1, 1) := by decide +kernel
theorem dX4_isFreshAnew_29 : decode cX4_isFreshAnew 29 = .ok (.ireturn, 1) := by decide +kernel
theorem dX4_layers_0 : decode cX4_layers 0 = .ok (.aload_n 0, 1) := by decide +kernel
theorem dX4_layers_1 : decode cX4_layers 1 = .ok (.getfield 12, 3) := by decide +kernel
theorem dX4_layers_4 : decode cX4_layers 4 = .ok (.getfield 138, 3) := by decide +kernel
theorem dX4_layers_7 : decode cX4_layers 7 = .ok (.ireturn, 1) := by decide +kernel
theorem dX4_bakes_0 : decode cX4_bakes 0 = .ok (.aload_n 0, 1) := by decide +kernel
theorem dX4_bakes_1 : decode cX4_bakes 1 = .ok (.getfield 113, 3) := by decide +kernel
theorem dX4_bakes_4 : decode cX4_bakes 4 = .ok (.ireturn, 1) := by decide +kernel
theorem dX4_latest_0 : decode cX4_latest 0 = .ok (.aload_n 0, 1) := by decide +kernel
theorem dX4_latest_1 : decode cX4_latest 1 = .ok (.iload_n 1, 1) := by decide +kernel
theorem dX4_latest_2 : decode cX4_latest 2 = .ok (.invokevirtual 63, 3) := by decide +kernel
theorem dX4_latest_5 : decode cX4_latest 5 = .ok (.getfield 103, 3) := by decide +kernel
theorem dX4_latest_8 : decode cX4_latest 8 = .ok (.invokestatic 122, 3) := by decide +kernel
theorem dX4_latest_11 : decode cX4_latest 11 = .ok (.ireturn, 1) := by decide +kernel
theorem dX4_top_0 : decode cX4_top 0 = .ok (.aload_n 0, 1) := by decide +kernel
theorem dX4_top_1 : decode cX4_top 1 = .ok (.iload_n 1, 1) := by decide +kernel
theorem dX4_top_2 : decode cX4_top 2 = .ok (.invokevirtual 141, 3) := by decide +kernel
theorem dX4_top_5 : decode cX4_top 5 = .ok (.getfield 145, 3) := by decide +kernel
theorem dX4_top_8 : decode cX4_top 8 = .ok (.ireturn, 1) := by decide +kernel
theorem dX4_test_0 : decode cX4_test 0 = .ok (.aload_n 0, 1) := by decide +kernel
theorem dX4_test_1 : decode cX4_test 1 = .ok (.iload_n 1, 1) := by decide +kernel
theorem dX4_test_2 : decode cX4_test 2 = .ok (.invokevirtual 141, 3) := by decide +kernel
theorem dX4_test_5 : decode cX4_test 5 = .ok (.astore_n 3, 1) := by decide +kernel
theorem dX4_test_6 : decode cX4_test 6 = .ok (.aload_n 3, 1) := by decide +kernel
theorem dX4_test_7 : decode cX4_test 7 = .ok (.getfield 148, 3) := by decide +kernel
theorem dX4_test_10 : decode cX4_test 10 = .ok (.ifCond .eq 13, 3) := by decide +kernel
theorem dX4_test_13 : decode cX4_test 13 = .ok (.new 70, 3) := by decide +kernel
theorem dX4_test_16 : decode cX4_test 16 = .ok (.dup, 1) := by decide +kernel
theorem dX4_test_17 : decode cX4_test 17 = .ok (.ldc 152, 2) := by decide +kernel
theorem dX4_test_19 : decode cX4_test 19 = .ok (.invokespecial 74, 3) := by decide +kernel
theorem dX4_test_22 : decode cX4_test 22 = .ok (.athrow, 1) := by decide +kernel
theorem dX4_test_23 : decode cX4_test 23 = .ok (.iload_n 2, 1) := by decide +kernel
theorem dX4_test_24 : decode cX4_test 24 = .ok (.ifCond .eq 11, 3) := by decide +kernel
theorem dX4_test_27 : decode cX4_test 27 = .ok (.aload_n 3, 1) := by decide +kernel
theorem dX4_test_28 : decode cX4_test 28 = .ok (.iconst 1, 1) := by decide +kernel
theorem dX4_test_29 : decode cX4_test 29 = .ok (.putfield 154, 3) := by decide +kernel
theorem dX4_test_32 : decode cX4_test 32 = .ok (.goto 8, 3) := by decide +kernel
theorem dX4_test_35 : decode cX4_test 35 = .ok (.aload_n 3, 1) := by decide +kernel
theorem dX4_test_36 : decode cX4_test 36 = .ok (.iconst 1, 1) := by decide +kernel
theorem dX4_test_37 : decode cX4_test 37 = .ok (.putfield 157, 3) := by decide +kernel
theorem dX4_test_40 : decode cX4_test 40 = .ok (.aload_n 3, 1) := by decide +kernel
theorem dX4_test_41 : decode cX4_test 41 = .ok (.getfield 157, 3) := by decide +kernel
theorem dX4_test_44 : decode cX4_test 44 = .ok (.ireturn, 1) := by decide +kernel
theorem dX4_hold_0 : decode cX4_hold 0 = .ok (.aload_n 0, 1) := by decide +kernel
theorem dX4_hold_1 : decode cX4_hold 1 = .ok (.iload_n 1, 1) := by decide +kernel
theorem dX4_hold_2 : decode cX4_hold 2 = .ok (.invokevirtual 141, 3) := by decide +kernel
theorem dX4_hold_5 : decode cX4_hold 5 = .ok (.astore_n 2, 1) := by decide +kernel
theorem dX4_hold_6 : decode cX4_hold 6 = .ok (.aload_n 2, 1) := by decide +kernel
theorem dX4_hold_7 : decode cX4_hold 7 = .ok (.getfield 148, 3) := by decide +kernel
theorem dX4_hold_10 : decode cX4_hold 10 = .ok (.ifCond .ne 10, 3) := by decide +kernel
theorem dX4_hold_13 : decode cX4_hold 13 = .ok (.aload_n 2, 1) := by decide +kernel
theorem dX4_hold_14 : decode cX4_hold 14 = .ok (.getfield 157, 3) := by decide +kernel
theorem dX4_hold_17 : decode cX4_hold 17 = .ok (.ifCond .eq 13, 3) := by decide +kernel
theorem dX4_hold_20 : decode cX4_hold 20 = .ok (.new 70, 3) := by decide +kernel
theorem dX4_hold_23 : decode cX4_hold 23 = .ok (.dup, 1) := by decide +kernel
theorem dX4_hold_24 : decode cX4_hold 24 = .ok (.ldc 160, 2) := by decide +kernel
theorem dX4_hold_26 : decode cX4_hold 26 = .ok (.invokespecial 74, 3) := by decide +kernel
theorem dX4_hold_29 : decode cX4_hold 29 = .ok (.athrow, 1) := by decide +kernel
theorem dX4_hold_30 : decode cX4_hold 30 = .ok (.aload_n 2, 1) := by decide +kernel
theorem dX4_hold_31 : decode cX4_hold 31 = .ok (.iconst 1, 1) := by decide +kernel
theorem dX4_hold_32 : decode cX4_hold 32 = .ok (.putfield 157, 3) := by decide +kernel
theorem dX4_hold_35 : decode cX4_hold 35 = .ok (.aload_n 0, 1) := by decide +kernel
theorem dX4_hold_36 : decode cX4_hold 36 = .ok (.aload_n 2, 1) := by decide +kernel
theorem dX4_hold_37 : decode cX4_hold 37 = .ok (.invokevirtual 162, 3) := by decide +kernel
theorem dX4_hold_40 : decode cX4_hold 40 = .ok (.ireturn, 1) := by decide +kernel
theorem dX4_raise_0 : decode cX4_raise 0 = .ok (.aload_n 0, 1) := by decide +kernel
theorem dX4_raise_1 : decode cX4_raise 1 = .ok (.iload_n 1, 1) := by decide +kernel
theorem dX4_raise_2 : decode cX4_raise 2 = .ok (.invokevirtual 141, 3) := by decide +kernel
theorem dX4_raise_5 : decode cX4_raise 5 = .ok (.astore_n 2, 1) := by decide +kernel
theorem dX4_raise_6 : decode cX4_raise 6 = .ok (.aload_n 2, 1) := by decide +kernel
theorem dX4_raise_7 : decode cX4_raise 7 = .ok (.getfield 148, 3) := by decide +kernel
theorem dX4_raise_10 : decode cX4_raise 10 = .ok (.ifCond .ne 25, 3) := by decide +kernel
theorem dX4_raise_13 : decode cX4_raise 13 = .ok (.aload_n 2, 1) := by decide +kernel
theorem dX4_raise_14 : decode cX4_raise 14 = .ok (.getfield 157, 3) := by decide +kernel
theorem dX4_raise_17 : decode cX4_raise 17 = .ok (.ifCond .ne 18, 3) := by decide +kernel
theorem dX4_raise_20 : decode cX4_raise 20 = .ok (.aload_n 2, 1) := by decide +kernel
theorem dX4_raise_21 : decode cX4_raise 21 = .ok (.getfield 165, 3) := by decide +kernel
theorem dX4_raise_24 : decode cX4_raise 24 = .ok (.iconst 2, 1) := by decide +kernel
theorem dX4_raise_25 : decode cX4_raise 25 = .ok (.if_icmp .ge 10, 3) := by decide +kernel
theorem dX4_raise_28 : decode cX4_raise 28 = .ok (.aload_n 2, 1) := by decide +kernel
theorem dX4_raise_29 : decode cX4_raise 29 = .ok (.getfield 154, 3) := by decide +kernel
theorem dX4_raise_32 : decode cX4_raise 32 = .ok (.ifCond .ne 13, 3) := by decide +kernel
theorem dX4_raise_35 : decode cX4_raise 35 = .ok (.new 70, 3) := by decide +kernel
theorem dX4_raise_38 : decode cX4_raise 38 = .ok (.dup, 1) := by decide +kernel
theorem dX4_raise_39 : decode cX4_raise 39 = .ok (.ldc 168, 2) := by decide +kernel
theorem dX4_raise_41 : decode cX4_raise 41 = .ok (.invokespecial 74, 3) := by decide +kernel
theorem dX4_raise_44 : decode cX4_raise 44 = .ok (.athrow, 1) := by decide +kernel
theorem dX4_raise_45 : decode cX4_raise 45 = .ok (.aload_n 2, 1) := by decide +kernel
theorem dX4_raise_46 : decode cX4_raise 46 = .ok (.dup, 1) := by decide +kernel
theorem dX4_raise_47 : decode cX4_raise 47 = .ok (.getfield 165, 3) := by decide +kernel
theorem dX4_raise_50 : decode cX4_raise 50 = .ok (.iconst 1, 1) := by decide +kernel
theorem dX4_raise_51 : decode cX4_raise 51 = .ok (.iadd, 1) := by decide +kernel
theorem dX4_raise_52 : decode cX4_raise 52 = .ok (.putfield 165, 3) := by decide +kernel
theorem dX4_raise_55 : decode cX4_raise 55 = .ok (.aload_n 2, 1) := by decide +kernel
theorem dX4_raise_56 : decode cX4_raise 56 = .ok (.iconst 0, 1) := by decide +kernel
theorem dX4_raise_57 : decode cX4_raise 57 = .ok (.putfield 154, 3) := by decide +kernel
theorem dX4_raise_60 : decode cX4_raise 60 = .ok (.aload_n 2, 1) := by decide +kernel
theorem dX4_raise_61 : decode cX4_raise 61 = .ok (.getfield 165, 3) := by decide +kernel
theorem dX4_raise_64 : decode cX4_raise 64 = .ok (.ireturn, 1) := by decide +kernel
theorem dX4_copy_0 : decode cX4_copy 0 = .ok (.aload_n 0, 1) := by decide +kernel
theorem dX4_copy_1 : decode cX4_copy 1 = .ok (.iload_n 1, 1) := by decide +kernel
theorem dX4_copy_2 : decode cX4_copy 2 = .ok (.invokevirtual 141, 3) := by decide +kernel
theorem dX4_copy_5 : decode cX4_copy 5 = .ok (.astore_n 3, 1) := by decide +kernel
theorem dX4_copy_6 : decode cX4_copy 6 = .ok (.iload_n 2, 1) := by decide +kernel
theorem dX4_copy_7 : decode cX4_copy 7 = .ok (.ifCond .lt 8, 3) := by decide +kernel
theorem dX4_copy_10 : decode cX4_copy 10 = .ok (.iload_n 2, 1) := by decide +kernel
theorem dX4_copy_11 : decode cX4_copy 11 = .ok (.iconst 3, 1) := by decide +kernel
theorem dX4_copy_12 : decode cX4_copy 12 = .ok (.if_icmp .lt 13, 3) := by decide +kernel
theorem dX4_copy_15 : decode cX4_copy 15 = .ok (.new 83, 3) := by decide +kernel
theorem dX4_copy_18 : decode cX4_copy 18 = .ok (.dup, 1) := by decide +kernel
theorem dX4_copy_19 : decode cX4_copy 19 = .ok (.ldc 170, 2) := by decide +kernel
theorem dX4_copy_21 : decode cX4_copy 21 = .ok (.invokespecial 87, 3) := by decide +kernel
theorem dX4_copy_24 : decode cX4_copy 24 = .ok (.athrow, 1) := by decide +kernel
theorem dX4_copy_25 : decode cX4_copy 25 = .ok (.aload_n 3, 1) := by decide +kernel
theorem dX4_copy_26 : decode cX4_copy 26 = .ok (.getfield 148, 3) := by decide +kernel
theorem dX4_copy_29 : decode cX4_copy 29 = .ok (.ifCond .ne 12, 3) := by decide +kernel
theorem dX4_copy_32 : decode cX4_copy 32 = .ok (.aload_n 3, 1) := by decide +kernel
theorem dX4_copy_33 : decode cX4_copy 33 = .ok (.iload_n 2, 1) := by decide +kernel
theorem dX4_copy_34 : decode cX4_copy 34 = .ok (.invokevirtual 172, 3) := by decide +kernel
theorem dX4_copy_37 : decode cX4_copy 37 = .ok (.iconst (-1), 1) := by decide +kernel
theorem dX4_copy_38 : decode cX4_copy 38 = .ok (.if_icmp .eq 13, 3) := by decide +kernel
theorem dX4_copy_41 : decode cX4_copy 41 = .ok (.new 70, 3) := by decide +kernel
theorem dX4_copy_44 : decode cX4_copy 44 = .ok (.dup, 1) := by decide +kernel
theorem dX4_copy_45 : decode cX4_copy 45 = .ok (.ldc 176, 2) := by decide +kernel
theorem dX4_copy_47 : decode cX4_copy 47 = .ok (.invokespecial 74, 3) := by decide +kernel
theorem dX4_copy_50 : decode cX4_copy 50 = .ok (.athrow, 1) := by decide +kernel
theorem dX4_copy_51 : decode cX4_copy 51 = .ok (.aload_n 3, 1) := by decide +kernel
theorem dX4_copy_52 : decode cX4_copy 52 = .ok (.iload_n 2, 1) := by decide +kernel
theorem dX4_copy_53 : decode cX4_copy 53 = .ok (.aload_n 0, 1) := by decide +kernel
theorem dX4_copy_54 : decode cX4_copy 54 = .ok (.getfield 178, 3) := by decide +kernel
theorem dX4_copy_57 : decode cX4_copy 57 = .ok (.aload_n 0, 1) := by decide +kernel
theorem dX4_copy_58 : decode cX4_copy 58 = .ok (.getfield 41, 3) := by decide +kernel
theorem dX4_copy_61 : decode cX4_copy 61 = .ok (.iload_n 2, 1) := by decide +kernel
theorem dX4_copy_62 : decode cX4_copy 62 = .ok (.invokestatic 181, 3) := by decide +kernel
theorem dX4_copy_65 : decode cX4_copy 65 = .ok (.iadd, 1) := by decide +kernel
theorem dX4_copy_66 : decode cX4_copy 66 = .ok (.invokevirtual 185, 3) := by decide +kernel
theorem dX4_copy_69 : decode cX4_copy 69 = .ok (.aload_n 3, 1) := by decide +kernel
theorem dX4_copy_70 : decode cX4_copy 70 = .ok (.iload_n 2, 1) := by decide +kernel
theorem dX4_copy_71 : decode cX4_copy 71 = .ok (.invokevirtual 172, 3) := by decide +kernel
theorem dX4_copy_74 : decode cX4_copy 74 = .ok (.ireturn, 1) := by decide +kernel
theorem dX4_setRules_0 : decode cX4_setRules 0 = .ok (.iload_n 1, 1) := by decide +kernel
theorem dX4_setRules_1 : decode cX4_setRules 1 = .ok (.ifCond .lt 12, 3) := by decide +kernel
theorem dX4_setRules_4 : decode cX4_setRules 4 = .ok (.iload_n 1, 1) := by decide +kernel
theorem dX4_setRules_5 : decode cX4_setRules 5 = .ok (.aload_n 0, 1) := by decide +kernel
theorem dX4_setRules_6 : decode cX4_setRules 6 = .ok (.getfield 41, 3) := by decide +kernel
theorem dX4_setRules_9 : decode cX4_setRules 9 = .ok (.arraylength, 1) := by decide +kernel
theorem dX4_setRules_10 : decode cX4_setRules 10 = .ok (.if_icmp .lt 13, 3) := by decide +kernel
theorem dX4_setRules_13 : decode cX4_setRules 13 = .ok (.new 83, 3) := by decide +kernel
theorem dX4_setRules_16 : decode cX4_setRules 16 = .ok (.dup, 1) := by decide +kernel
theorem dX4_setRules_17 : decode cX4_setRules 17 = .ok (.ldc 170, 2) := by decide +kernel
theorem dX4_setRules_19 : decode cX4_setRules 19 = .ok (.invokespecial 87, 3) := by decide +kernel
theorem dX4_setRules_22 : decode cX4_setRules 22 = .ok (.athrow, 1) := by decide +kernel
theorem dX4_setRules_23 : decode cX4_setRules 23 = .ok (.iload_n 2, 1) := by decide +kernel
theorem dX4_setRules_24 : decode cX4_setRules 24 = .ok (.ifCond .lt 9, 3) := by decide +kernel
theorem dX4_setRules_27 : decode cX4_setRules 27 = .ok (.iload_n 2, 1) := by decide +kernel
theorem dX4_setRules_28 : decode cX4_setRules 28 = .ok (.bipush 9, 2) := by decide +kernel
theorem dX4_setRules_30 : decode cX4_setRules 30 = .ok (.if_icmp .le 13, 3) := by decide +kernel
theorem dX4_setRules_33 : decode cX4_setRules 33 = .ok (.new 83, 3) := by decide +kernel
theorem dX4_setRules_36 : decode cX4_setRules 36 = .ok (.dup, 1) := by decide +kernel
theorem dX4_setRules_37 : decode cX4_setRules 37 = .ok (.ldc 189, 2) := by decide +kernel
theorem dX4_setRules_39 : decode cX4_setRules 39 = .ok (.invokespecial 87, 3) := by decide +kernel
theorem dX4_setRules_42 : decode cX4_setRules 42 = .ok (.athrow, 1) := by decide +kernel
theorem dX4_setRules_43 : decode cX4_setRules 43 = .ok (.iload_n 3, 1) := by decide +kernel
theorem dX4_setRules_44 : decode cX4_setRules 44 = .ok (.ifCond .lt 21, 3) := by decide +kernel
theorem dX4_setRules_47 : decode cX4_setRules 47 = .ok (.iload_n 3, 1) := by decide +kernel
theorem dX4_setRules_48 : decode cX4_setRules 48 = .ok (.bipush 99, 2) := by decide +kernel
theorem dX4_setRules_50 : decode cX4_setRules 50 = .ok (.if_icmp .gt 15, 3) := by decide +kernel
theorem dX4_setRules_53 : decode cX4_setRules 53 = .ok (.iload 4, 2) := by decide +kernel
theorem dX4_setRules_55 : decode cX4_setRules 55 = .ok (.ifCond .lt 10, 3) := by decide +kernel
theorem dX4_setRules_58 : decode cX4_setRules 58 = .ok (.iload 4, 2) := by decide +kernel
theorem dX4_setRules_60 : decode cX4_setRules 60 = .ok (.bipush 99, 2) := by decide +kernel
theorem dX4_setRules_62 : decode cX4_setRules 62 = .ok (.if_icmp .le 13, 3) := by decide +kernel
theorem dX4_setRules_65 : decode cX4_setRules 65 = .ok (.new 83, 3) := by decide +kernel
theorem dX4_setRules_68 : decode cX4_setRules 68 = .ok (.dup, 1) := by decide +kernel
theorem dX4_setRules_69 : decode cX4_setRules 69 = .ok (.ldc 191, 2) := by decide +kernel
theorem dX4_setRules_71 : decode cX4_setRules 71 = .ok (.invokespecial 87, 3) := by decide +kernel
theorem dX4_setRules_74 : decode cX4_setRules 74 = .ok (.athrow, 1) := by decide +kernel
theorem dX4_setRules_75 : decode cX4_setRules 75 = .ok (.aload_n 0, 1) := by decide +kernel
theorem dX4_setRules_76 : decode cX4_setRules 76 = .ok (.getfield 41, 3) := by decide +kernel
theorem dX4_setRules_79 : decode cX4_setRules 79 = .ok (.iload_n 1, 1) := by decide +kernel
theorem dX4_setRules_80 : decode cX4_setRules 80 = .ok (.iload_n 2, 1) := by decide +kernel
theorem dX4_setRules_81 : decode cX4_setRules 81 = .ok (.iastore, 1) := by decide +kernel
theorem dX4_setRules_82 : decode cX4_setRules 82 = .ok (.aload_n 0, 1) := by decide +kernel
theorem dX4_setRules_83 : decode cX4_setRules 83 = .ok (.iload_n 3, 1) := by decide +kernel
theorem dX4_setRules_84 : decode cX4_setRules 84 = .ok (.putfield 56, 3) := by decide +kernel
theorem dX4_setRules_87 : decode cX4_setRules 87 = .ok (.aload_n 0, 1) := by decide +kernel
theorem dX4_setRules_88 : decode cX4_setRules 88 = .ok (.iload 4, 2) := by decide +kernel
theorem dX4_setRules_90 : decode cX4_setRules 90 = .ok (.putfield 60, 3) := by decide +kernel
theorem dX4_setRules_93 : decode cX4_setRules 93 = .ok (.return_, 1) := by decide +kernel
theorem dX4_pass_0 : decode cX4_pass 0 = .ok (.iload_n 1, 1) := by decide +kernel
theorem dX4_pass_1 : decode cX4_pass 1 = .ok (.iconst 1, 1) := by decide +kernel
theorem dX4_pass_2 : decode cX4_pass 2 = .ok (.if_icmp .lt 9, 3) := by decide +kernel
theorem dX4_pass_5 : decode cX4_pass 5 = .ok (.iload_n 1, 1) := by decide +kernel
theorem dX4_pass_6 : decode cX4_pass 6 = .ok (.bipush 30, 2) := by decide +kernel
theorem dX4_pass_8 : decode cX4_pass 8 = .ok (.if_icmp .le 13, 3) := by decide +kernel
theorem dX4_pass_11 : decode cX4_pass 11 = .ok (.new 83, 3) := by decide +kernel
theorem dX4_pass_14 : decode cX4_pass 14 = .ok (.dup, 1) := by decide +kernel
theorem dX4_pass_15 : decode cX4_pass 15 = .ok (.ldc 193, 2) := by decide +kernel
theorem dX4_pass_17 : decode cX4_pass 17 = .ok (.invokespecial 87, 3) := by decide +kernel
theorem dX4_pass_20 : decode cX4_pass 20 = .ok (.athrow, 1) := by decide +kernel
theorem dX4_pass_21 : decode cX4_pass 21 = .ok (.aload_n 0, 1) := by decide +kernel
theorem dX4_pass_22 : decode cX4_pass 22 = .ok (.dup, 1) := by decide +kernel
theorem dX4_pass_23 : decode cX4_pass 23 = .ok (.getfield 178, 3) := by decide +kernel
theorem dX4_pass_26 : decode cX4_pass 26 = .ok (.iload_n 1, 1) := by decide +kernel
theorem dX4_pass_27 : decode cX4_pass 27 = .ok (.iadd, 1) := by decide +kernel
theorem dX4_pass_28 : decode cX4_pass 28 = .ok (.putfield 178, 3) := by decide +kernel
theorem dX4_pass_31 : decode cX4_pass 31 = .ok (.iconst 0, 1) := by decide +kernel
theorem dX4_pass_32 : decode cX4_pass 32 = .ok (.istore_n 2, 1) := by decide +kernel
theorem dX4_pass_33 : decode cX4_pass 33 = .ok (.aload_n 0, 1) := by decide +kernel
theorem dX4_pass_34 : decode cX4_pass 34 = .ok (.getfield 31, 3) := by decide +kernel
theorem dX4_pass_37 : decode cX4_pass 37 = .ok (.astore_n 3, 1) := by decide +kernel
theorem dX4_pass_38 : decode cX4_pass 38 = .ok (.aload_n 3, 1) := by decide +kernel
theorem dX4_pass_39 : decode cX4_pass 39 = .ok (.arraylength, 1) := by decide +kernel
theorem dX4_pass_40 : decode cX4_pass 40 = .ok (.istore 4, 2) := by decide +kernel
theorem dX4_pass_42 : decode cX4_pass 42 = .ok (.iconst 0, 1) := by decide +kernel
theorem dX4_pass_43 : decode cX4_pass 43 = .ok (.istore 5, 2) := by decide +kernel
theorem dX4_pass_45 : decode cX4_pass 45 = .ok (.iload 5, 2) := by decide +kernel
theorem dX4_pass_47 : decode cX4_pass 47 = .ok (.iload 4, 2) := by decide +kernel
theorem dX4_pass_49 : decode cX4_pass 49 = .ok (.if_icmp .ge 38, 3) := by decide +kernel
theorem dX4_pass_52 : decode cX4_pass 52 = .ok (.aload_n 3, 1) := by decide +kernel
theorem dX4_pass_53 : decode cX4_pass 53 = .ok (.iload 5, 2) := by decide +kernel
theorem dX4_pass_55 : decode cX4_pass 55 = .ok (.aaload, 1) := by decide +kernel
theorem dX4_pass_56 : decode cX4_pass 56 = .ok (.astore 6, 2) := by decide +kernel
theorem dX4_pass_58 : decode cX4_pass 58 = .ok (.aload 6, 2) := by decide +kernel
theorem dX4_pass_60 : decode cX4_pass 60 = .ok (.ifnull 21, 3) := by decide +kernel
theorem dX4_pass_63 : decode cX4_pass 63 = .ok (.aload_n 0, 1) := by decide +kernel
theorem dX4_pass_64 : decode cX4_pass 64 = .ok (.aload 6, 2) := by decide +kernel
theorem dX4_pass_66 : decode cX4_pass 66 = .ok (.invokevirtual 195, 3) := by decide +kernel
theorem dX4_pass_69 : decode cX4_pass 69 = .ok (.ifCond .eq 12, 3) := by decide +kernel
theorem dX4_pass_72 : decode cX4_pass 72 = .ok (.aload 6, 2) := by decide +kernel
theorem dX4_pass_74 : decode cX4_pass 74 = .ok (.iconst 1, 1) := by decide +kernel
theorem dX4_pass_75 : decode cX4_pass 75 = .ok (.putfield 148, 3) := by decide +kernel
theorem dX4_pass_78 : decode cX4_pass 78 = .ok (.iinc 2 1, 3) := by decide +kernel
theorem dX4_pass_81 : decode cX4_pass 81 = .ok (.iinc 5 1, 3) := by decide +kernel
theorem dX4_pass_84 : decode cX4_pass 84 = .ok (.goto (-39), 3) := by decide +kernel
theorem dX4_pass_87 : decode cX4_pass 87 = .ok (.iload_n 2, 1) := by decide +kernel
theorem dX4_pass_88 : decode cX4_pass 88 = .ok (.ireturn, 1) := by decide +kernel
theorem dX4_state_0 : decode cX4_state 0 = .ok (.aload_n 0, 1) := by decide +kernel
theorem dX4_state_1 : decode cX4_state 1 = .ok (.iload_n 1, 1) := by decide +kernel
theorem dX4_state_2 : decode cX4_state 2 = .ok (.invokevirtual 141, 3) := by decide +kernel
theorem dX4_state_5 : decode cX4_state 5 = .ok (.astore_n 2, 1) := by decide +kernel
theorem dX4_state_6 : decode cX4_state 6 = .ok (.aload_n 2, 1) := by decide +kernel
theorem dX4_state_7 : decode cX4_state 7 = .ok (.getfield 165, 3) := by decide +kernel
theorem dX4_state_10 : decode cX4_state 10 = .ok (.istore_n 3, 1) := by decide +kernel
theorem dX4_state_11 : decode cX4_state 11 = .ok (.aload_n 2, 1) := by decide +kernel
theorem dX4_state_12 : decode cX4_state 12 = .ok (.getfield 157, 3) := by decide +kernel
theorem dX4_state_15 : decode cX4_state 15 = .ok (.ifCond .eq 6, 3) := by decide +kernel
theorem dX4_state_18 : decode cX4_state 18 = .ok (.iinc 3 10, 3) := by decide +kernel
theorem dX4_state_21 : decode cX4_state 21 = .ok (.aload_n 0, 1) := by decide +kernel
theorem dX4_state_22 : decode cX4_state 22 = .ok (.aload_n 2, 1) := by decide +kernel
theorem dX4_state_23 : decode cX4_state 23 = .ok (.invokevirtual 199, 3) := by decide +kernel
theorem dX4_state_26 : decode cX4_state 26 = .ok (.ifCond .eq 6, 3) := by decide +kernel
theorem dX4_state_29 : decode cX4_state 29 = .ok (.iinc 3 20, 3) := by decide +kernel
theorem dX4_state_32 : decode cX4_state 32 = .ok (.aload_n 2, 1) := by decide +kernel
theorem dX4_state_33 : decode cX4_state 33 = .ok (.getfield 148, 3) := by decide +kernel
theorem dX4_state_36 : decode cX4_state 36 = .ok (.ifCond .eq 6, 3) := by decide +kernel
theorem dX4_state_39 : decode cX4_state 39 = .ok (.iinc 3 40, 3) := by decide +kernel
theorem dX4_state_42 : decode cX4_state 42 = .ok (.iload_n 3, 1) := by decide +kernel
theorem dX4_state_43 : decode cX4_state 43 = .ok (.ireturn, 1) := by decide +kernel
theorem dX4_start_0 : decode cX4_start 0 = .ok (.aload_n 0, 1) := by decide +kernel
theorem dX4_start_1 : decode cX4_start 1 = .ok (.iload_n 1, 1) := by decide +kernel
theorem dX4_start_2 : decode cX4_start 2 = .ok (.invokevirtual 63, 3) := by decide +kernel
theorem dX4_start_5 : decode cX4_start 5 = .ok (.astore 4, 2) := by decide +kernel
theorem dX4_start_7 : decode cX4_start 7 = .ok (.iload_n 2, 1) := by decide +kernel
theorem dX4_start_8 : decode cX4_start 8 = .ok (.ifCond .lt 17, 3) := by decide +kernel
theorem dX4_start_11 : decode cX4_start 11 = .ok (.iload_n 2, 1) := by decide +kernel
theorem dX4_start_12 : decode cX4_start 12 = .ok (.iconst 3, 1) := by decide +kernel
theorem dX4_start_13 : decode cX4_start 13 = .ok (.if_icmp .ge 12, 3) := by decide +kernel
theorem dX4_start_16 : decode cX4_start 16 = .ok (.iload_n 3, 1) := by decide +kernel
theorem dX4_start_17 : decode cX4_start 17 = .ok (.ifCond .lt 8, 3) := by decide +kernel
theorem dX4_start_20 : decode cX4_start 20 = .ok (.iload_n 3, 1) := by decide +kernel
theorem dX4_start_21 : decode cX4_start 21 = .ok (.iconst 2, 1) := by decide +kernel
theorem dX4_start_22 : decode cX4_start 22 = .ok (.if_icmp .le 13, 3) := by decide +kernel
theorem dX4_start_25 : decode cX4_start 25 = .ok (.new 83, 3) := by decide +kernel
theorem dX4_start_28 : decode cX4_start 28 = .ok (.dup, 1) := by decide +kernel
theorem dX4_start_29 : decode cX4_start 29 = .ok (.ldc 202, 2) := by decide +kernel
theorem dX4_start_31 : decode cX4_start 31 = .ok (.invokespecial 87, 3) := by decide +kernel
theorem dX4_start_34 : decode cX4_start 34 = .ok (.athrow, 1) := by decide +kernel
theorem dX4_start_35 : decode cX4_start 35 = .ok (.aload_n 0, 1) := by decide +kernel
theorem dX4_start_36 : decode cX4_start 36 = .ok (.aload 4, 2) := by decide +kernel
theorem dX4_start_38 : decode cX4_start 38 = .ok (.iload_n 2, 1) := by decide +kernel
theorem dX4_start_39 : decode cX4_start 39 = .ok (.iload_n 3, 1) := by decide +kernel
theorem dX4_start_40 : decode cX4_start 40 = .ok (.invokevirtual 204, 3) := by decide +kernel
theorem dX4_start_43 : decode cX4_start 43 = .ok (.astore 5, 2) := by decide +kernel
theorem dX4_start_45 : decode cX4_start 45 = .ok (.aload 5, 2) := by decide +kernel
theorem dX4_start_47 : decode cX4_start 47 = .ok (.ifnull 22, 3) := by decide +kernel
theorem dX4_start_50 : decode cX4_start 50 = .ok (.aload_n 0, 1) := by decide +kernel
theorem dX4_start_51 : decode cX4_start 51 = .ok (.getfield 208, 3) := by decide +kernel
theorem dX4_start_54 : decode cX4_start 54 = .ok (.ifCond .lt 15, 3) := by decide +kernel
theorem dX4_start_57 : decode cX4_start 57 = .ok (.aload_n 0, 1) := by decide +kernel
theorem dX4_start_58 : decode cX4_start 58 = .ok (.getfield 208, 3) := by decide +kernel
theorem dX4_start_61 : decode cX4_start 61 = .ok (.aload_n 0, 1) := by decide +kernel
theorem dX4_start_62 : decode cX4_start 62 = .ok (.getfield 37, 3) := by decide +kernel
theorem dX4_start_65 : decode cX4_start 65 = .ok (.arraylength, 1) := by decide +kernel
theorem dX4_start_66 : decode cX4_start 66 = .ok (.if_icmp .lt 13, 3) := by decide +kernel
theorem dX4_start_69 : decode cX4_start 69 = .ok (.new 70, 3) := by decide +kernel
theorem dX4_start_72 : decode cX4_start 72 = .ok (.dup, 1) := by decide +kernel
theorem dX4_start_73 : decode cX4_start 73 = .ok (.ldc 211, 2) := by decide +kernel
theorem dX4_start_75 : decode cX4_start 75 = .ok (.invokespecial 74, 3) := by decide +kernel
theorem dX4_start_78 : decode cX4_start 78 = .ok (.athrow, 1) := by decide +kernel
theorem dX4_start_79 : decode cX4_start 79 = .ok (.new 35, 3) := by decide +kernel
theorem dX4_start_82 : decode cX4_start 82 = .ok (.dup, 1) := by decide +kernel
theorem dX4_start_83 : decode cX4_start 83 = .ok (.aload_n 0, 1) := by decide +kernel
theorem dX4_start_84 : decode cX4_start 84 = .ok (.getfield 208, 3) := by decide +kernel
theorem dX4_start_87 : decode cX4_start 87 = .ok (.aload 4, 2) := by decide +kernel
theorem dX4_start_89 : decode cX4_start 89 = .ok (.iload_n 2, 1) := by decide +kernel
theorem dX4_start_90 : decode cX4_start 90 = .ok (.iload_n 3, 1) := by decide +kernel
theorem dX4_start_91 : decode cX4_start 91 = .ok (.aload 5, 2) := by decide +kernel
theorem dX4_start_93 : decode cX4_start 93 = .ok (.invokespecial 213, 3) := by decide +kernel
theorem dX4_start_96 : decode cX4_start 96 = .ok (.astore 6, 2) := by decide +kernel
theorem dX4_start_98 : decode cX4_start 98 = .ok (.aload_n 0, 1) := by decide +kernel
theorem dX4_start_99 : decode cX4_start 99 = .ok (.getfield 37, 3) := by decide +kernel
theorem dX4_start_102 : decode cX4_start 102 = .ok (.aload_n 0, 1) := by decide +kernel
theorem dX4_start_103 : decode cX4_start 103 = .ok (.getfield 208, 3) := by decide +kernel
theorem dX4_start_106 : decode cX4_start 106 = .ok (.aload 6, 2) := by decide +kernel
theorem dX4_start_108 : decode cX4_start 108 = .ok (.aastore, 1) := by decide +kernel
theorem dX4_start_109 : decode cX4_start 109 = .ok (.aload_n 0, 1) := by decide +kernel
theorem dX4_start_110 : decode cX4_start 110 = .ok (.dup, 1) := by decide +kernel
theorem dX4_start_111 : decode cX4_start 111 = .ok (.getfield 208, 3) := by decide +kernel
theorem dX4_start_114 : decode cX4_start 114 = .ok (.iconst 1, 1) := by decide +kernel
theorem dX4_start_115 : decode cX4_start 115 = .ok (.iadd, 1) := by decide +kernel
theorem dX4_start_116 : decode cX4_start 116 = .ok (.putfield 208, 3) := by decide +kernel
theorem dX4_start_119 : decode cX4_start 119 = .ok (.aload 6, 2) := by decide +kernel
theorem dX4_start_121 : decode cX4_start 121 = .ok (.getfield 216, 3) := by decide +kernel
theorem dX4_start_124 : decode cX4_start 124 = .ok (.ireturn, 1) := by decide +kernel
theorem dX4_renew_0 : decode cX4_renew 0 = .ok (.aload_n 0, 1) := by decide +kernel
theorem dX4_renew_1 : decode cX4_renew 1 = .ok (.iload_n 1, 1) := by decide +kernel
theorem dX4_renew_2 : decode cX4_renew 2 = .ok (.invokevirtual 217, 3) := by decide +kernel
theorem dX4_renew_5 : decode cX4_renew 5 = .ok (.astore_n 2, 1) := by decide +kernel
theorem dX4_renew_6 : decode cX4_renew 6 = .ok (.aload_n 0, 1) := by decide +kernel
theorem dX4_renew_7 : decode cX4_renew 7 = .ok (.aload_n 2, 1) := by decide +kernel
theorem dX4_renew_8 : decode cX4_renew 8 = .ok (.getfield 221, 3) := by decide +kernel
theorem dX4_renew_11 : decode cX4_renew 11 = .ok (.aload_n 2, 1) := by decide +kernel
theorem dX4_renew_12 : decode cX4_renew 12 = .ok (.getfield 224, 3) := by decide +kernel
theorem dX4_renew_15 : decode cX4_renew 15 = .ok (.aload_n 2, 1) := by decide +kernel
theorem dX4_renew_16 : decode cX4_renew 16 = .ok (.getfield 227, 3) := by decide +kernel
theorem dX4_renew_19 : decode cX4_renew 19 = .ok (.invokevirtual 204, 3) := by decide +kernel
theorem dX4_renew_22 : decode cX4_renew 22 = .ok (.astore_n 3, 1) := by decide +kernel
theorem dX4_renew_23 : decode cX4_renew 23 = .ok (.aload_n 3, 1) := by decide +kernel
theorem dX4_renew_24 : decode cX4_renew 24 = .ok (.ifnonnull 13, 3) := by decide +kernel
theorem dX4_renew_27 : decode cX4_renew 27 = .ok (.new 70, 3) := by decide +kernel
theorem dX4_renew_30 : decode cX4_renew 30 = .ok (.dup, 1) := by decide +kernel
theorem dX4_renew_31 : decode cX4_renew 31 = .ok (.ldc 228, 2) := by decide +kernel
theorem dX4_renew_33 : decode cX4_renew 33 = .ok (.invokespecial 74, 3) := by decide +kernel
theorem dX4_renew_36 : decode cX4_renew 36 = .ok (.athrow, 1) := by decide +kernel
theorem dX4_renew_37 : decode cX4_renew 37 = .ok (.aload_n 2, 1) := by decide +kernel
theorem dX4_renew_38 : decode cX4_renew 38 = .ok (.aload_n 3, 1) := by decide +kernel
theorem dX4_renew_39 : decode cX4_renew 39 = .ok (.putfield 230, 3) := by decide +kernel
theorem dX4_renew_42 : decode cX4_renew 42 = .ok (.aload_n 3, 1) := by decide +kernel
theorem dX4_renew_43 : decode cX4_renew 43 = .ok (.getfield 233, 3) := by decide +kernel
theorem dX4_renew_46 : decode cX4_renew 46 = .ok (.ireturn, 1) := by decide +kernel
theorem dX4_stop_0 : decode cX4_stop 0 = .ok (.aload_n 0, 1) := by decide +kernel
theorem dX4_stop_1 : decode cX4_stop 1 = .ok (.iload_n 1, 1) := by decide +kernel
theorem dX4_stop_2 : decode cX4_stop 2 = .ok (.invokevirtual 217, 3) := by decide +kernel
theorem dX4_stop_5 : decode cX4_stop 5 = .ok (.astore_n 2, 1) := by decide +kernel
theorem dX4_stop_6 : decode cX4_stop 6 = .ok (.aload_n 2, 1) := by decide +kernel
theorem dX4_stop_7 : decode cX4_stop 7 = .ok (.getfield 230, 3) := by decide +kernel
theorem dX4_stop_10 : decode cX4_stop 10 = .ok (.invokestatic 122, 3) := by decide +kernel
theorem dX4_stop_13 : decode cX4_stop 13 = .ok (.istore_n 3, 1) := by decide +kernel
theorem dX4_stop_14 : decode cX4_stop 14 = .ok (.aload_n 2, 1) := by decide +kernel
theorem dX4_stop_15 : decode cX4_stop 15 = .ok (.aconst_null, 1) := by decide +kernel
theorem dX4_stop_16 : decode cX4_stop 16 = .ok (.putfield 230, 3) := by decide +kernel
theorem dX4_stop_19 : decode cX4_stop 19 = .ok (.iload_n 3, 1) := by decide +kernel
theorem dX4_stop_20 : decode cX4_stop 20 = .ok (.ireturn, 1) := by decide +kernel
theorem dX4_runsFrom_0 : decode cX4_runsFrom 0 = .ok (.aload_n 0, 1) := by decide +kernel
theorem dX4_runsFrom_1 : decode cX4_runsFrom 1 = .ok (.iload_n 1, 1) := by decide +kernel
theorem dX4_runsFrom_2 : decode cX4_runsFrom 2 = .ok (.invokevirtual 234, 3) := by decide +kernel
theorem dX4_runsFrom_5 : decode cX4_runsFrom 5 = .ok (.getfield 230, 3) := by decide +kernel
theorem dX4_runsFrom_8 : decode cX4_runsFrom 8 = .ok (.invokestatic 122, 3) := by decide +kernel
theorem dX4_runsFrom_11 : decode cX4_runsFrom 11 = .ok (.ireturn, 1) := by decide +kernel
theorem dX4_old_0 : decode cX4_old 0 = .ok (.aload_n 0, 1) := by decide +kernel
theorem dX4_old_1 : decode cX4_old 1 = .ok (.invokevirtual 237, 3) := by decide +kernel
theorem dX4_old_4 : decode cX4_old 4 = .ok (.ireturn, 1) := by decide +kernel
theorem dX4_oldAt_0 : decode cX4_oldAt 0 = .ok (.aload_n 0, 1) := by decide +kernel
theorem dX4_oldAt_1 : decode cX4_oldAt 1 = .ok (.invokevirtual 237, 3) := by decide +kernel
theorem dX4_oldAt_4 : decode cX4_oldAt 4 = .ok (.istore_n 2, 1) := by decide +kernel
theorem dX4_oldAt_5 : decode cX4_oldAt 5 = .ok (.iload_n 1, 1) := by decide +kernel
theorem dX4_oldAt_6 : decode cX4_oldAt 6 = .ok (.ifCond .lt 26, 3) := by decide +kernel
theorem dX4_oldAt_9 : decode cX4_oldAt 9 = .ok (.iload_n 1, 1) := by decide +kernel
theorem dX4_oldAt_10 : decode cX4_oldAt 10 = .ok (.iload_n 2, 1) := by decide +kernel
theorem dX4_oldAt_11 : decode cX4_oldAt 11 = .ok (.if_icmp .ge 21, 3) := by decide +kernel
theorem dX4_oldAt_14 : decode cX4_oldAt 14 = .ok (.iload_n 1, 1) := by decide +kernel
theorem dX4_oldAt_15 : decode cX4_oldAt 15 = .ok (.aload_n 0, 1) := by decide +kernel
theorem dX4_oldAt_16 : decode cX4_oldAt 16 = .ok (.getfield 53, 3) := by decide +kernel
theorem dX4_oldAt_19 : decode cX4_oldAt 19 = .ok (.arraylength, 1) := by decide +kernel
theorem dX4_oldAt_20 : decode cX4_oldAt 20 = .ok (.if_icmp .ge 12, 3) := by decide +kernel
theorem dX4_oldAt_23 : decode cX4_oldAt 23 = .ok (.aload_n 0, 1) := by decide +kernel
theorem dX4_oldAt_24 : decode cX4_oldAt 24 = .ok (.getfield 53, 3) := by decide +kernel
theorem dX4_oldAt_27 : decode cX4_oldAt 27 = .ok (.iload_n 1, 1) := by decide +kernel
theorem dX4_oldAt_28 : decode cX4_oldAt 28 = .ok (.aaload, 1) := by decide +kernel
theorem dX4_oldAt_29 : decode cX4_oldAt 29 = .ok (.goto 4, 3) := by decide +kernel
theorem dX4_oldAt_32 : decode cX4_oldAt 32 = .ok (.aconst_null, 1) := by decide +kernel
theorem dX4_oldAt_33 : decode cX4_oldAt 33 = .ok (.astore_n 3, 1) := by decide +kernel
theorem dX4_oldAt_34 : decode cX4_oldAt 34 = .ok (.aload_n 3, 1) := by decide +kernel
theorem dX4_oldAt_35 : decode cX4_oldAt 35 = .ok (.ifnonnull 13, 3) := by decide +kernel
theorem dX4_oldAt_38 : decode cX4_oldAt 38 = .ok (.new 240, 3) := by decide +kernel
theorem dX4_oldAt_41 : decode cX4_oldAt 41 = .ok (.dup, 1) := by decide +kernel
theorem dX4_oldAt_42 : decode cX4_oldAt 42 = .ok (.ldc 242, 2) := by decide +kernel
theorem dX4_oldAt_44 : decode cX4_oldAt 44 = .ok (.invokespecial 244, 3) := by decide +kernel
theorem dX4_oldAt_47 : decode cX4_oldAt 47 = .ok (.athrow, 1) := by decide +kernel
theorem dX4_oldAt_48 : decode cX4_oldAt 48 = .ok (.aload_n 3, 1) := by decide +kernel
theorem dX4_oldAt_49 : decode cX4_oldAt 49 = .ok (.getfield 216, 3) := by decide +kernel
theorem dX4_oldAt_52 : decode cX4_oldAt 52 = .ok (.ireturn, 1) := by decide +kernel
theorem dX4_imageAt_0 : decode cX4_imageAt 0 = .ok (.iload_n 1, 1) := by decide +kernel
theorem dX4_imageAt_1 : decode cX4_imageAt 1 = .ok (.ifCond .lt 21, 3) := by decide +kernel
theorem dX4_imageAt_4 : decode cX4_imageAt 4 = .ok (.iload_n 1, 1) := by decide +kernel
theorem dX4_imageAt_5 : decode cX4_imageAt 5 = .ok (.aload_n 0, 1) := by decide +kernel
theorem dX4_imageAt_6 : decode cX4_imageAt 6 = .ok (.getfield 25, 3) := by decide +kernel
theorem dX4_imageAt_9 : decode cX4_imageAt 9 = .ok (.arraylength, 1) := by decide +kernel
theorem dX4_imageAt_10 : decode cX4_imageAt 10 = .ok (.if_icmp .ge 12, 3) := by decide +kernel
theorem dX4_imageAt_13 : decode cX4_imageAt 13 = .ok (.aload_n 0, 1) := by decide +kernel
theorem dX4_imageAt_14 : decode cX4_imageAt 14 = .ok (.getfield 25, 3) := by decide +kernel
theorem dX4_imageAt_17 : decode cX4_imageAt 17 = .ok (.iload_n 1, 1) := by decide +kernel
theorem dX4_imageAt_18 : decode cX4_imageAt 18 = .ok (.aaload, 1) := by decide +kernel
theorem dX4_imageAt_19 : decode cX4_imageAt 19 = .ok (.goto 4, 3) := by decide +kernel
theorem dX4_imageAt_22 : decode cX4_imageAt 22 = .ok (.aconst_null, 1) := by decide +kernel
theorem dX4_imageAt_23 : decode cX4_imageAt 23 = .ok (.astore_n 2, 1) := by decide +kernel
theorem dX4_imageAt_24 : decode cX4_imageAt 24 = .ok (.aload_n 2, 1) := by decide +kernel
theorem dX4_imageAt_25 : decode cX4_imageAt 25 = .ok (.ifnonnull 13, 3) := by decide +kernel
theorem dX4_imageAt_28 : decode cX4_imageAt 28 = .ok (.new 240, 3) := by decide +kernel
theorem dX4_imageAt_31 : decode cX4_imageAt 31 = .ok (.dup, 1) := by decide +kernel
theorem dX4_imageAt_32 : decode cX4_imageAt 32 = .ok (.ldc 245, 2) := by decide +kernel
theorem dX4_imageAt_34 : decode cX4_imageAt 34 = .ok (.invokespecial 244, 3) := by decide +kernel
theorem dX4_imageAt_37 : decode cX4_imageAt 37 = .ok (.athrow, 1) := by decide +kernel
theorem dX4_imageAt_38 : decode cX4_imageAt 38 = .ok (.aload_n 2, 1) := by decide +kernel
theorem dX4_imageAt_39 : decode cX4_imageAt 39 = .ok (.areturn, 1) := by decide +kernel
theorem dX4_topOfParent_0 : decode cX4_topOfParent 0 = .ok (.aload_n 0, 1) := by decide +kernel
theorem dX4_topOfParent_1 : decode cX4_topOfParent 1 = .ok (.getfield 99, 3) := by decide +kernel
theorem dX4_topOfParent_4 : decode cX4_topOfParent 4 = .ok (.ifnull 13, 3) := by decide +kernel
theorem dX4_topOfParent_7 : decode cX4_topOfParent 7 = .ok (.aload_n 0, 1) := by decide +kernel
theorem dX4_topOfParent_8 : decode cX4_topOfParent 8 = .ok (.getfield 99, 3) := by decide +kernel
theorem dX4_topOfParent_11 : decode cX4_topOfParent 11 = .ok (.getfield 103, 3) := by decide +kernel
theorem dX4_topOfParent_14 : decode cX4_topOfParent 14 = .ok (.ifnonnull 7, 3) := by decide +kernel
theorem dX4_topOfParent_17 : decode cX4_topOfParent 17 = .ok (.iconst (-1), 1) := by decide +kernel
