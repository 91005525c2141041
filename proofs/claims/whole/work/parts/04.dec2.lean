/-! decode rows (printed), 2 -/
theorem dX4_bakeFor_51 : decode cX4_bakeFor 51 = .ok (.iinc 4 (-1), 3) := by decide +kernel
theorem dX4_bakeFor_54 : decode cX4_bakeFor 54 = .ok (.goto (-45), 3) := by decide +kernel
theorem dX4_bakeFor_57 : decode cX4_bakeFor 57 = .ok (.aconst_null, 1) := by decide +kernel
theorem dX4_bakeFor_58 : decode cX4_bakeFor 58 = .ok (.areturn, 1) := by decide +kernel
theorem dX4_canStart_0 : decode cX4_canStart 0 = .ok (.aload_n 1, 1) := by decide +kernel
theorem dX4_canStart_1 : decode cX4_canStart 1 = .ok (.iload_n 2, 1) := by decide +kernel
theorem dX4_canStart_2 : decode cX4_canStart 2 = .ok (.invokevirtual 172, 3) := by decide +kernel
theorem dX4_canStart_5 : decode cX4_canStart 5 = .ok (.istore 4, 2) := by decide +kernel
theorem dX4_canStart_7 : decode cX4_canStart 7 = .ok (.iload 4, 2) := by decide +kernel
theorem dX4_canStart_9 : decode cX4_canStart 9 = .ok (.iconst (-1), 1) := by decide +kernel
theorem dX4_canStart_10 : decode cX4_canStart 10 = .ok (.if_icmp .eq 16, 3) := by decide +kernel
theorem dX4_canStart_13 : decode cX4_canStart 13 = .ok (.iload 4, 2) := by decide +kernel
theorem dX4_canStart_15 : decode cX4_canStart 15 = .ok (.aload_n 0, 1) := by decide +kernel
theorem dX4_canStart_16 : decode cX4_canStart 16 = .ok (.getfield 178, 3) := by decide +kernel
theorem dX4_canStart_19 : decode cX4_canStart 19 = .ok (.if_icmp .gt 7, 3) := by decide +kernel
theorem dX4_canStart_22 : decode cX4_canStart 22 = .ok (.iconst 1, 1) := by decide +kernel
theorem dX4_canStart_23 : decode cX4_canStart 23 = .ok (.goto 4, 3) := by decide +kernel
theorem dX4_canStart_26 : decode cX4_canStart 26 = .ok (.iconst 0, 1) := by decide +kernel
theorem dX4_canStart_27 : decode cX4_canStart 27 = .ok (.istore 5, 2) := by decide +kernel
theorem dX4_canStart_29 : decode cX4_canStart 29 = .ok (.iload 5, 2) := by decide +kernel
theorem dX4_canStart_31 : decode cX4_canStart 31 = .ok (.ifCond .eq 37, 3) := by decide +kernel
theorem dX4_canStart_34 : decode cX4_canStart 34 = .ok (.aload_n 1, 1) := by decide +kernel
theorem dX4_canStart_35 : decode cX4_canStart 35 = .ok (.getfield 157, 3) := by decide +kernel
theorem dX4_canStart_38 : decode cX4_canStart 38 = .ok (.ifCond .ne 30, 3) := by decide +kernel
theorem dX4_canStart_41 : decode cX4_canStart 41 = .ok (.aload_n 1, 1) := by decide +kernel
theorem dX4_canStart_42 : decode cX4_canStart 42 = .ok (.getfield 148, 3) := by decide +kernel
theorem dX4_canStart_45 : decode cX4_canStart 45 = .ok (.ifCond .ne 23, 3) := by decide +kernel
theorem dX4_canStart_48 : decode cX4_canStart 48 = .ok (.aload_n 0, 1) := by decide +kernel
theorem dX4_canStart_49 : decode cX4_canStart 49 = .ok (.aload_n 1, 1) := by decide +kernel
theorem dX4_canStart_50 : decode cX4_canStart 50 = .ok (.invokevirtual 199, 3) := by decide +kernel
theorem dX4_canStart_53 : decode cX4_canStart 53 = .ok (.ifCond .ne 15, 3) := by decide +kernel
theorem dX4_canStart_56 : decode cX4_canStart 56 = .ok (.aload_n 1, 1) := by decide +kernel
theorem dX4_canStart_57 : decode cX4_canStart 57 = .ok (.getfield 165, 3) := by decide +kernel
theorem dX4_canStart_60 : decode cX4_canStart 60 = .ok (.iload_n 3, 1) := by decide +kernel
theorem dX4_canStart_61 : decode cX4_canStart 61 = .ok (.if_icmp .lt 7, 3) := by decide +kernel
theorem dX4_canStart_64 : decode cX4_canStart 64 = .ok (.iconst 1, 1) := by decide +kernel
theorem dX4_canStart_65 : decode cX4_canStart 65 = .ok (.goto 4, 3) := by decide +kernel
theorem dX4_canStart_68 : decode cX4_canStart 68 = .ok (.iconst 0, 1) := by decide +kernel
theorem dX4_canStart_69 : decode cX4_canStart 69 = .ok (.ireturn, 1) := by decide +kernel
theorem dX4_mustRenew_0 : decode cX4_mustRenew 0 = .ok (.aload_n 1, 1) := by decide +kernel
theorem dX4_mustRenew_1 : decode cX4_mustRenew 1 = .ok (.getfield 230, 3) := by decide +kernel
theorem dX4_mustRenew_4 : decode cX4_mustRenew 4 = .ok (.ifnonnull 5, 3) := by decide +kernel
theorem dX4_mustRenew_7 : decode cX4_mustRenew 7 = .ok (.iconst 0, 1) := by decide +kernel
theorem dX4_mustRenew_8 : decode cX4_mustRenew 8 = .ok (.ireturn, 1) := by decide +kernel
theorem dX4_mustRenew_9 : decode cX4_mustRenew 9 = .ok (.aload_n 1, 1) := by decide +kernel
theorem dX4_mustRenew_10 : decode cX4_mustRenew 10 = .ok (.getfield 230, 3) := by decide +kernel
theorem dX4_mustRenew_13 : decode cX4_mustRenew 13 = .ok (.getfield 157, 3) := by decide +kernel
theorem dX4_mustRenew_16 : decode cX4_mustRenew 16 = .ok (.ifCond .ne 14, 3) := by decide +kernel
theorem dX4_mustRenew_19 : decode cX4_mustRenew 19 = .ok (.aload_n 0, 1) := by decide +kernel
theorem dX4_mustRenew_20 : decode cX4_mustRenew 20 = .ok (.aload_n 1, 1) := by decide +kernel
theorem dX4_mustRenew_21 : decode cX4_mustRenew 21 = .ok (.getfield 230, 3) := by decide +kernel
theorem dX4_mustRenew_24 : decode cX4_mustRenew 24 = .ok (.invokevirtual 199, 3) := by decide +kernel
theorem dX4_mustRenew_27 : decode cX4_mustRenew 27 = .ok (.ifCond .eq 5, 3) := by decide +kernel
theorem dX4_mustRenew_30 : decode cX4_mustRenew 30 = .ok (.iconst 1, 1) := by decide +kernel
theorem dX4_mustRenew_31 : decode cX4_mustRenew 31 = .ok (.ireturn, 1) := by decide +kernel
theorem dX4_mustRenew_32 : decode cX4_mustRenew 32 = .ok (.aload_n 0, 1) := by decide +kernel
theorem dX4_mustRenew_33 : decode cX4_mustRenew 33 = .ok (.aload_n 1, 1) := by decide +kernel
theorem dX4_mustRenew_34 : decode cX4_mustRenew 34 = .ok (.getfield 221, 3) := by decide +kernel
theorem dX4_mustRenew_37 : decode cX4_mustRenew 37 = .ok (.aload_n 1, 1) := by decide +kernel
theorem dX4_mustRenew_38 : decode cX4_mustRenew 38 = .ok (.getfield 224, 3) := by decide +kernel
theorem dX4_mustRenew_41 : decode cX4_mustRenew 41 = .ok (.aload_n 1, 1) := by decide +kernel
theorem dX4_mustRenew_42 : decode cX4_mustRenew 42 = .ok (.getfield 227, 3) := by decide +kernel
theorem dX4_mustRenew_45 : decode cX4_mustRenew 45 = .ok (.invokevirtual 204, 3) := by decide +kernel
theorem dX4_mustRenew_48 : decode cX4_mustRenew 48 = .ok (.astore_n 2, 1) := by decide +kernel
theorem dX4_mustRenew_49 : decode cX4_mustRenew 49 = .ok (.aload_n 2, 1) := by decide +kernel
theorem dX4_mustRenew_50 : decode cX4_mustRenew 50 = .ok (.ifnull 15, 3) := by decide +kernel
theorem dX4_mustRenew_53 : decode cX4_mustRenew 53 = .ok (.aload_n 2, 1) := by decide +kernel
theorem dX4_mustRenew_54 : decode cX4_mustRenew 54 = .ok (.aload_n 1, 1) := by decide +kernel
theorem dX4_mustRenew_55 : decode cX4_mustRenew 55 = .ok (.getfield 230, 3) := by decide +kernel
theorem dX4_mustRenew_58 : decode cX4_mustRenew 58 = .ok (.if_acmp .eq 7, 3) := by decide +kernel
theorem dX4_mustRenew_61 : decode cX4_mustRenew 61 = .ok (.iconst 1, 1) := by decide +kernel
theorem dX4_mustRenew_62 : decode cX4_mustRenew 62 = .ok (.goto 4, 3) := by decide +kernel
theorem dX4_mustRenew_65 : decode cX4_mustRenew 65 = .ok (.iconst 0, 1) := by decide +kernel
theorem dX4_mustRenew_66 : decode cX4_mustRenew 66 = .ok (.ireturn, 1) := by decide +kernel
theorem dX4_fillWaiting_0 : decode cX4_fillWaiting 0 = .ok (.iconst 0, 1) := by decide +kernel
theorem dX4_fillWaiting_1 : decode cX4_fillWaiting 1 = .ok (.istore_n 1, 1) := by decide +kernel
theorem dX4_fillWaiting_2 : decode cX4_fillWaiting 2 = .ok (.aload_n 0, 1) := by decide +kernel
theorem dX4_fillWaiting_3 : decode cX4_fillWaiting 3 = .ok (.getfield 37, 3) := by decide +kernel
theorem dX4_fillWaiting_6 : decode cX4_fillWaiting 6 = .ok (.astore_n 2, 1) := by decide +kernel
theorem dX4_fillWaiting_7 : decode cX4_fillWaiting 7 = .ok (.aload_n 2, 1) := by decide +kernel
theorem dX4_fillWaiting_8 : decode cX4_fillWaiting 8 = .ok (.arraylength, 1) := by decide +kernel
theorem dX4_fillWaiting_9 : decode cX4_fillWaiting 9 = .ok (.istore_n 3, 1) := by decide +kernel
theorem dX4_fillWaiting_10 : decode cX4_fillWaiting 10 = .ok (.iconst 0, 1) := by decide +kernel
theorem dX4_fillWaiting_11 : decode cX4_fillWaiting 11 = .ok (.istore 4, 2) := by decide +kernel
theorem dX4_fillWaiting_13 : decode cX4_fillWaiting 13 = .ok (.iload 4, 2) := by decide +kernel
theorem dX4_fillWaiting_15 : decode cX4_fillWaiting 15 = .ok (.iload_n 3, 1) := by decide +kernel
theorem dX4_fillWaiting_16 : decode cX4_fillWaiting 16 = .ok (.if_icmp .ge 39, 3) := by decide +kernel
theorem dX4_fillWaiting_19 : decode cX4_fillWaiting 19 = .ok (.aload_n 2, 1) := by decide +kernel
theorem dX4_fillWaiting_20 : decode cX4_fillWaiting 20 = .ok (.iload 4, 2) := by decide +kernel
theorem dX4_fillWaiting_22 : decode cX4_fillWaiting 22 = .ok (.aaload, 1) := by decide +kernel
theorem dX4_fillWaiting_23 : decode cX4_fillWaiting 23 = .ok (.astore 5, 2) := by decide +kernel
theorem dX4_fillWaiting_25 : decode cX4_fillWaiting 25 = .ok (.aload 5, 2) := by decide +kernel
theorem dX4_fillWaiting_27 : decode cX4_fillWaiting 27 = .ok (.ifnull 22, 3) := by decide +kernel
theorem dX4_fillWaiting_30 : decode cX4_fillWaiting 30 = .ok (.aload_n 0, 1) := by decide +kernel
theorem dX4_fillWaiting_31 : decode cX4_fillWaiting 31 = .ok (.aload 5, 2) := by decide +kernel
theorem dX4_fillWaiting_33 : decode cX4_fillWaiting 33 = .ok (.invokevirtual 307, 3) := by decide +kernel
theorem dX4_fillWaiting_36 : decode cX4_fillWaiting 36 = .ok (.ifCond .eq 13, 3) := by decide +kernel
theorem dX4_fillWaiting_39 : decode cX4_fillWaiting 39 = .ok (.aload_n 0, 1) := by decide +kernel
theorem dX4_fillWaiting_40 : decode cX4_fillWaiting 40 = .ok (.aload 5, 2) := by decide +kernel
theorem dX4_fillWaiting_42 : decode cX4_fillWaiting 42 = .ok (.iload_n 1, 1) := by decide +kernel
theorem dX4_fillWaiting_43 : decode cX4_fillWaiting 43 = .ok (.invokevirtual 311, 3) := by decide +kernel
theorem dX4_fillWaiting_46 : decode cX4_fillWaiting 46 = .ok (.iinc 1 1, 3) := by decide +kernel
theorem dX4_fillWaiting_49 : decode cX4_fillWaiting 49 = .ok (.iinc 4 1, 3) := by decide +kernel
theorem dX4_fillWaiting_52 : decode cX4_fillWaiting 52 = .ok (.goto (-39), 3) := by decide +kernel
theorem dX4_fillWaiting_55 : decode cX4_fillWaiting 55 = .ok (.iload_n 1, 1) := by decide +kernel
theorem dX4_fillWaiting_56 : decode cX4_fillWaiting 56 = .ok (.ireturn, 1) := by decide +kernel
theorem dX4_insertWaiting_0 : decode cX4_insertWaiting 0 = .ok (.iload_n 2, 1) := by decide +kernel
theorem dX4_insertWaiting_1 : decode cX4_insertWaiting 1 = .ok (.istore_n 3, 1) := by decide +kernel
theorem dX4_insertWaiting_2 : decode cX4_insertWaiting 2 = .ok (.iload_n 3, 1) := by decide +kernel
theorem dX4_insertWaiting_3 : decode cX4_insertWaiting 3 = .ok (.ifCond .le 50, 3) := by decide +kernel
theorem dX4_insertWaiting_6 : decode cX4_insertWaiting 6 = .ok (.iload_n 3, 1) := by decide +kernel
theorem dX4_insertWaiting_7 : decode cX4_insertWaiting 7 = .ok (.aload_n 0, 1) := by decide +kernel
theorem dX4_insertWaiting_8 : decode cX4_insertWaiting 8 = .ok (.getfield 53, 3) := by decide +kernel
theorem dX4_insertWaiting_11 : decode cX4_insertWaiting 11 = .ok (.arraylength, 1) := by decide +kernel
theorem dX4_insertWaiting_12 : decode cX4_insertWaiting 12 = .ok (.if_icmp .ge 41, 3) := by decide +kernel
theorem dX4_insertWaiting_15 : decode cX4_insertWaiting 15 = .ok (.aload_n 1, 1) := by decide +kernel
theorem dX4_insertWaiting_16 : decode cX4_insertWaiting 16 = .ok (.getfield 230, 3) := by decide +kernel
theorem dX4_insertWaiting_19 : decode cX4_insertWaiting 19 = .ok (.aload_n 0, 1) := by decide +kernel
theorem dX4_insertWaiting_20 : decode cX4_insertWaiting 20 = .ok (.getfield 53, 3) := by decide +kernel
theorem dX4_insertWaiting_23 : decode cX4_insertWaiting 23 = .ok (.iload_n 3, 1) := by decide +kernel
theorem dX4_insertWaiting_24 : decode cX4_insertWaiting 24 = .ok (.iconst 1, 1) := by decide +kernel
theorem dX4_insertWaiting_25 : decode cX4_insertWaiting 25 = .ok (.isub, 1) := by decide +kernel
theorem dX4_insertWaiting_26 : decode cX4_insertWaiting 26 = .ok (.aaload, 1) := by decide +kernel
theorem dX4_insertWaiting_27 : decode cX4_insertWaiting 27 = .ok (.invokestatic 315, 3) := by decide +kernel
theorem dX4_insertWaiting_30 : decode cX4_insertWaiting 30 = .ok (.ifCond .eq 23, 3) := by decide +kernel
theorem dX4_insertWaiting_33 : decode cX4_insertWaiting 33 = .ok (.aload_n 0, 1) := by decide +kernel
theorem dX4_insertWaiting_34 : decode cX4_insertWaiting 34 = .ok (.getfield 53, 3) := by decide +kernel
theorem dX4_insertWaiting_37 : decode cX4_insertWaiting 37 = .ok (.iload_n 3, 1) := by decide +kernel
theorem dX4_insertWaiting_38 : decode cX4_insertWaiting 38 = .ok (.aload_n 0, 1) := by decide +kernel
theorem dX4_insertWaiting_39 : decode cX4_insertWaiting 39 = .ok (.getfield 53, 3) := by decide +kernel
theorem dX4_insertWaiting_42 : decode cX4_insertWaiting 42 = .ok (.iload_n 3, 1) := by decide +kernel
theorem dX4_insertWaiting_43 : decode cX4_insertWaiting 43 = .ok (.iconst 1, 1) := by decide +kernel
theorem dX4_insertWaiting_44 : decode cX4_insertWaiting 44 = .ok (.isub, 1) := by decide +kernel
theorem dX4_insertWaiting_45 : decode cX4_insertWaiting 45 = .ok (.aaload, 1) := by decide +kernel
theorem dX4_insertWaiting_46 : decode cX4_insertWaiting 46 = .ok (.aastore, 1) := by decide +kernel
theorem dX4_insertWaiting_47 : decode cX4_insertWaiting 47 = .ok (.iinc 3 (-1), 3) := by decide +kernel
theorem dX4_insertWaiting_50 : decode cX4_insertWaiting 50 = .ok (.goto (-48), 3) := by decide +kernel
theorem dX4_insertWaiting_53 : decode cX4_insertWaiting 53 = .ok (.iload_n 3, 1) := by decide +kernel
theorem dX4_insertWaiting_54 : decode cX4_insertWaiting 54 = .ok (.ifCond .lt 19, 3) := by decide +kernel
theorem dX4_insertWaiting_57 : decode cX4_insertWaiting 57 = .ok (.iload_n 3, 1) := by decide +kernel
theorem dX4_insertWaiting_58 : decode cX4_insertWaiting 58 = .ok (.aload_n 0, 1) := by decide +kernel
theorem dX4_insertWaiting_59 : decode cX4_insertWaiting 59 = .ok (.getfield 53, 3) := by decide +kernel
theorem dX4_insertWaiting_62 : decode cX4_insertWaiting 62 = .ok (.arraylength, 1) := by decide +kernel
theorem dX4_insertWaiting_63 : decode cX4_insertWaiting 63 = .ok (.if_icmp .ge 10, 3) := by decide +kernel
theorem dX4_insertWaiting_66 : decode cX4_insertWaiting 66 = .ok (.aload_n 0, 1) := by decide +kernel
theorem dX4_insertWaiting_67 : decode cX4_insertWaiting 67 = .ok (.getfield 53, 3) := by decide +kernel
theorem dX4_insertWaiting_70 : decode cX4_insertWaiting 70 = .ok (.iload_n 3, 1) := by decide +kernel
theorem dX4_insertWaiting_71 : decode cX4_insertWaiting 71 = .ok (.aload_n 1, 1) := by decide +kernel
theorem dX4_insertWaiting_72 : decode cX4_insertWaiting 72 = .ok (.aastore, 1) := by decide +kernel
theorem dX4_insertWaiting_73 : decode cX4_insertWaiting 73 = .ok (.return_, 1) := by decide +kernel
theorem dX4_isAhead_0 : decode cX4_isAhead 0 = .ok (.aload_n 0, 1) := by decide +kernel
theorem dX4_isAhead_1 : decode cX4_isAhead 1 = .ok (.ifnull 14, 3) := by decide +kernel
theorem dX4_isAhead_4 : decode cX4_isAhead 4 = .ok (.aload_n 1, 1) := by decide +kernel
theorem dX4_isAhead_5 : decode cX4_isAhead 5 = .ok (.ifnull 10, 3) := by decide +kernel
theorem dX4_isAhead_8 : decode cX4_isAhead 8 = .ok (.aload_n 1, 1) := by decide +kernel
theorem dX4_isAhead_9 : decode cX4_isAhead 9 = .ok (.getfield 230, 3) := by decide +kernel
theorem dX4_isAhead_12 : decode cX4_isAhead 12 = .ok (.ifnonnull 5, 3) := by decide +kernel
theorem dX4_isAhead_15 : decode cX4_isAhead 15 = .ok (.iconst 0, 1) := by decide +kernel
theorem dX4_isAhead_16 : decode cX4_isAhead 16 = .ok (.ireturn, 1) := by decide +kernel
theorem dX4_isAhead_17 : decode cX4_isAhead 17 = .ok (.aload_n 0, 1) := by decide +kernel
theorem dX4_isAhead_18 : decode cX4_isAhead 18 = .ok (.getfield 157, 3) := by decide +kernel
theorem dX4_isAhead_21 : decode cX4_isAhead 21 = .ok (.aload_n 1, 1) := by decide +kernel
theorem dX4_isAhead_22 : decode cX4_isAhead 22 = .ok (.getfield 230, 3) := by decide +kernel
theorem dX4_isAhead_25 : decode cX4_isAhead 25 = .ok (.getfield 157, 3) := by decide +kernel
theorem dX4_isAhead_28 : decode cX4_isAhead 28 = .ok (.if_icmp .eq 8, 3) := by decide +kernel
theorem dX4_isAhead_31 : decode cX4_isAhead 31 = .ok (.aload_n 0, 1) := by decide +kernel
theorem dX4_isAhead_32 : decode cX4_isAhead 32 = .ok (.getfield 157, 3) := by decide +kernel
theorem dX4_isAhead_35 : decode cX4_isAhead 35 = .ok (.ireturn, 1) := by decide +kernel
theorem dX4_isAhead_36 : decode cX4_isAhead 36 = .ok (.aload_n 0, 1) := by decide +kernel
theorem dX4_isAhead_37 : decode cX4_isAhead 37 = .ok (.getfield 295, 3) := by decide +kernel
theorem dX4_isAhead_40 : decode cX4_isAhead 40 = .ok (.aload_n 1, 1) := by decide +kernel
theorem dX4_isAhead_41 : decode cX4_isAhead 41 = .ok (.getfield 230, 3) := by decide +kernel
theorem dX4_isAhead_44 : decode cX4_isAhead 44 = .ok (.getfield 295, 3) := by decide +kernel
theorem dX4_isAhead_47 : decode cX4_isAhead 47 = .ok (.if_icmp .ge 7, 3) := by decide +kernel
theorem dX4_isAhead_50 : decode cX4_isAhead 50 = .ok (.iconst 1, 1) := by decide +kernel
theorem dX4_isAhead_51 : decode cX4_isAhead 51 = .ok (.goto 4, 3) := by decide +kernel
theorem dX4_isAhead_54 : decode cX4_isAhead 54 = .ok (.iconst 0, 1) := by decide +kernel
theorem dX4_isAhead_55 : decode cX4_isAhead 55 = .ok (.ireturn, 1) := by decide +kernel
theorem dX4_at_0 : decode cX4_at 0 = .ok (.iload_n 1, 1) := by decide +kernel
theorem dX4_at_1 : decode cX4_at 1 = .ok (.ifCond .lt 15, 3) := by decide +kernel
theorem dX4_at_4 : decode cX4_at 4 = .ok (.iload_n 1, 1) := by decide +kernel
theorem dX4_at_5 : decode cX4_at 5 = .ok (.aload_n 0, 1) := by decide +kernel
theorem dX4_at_6 : decode cX4_at 6 = .ok (.arraylength, 1) := by decide +kernel
theorem dX4_at_7 : decode cX4_at 7 = .ok (.if_icmp .ge 9, 3) := by decide +kernel
theorem dX4_at_10 : decode cX4_at 10 = .ok (.aload_n 0, 1) := by decide +kernel
theorem dX4_at_11 : decode cX4_at 11 = .ok (.iload_n 1, 1) := by decide +kernel
theorem dX4_at_12 : decode cX4_at 12 = .ok (.iaload, 1) := by decide +kernel
theorem dX4_at_13 : decode cX4_at 13 = .ok (.goto 4, 3) := by decide +kernel
theorem dX4_at_16 : decode cX4_at 16 = .ok (.iconst (-1), 1) := by decide +kernel
theorem dX4_at_17 : decode cX4_at 17 = .ok (.ireturn, 1) := by decide +kernel
theorem dX5_init_0 : decode cX5_init 0 = .ok (.aload_n 0, 1) := by decide +kernel
theorem dX5_init_1 : decode cX5_init 1 = .ok (.invokespecial 1, 3) := by decide +kernel
theorem dX5_init_4 : decode cX5_init 4 = .ok (.aload_n 0, 1) := by decide +kernel
theorem dX5_init_5 : decode cX5_init 5 = .ok (.bipush 10, 2) := by decide +kernel
theorem dX5_init_7 : decode cX5_init 7 = .ok (.newarray .int, 2) := by decide +kernel
theorem dX5_init_9 : decode cX5_init 9 = .ok (.putfield 7, 3) := by decide +kernel
theorem dX5_init_12 : decode cX5_init 12 = .ok (.aload_n 0, 1) := by decide +kernel
theorem dX5_init_13 : decode cX5_init 13 = .ok (.bipush 10, 2) := by decide +kernel
theorem dX5_init_15 : decode cX5_init 15 = .ok (.newarray .int, 2) := by decide +kernel
theorem dX5_init_17 : decode cX5_init 17 = .ok (.putfield 13, 3) := by decide +kernel
theorem dX5_init_20 : decode cX5_init 20 = .ok (.aload_n 0, 1) := by decide +kernel
theorem dX5_init_21 : decode cX5_init 21 = .ok (.bipush 10, 2) := by decide +kernel
theorem dX5_init_23 : decode cX5_init 23 = .ok (.newarray .int, 2) := by decide +kernel
theorem dX5_init_25 : decode cX5_init 25 = .ok (.putfield 16, 3) := by decide +kernel
theorem dX5_init_28 : decode cX5_init 28 = .ok (.aload_n 0, 1) := by decide +kernel
theorem dX5_init_29 : decode cX5_init 29 = .ok (.bipush 50, 2) := by decide +kernel
theorem dX5_init_31 : decode cX5_init 31 = .ok (.newarray .int, 2) := by decide +kernel
theorem dX5_init_33 : decode cX5_init 33 = .ok (.putfield 19, 3) := by decide +kernel
theorem dX5_init_36 : decode cX5_init 36 = .ok (.aload_n 0, 1) := by decide +kernel
theorem dX5_init_37 : decode cX5_init 37 = .ok (.bipush 10, 2) := by decide +kernel
theorem dX5_init_39 : decode cX5_init 39 = .ok (.newarray .int, 2) := by decide +kernel
theorem dX5_init_41 : decode cX5_init 41 = .ok (.putfield 22, 3) := by decide +kernel
theorem dX5_init_44 : decode cX5_init 44 = .ok (.aload_n 0, 1) := by decide +kernel
theorem dX5_init_45 : decode cX5_init 45 = .ok (.bipush 10, 2) := by decide +kernel
theorem dX5_init_47 : decode cX5_init 47 = .ok (.newarray .int, 2) := by decide +kernel
theorem dX5_init_49 : decode cX5_init 49 = .ok (.putfield 25, 3) := by decide +kernel
theorem dX5_init_52 : decode cX5_init 52 = .ok (.aload_n 0, 1) := by decide +kernel
theorem dX5_init_53 : decode cX5_init 53 = .ok (.sipush 300, 3) := by decide +kernel
theorem dX5_init_56 : decode cX5_init 56 = .ok (.newarray .int, 2) := by decide +kernel
theorem dX5_init_58 : decode cX5_init 58 = .ok (.putfield 28, 3) := by decide +kernel
theorem dX5_init_61 : decode cX5_init 61 = .ok (.aload_n 0, 1) := by decide +kernel
theorem dX5_init_62 : decode cX5_init 62 = .ok (.sipush 300, 3) := by decide +kernel
theorem dX5_init_65 : decode cX5_init 65 = .ok (.newarray .int, 2) := by decide +kernel
theorem dX5_init_67 : decode cX5_init 67 = .ok (.putfield 31, 3) := by decide +kernel
theorem dX5_init_70 : decode cX5_init 70 = .ok (.aload_n 0, 1) := by decide +kernel
theorem dX5_init_71 : decode cX5_init 71 = .ok (.sipush 300, 3) := by decide +kernel
theorem dX5_init_74 : decode cX5_init 74 = .ok (.newarray .int, 2) := by decide +kernel
theorem dX5_init_76 : decode cX5_init 76 = .ok (.putfield 34, 3) := by decide +kernel
theorem dX5_init_79 : decode cX5_init 79 = .ok (.aload_n 0, 1) := by decide +kernel
theorem dX5_init_80 : decode cX5_init 80 = .ok (.bipush 60, 2) := by decide +kernel
theorem dX5_init_82 : decode cX5_init 82 = .ok (.newarray .int, 2) := by decide +kernel
theorem dX5_init_84 : decode cX5_init 84 = .ok (.putfield 37, 3) := by decide +kernel
theorem dX5_init_87 : decode cX5_init 87 = .ok (.aload_n 0, 1) := by decide +kernel
theorem dX5_init_88 : decode cX5_init 88 = .ok (.bipush 60, 2) := by decide +kernel
theorem dX5_init_90 : decode cX5_init 90 = .ok (.newarray .int, 2) := by decide +kernel
theorem dX5_init_92 : decode cX5_init 92 = .ok (.putfield 40, 3) := by decide +kernel
theorem dX5_init_95 : decode cX5_init 95 = .ok (.aload_n 0, 1) := by decide +kernel
theorem dX5_init_96 : decode cX5_init 96 = .ok (.bipush 60, 2) := by decide +kernel
theorem dX5_init_98 : decode cX5_init 98 = .ok (.newarray .int, 2) := by decide +kernel
theorem dX5_init_100 : decode cX5_init 100 = .ok (.putfield 43, 3) := by decide +kernel
theorem dX5_init_103 : decode cX5_init 103 = .ok (.aload_n 0, 1) := by decide +kernel
theorem dX5_init_104 : decode cX5_init 104 = .ok (.bipush 60, 2) := by decide +kernel
theorem dX5_init_106 : decode cX5_init 106 = .ok (.newarray .int, 2) := by decide +kernel
theorem dX5_init_108 : decode cX5_init 108 = .ok (.putfield 46, 3) := by decide +kernel
theorem dX5_init_111 : decode cX5_init 111 = .ok (.aload_n 0, 1) := by decide +kernel
theorem dX5_init_112 : decode cX5_init 112 = .ok (.bipush 60, 2) := by decide +kernel
theorem dX5_init_114 : decode cX5_init 114 = .ok (.newarray .boolean, 2) := by decide +kernel
theorem dX5_init_116 : decode cX5_init 116 = .ok (.putfield 49, 3) := by decide +kernel
theorem dX5_init_119 : decode cX5_init 119 = .ok (.aload_n 0, 1) := by decide +kernel
theorem dX5_init_120 : decode cX5_init 120 = .ok (.bipush 60, 2) := by decide +kernel
theorem dX5_init_122 : decode cX5_init 122 = .ok (.newarray .boolean, 2) := by decide +kernel
theorem dX5_init_124 : decode cX5_init 124 = .ok (.putfield 53, 3) := by decide +kernel
theorem dX5_init_127 : decode cX5_init 127 = .ok (.aload_n 0, 1) := by decide +kernel
theorem dX5_init_128 : decode cX5_init 128 = .ok (.bipush 60, 2) := by decide +kernel
theorem dX5_init_130 : decode cX5_init 130 = .ok (.newarray .boolean, 2) := by decide +kernel
theorem dX5_init_132 : decode cX5_init 132 = .ok (.putfield 56, 3) := by decide +kernel
theorem dX5_init_135 : decode cX5_init 135 = .ok (.aload_n 0, 1) := by decide +kernel
theorem dX5_init_136 : decode cX5_init 136 = .ok (.sipush 180, 3) := by decide +kernel
theorem dX5_init_139 : decode cX5_init 139 = .ok (.newarray .int, 2) := by decide +kernel
theorem dX5_init_141 : decode cX5_init 141 = .ok (.putfield 59, 3) := by decide +kernel
theorem dX5_init_144 : decode cX5_init 144 = .ok (.aload_n 0, 1) := by decide +kernel
theorem dX5_init_145 : decode cX5_init 145 = .ok (.iconst 3, 1) := by decide +kernel
theorem dX5_init_146 : decode cX5_init 146 = .ok (.newarray .int, 2) := by decide +kernel
theorem dX5_init_148 : decode cX5_init 148 = .ok (.putfield 62, 3) := by decide +kernel
theorem dX5_init_151 : decode cX5_init 151 = .ok (.aload_n 0, 1) := by decide +kernel
theorem dX5_init_152 : decode cX5_init 152 = .ok (.bipush 10, 2) := by decide +kernel
theorem dX5_init_154 : decode cX5_init 154 = .ok (.putfield 65, 3) := by decide +kernel
theorem dX5_init_157 : decode cX5_init 157 = .ok (.aload_n 0, 1) := by decide +kernel
theorem dX5_init_158 : decode cX5_init 158 = .ok (.bipush 20, 2) := by decide +kernel
theorem dX5_init_160 : decode cX5_init 160 = .ok (.putfield 69, 3) := by decide +kernel
theorem dX5_init_163 : decode cX5_init 163 = .ok (.aload_n 0, 1) := by decide +kernel
theorem dX5_init_164 : decode cX5_init 164 = .ok (.bipush 30, 2) := by decide +kernel
theorem dX5_init_166 : decode cX5_init 166 = .ok (.newarray .int, 2) := by decide +kernel
theorem dX5_init_168 : decode cX5_init 168 = .ok (.putfield 72, 3) := by decide +kernel
theorem dX5_init_171 : decode cX5_init 171 = .ok (.aload_n 0, 1) := by decide +kernel
theorem dX5_init_172 : decode cX5_init 172 = .ok (.bipush 30, 2) := by decide +kernel
theorem dX5_init_174 : decode cX5_init 174 = .ok (.newarray .int, 2) := by decide +kernel
theorem dX5_init_176 : decode cX5_init 176 = .ok (.putfield 75, 3) := by decide +kernel
theorem dX5_init_179 : decode cX5_init 179 = .ok (.aload_n 0, 1) := by decide +kernel
theorem dX5_init_180 : decode cX5_init 180 = .ok (.bipush 30, 2) := by decide +kernel
theorem dX5_init_182 : decode cX5_init 182 = .ok (.newarray .int, 2) := by decide +kernel
theorem dX5_init_184 : decode cX5_init 184 = .ok (.putfield 78, 3) := by decide +kernel
theorem dX5_init_187 : decode cX5_init 187 = .ok (.aload_n 0, 1) := by decide +kernel
theorem dX5_init_188 : decode cX5_init 188 = .ok (.bipush 30, 2) := by decide +kernel
theorem dX5_init_190 : decode cX5_init 190 = .ok (.newarray .int, 2) := by decide +kernel
theorem dX5_init_192 : decode cX5_init 192 = .ok (.putfield 81, 3) := by decide +kernel
theorem dX5_init_195 : decode cX5_init 195 = .ok (.aload_n 0, 1) := by decide +kernel
theorem dX5_init_196 : decode cX5_init 196 = .ok (.bipush 10, 2) := by decide +kernel
theorem dX5_init_198 : decode cX5_init 198 = .ok (.newarray .int, 2) := by decide +kernel
theorem dX5_init_200 : decode cX5_init 200 = .ok (.putfield 84, 3) := by decide +kernel
theorem dX5_init_203 : decode cX5_init 203 = .ok (.aload_n 0, 1) := by decide +kernel
theorem dX5_init_204 : decode cX5_init 204 = .ok (.bipush 10, 2) := by decide +kernel
theorem dX5_init_206 : decode cX5_init 206 = .ok (.newarray .int, 2) := by decide +kernel
theorem dX5_init_208 : decode cX5_init 208 = .ok (.putfield 87, 3) := by decide +kernel
theorem dX5_init_211 : decode cX5_init 211 = .ok (.iconst 0, 1) := by decide +kernel
theorem dX5_init_212 : decode cX5_init 212 = .ok (.istore_n 1, 1) := by decide +kernel
theorem dX5_init_213 : decode cX5_init 213 = .ok (.iload_n 1, 1) := by decide +kernel
theorem dX5_init_214 : decode cX5_init 214 = .ok (.iconst 3, 1) := by decide +kernel
theorem dX5_init_215 : decode cX5_init 215 = .ok (.if_icmp .ge 16, 3) := by decide +kernel
theorem dX5_init_218 : decode cX5_init 218 = .ok (.aload_n 0, 1) := by decide +kernel
theorem dX5_init_219 : decode cX5_init 219 = .ok (.getfield 62, 3) := by decide +kernel
theorem dX5_init_222 : decode cX5_init 222 = .ok (.iload_n 1, 1) := by decide +kernel
theorem dX5_init_223 : decode cX5_init 223 = .ok (.iconst 1, 1) := by decide +kernel
theorem dX5_init_224 : decode cX5_init 224 = .ok (.iastore, 1) := by decide +kernel
theorem dX5_init_225 : decode cX5_init 225 = .ok (.iinc 1 1, 3) := by decide +kernel
theorem dX5_init_228 : decode cX5_init 228 = .ok (.goto (-15), 3) := by decide +kernel
theorem dX5_init_231 : decode cX5_init 231 = .ok (.return_, 1) := by decide +kernel
theorem dX5_thrown_0 : decode cX5_thrown 0 = .ok (.aload_n 0, 1) := by decide +kernel
theorem dX5_thrown_1 : decode cX5_thrown 1 = .ok (.getfield 90, 3) := by decide +kernel
theorem dX5_thrown_4 : decode cX5_thrown 4 = .ok (.ireturn, 1) := by decide +kernel
theorem dX5_isFine_0 : decode cX5_isFine 0 = .ok (.aload_n 0, 1) := by decide +kernel
theorem dX5_isFine_1 : decode cX5_isFine 1 = .ok (.iload_n 1, 1) := by decide +kernel
theorem dX5_isFine_2 : decode cX5_isFine 2 = .ok (.putfield 90, 3) := by decide +kernel
theorem dX5_isFine_5 : decode cX5_isFine 5 = .ok (.iload_n 1, 1) := by decide +kernel
theorem dX5_isFine_6 : decode cX5_isFine 6 = .ok (.ifCond .ne 7, 3) := by decide +kernel
theorem dX5_isFine_9 : decode cX5_isFine 9 = .ok (.iconst 1, 1) := by decide +kernel
theorem dX5_isFine_10 : decode cX5_isFine 10 = .ok (.goto 4, 3) := by decide +kernel
theorem dX5_isFine_13 : decode cX5_isFine 13 = .ok (.iconst 0, 1) := by decide +kernel
theorem dX5_isFine_14 : decode cX5_isFine 14 = .ok (.ireturn, 1) := by decide +kernel
theorem dX5_isIn_0 : decode cX5_isIn 0 = .ok (.iload_n 0, 1) := by decide +kernel
theorem dX5_isIn_1 : decode cX5_isIn 1 = .ok (.iload_n 1, 1) := by decide +kernel
theorem dX5_isIn_2 : decode cX5_isIn 2 = .ok (.if_icmp .lt 12, 3) := by decide +kernel
theorem dX5_isIn_5 : decode cX5_isIn 5 = .ok (.iload_n 0, 1) := by decide +kernel
theorem dX5_isIn_6 : decode cX5_isIn 6 = .ok (.iload_n 2, 1) := by decide +kernel
theorem dX5_isIn_7 : decode cX5_isIn 7 = .ok (.if_icmp .gt 7, 3) := by decide +kernel
theorem dX5_isIn_10 : decode cX5_isIn 10 = .ok (.iconst 1, 1) := by decide +kernel
theorem dX5_isIn_11 : decode cX5_isIn 11 = .ok (.goto 4, 3) := by decide +kernel
theorem dX5_isIn_14 : decode cX5_isIn 14 = .ok (.iconst 0, 1) := by decide +kernel
theorem dX5_isIn_15 : decode cX5_isIn 15 = .ok (.ireturn, 1) := by decide +kernel
theorem dX5_isImage_0 : decode cX5_isImage 0 = .ok (.iload_n 1, 1) := by decide +kernel
theorem dX5_isImage_1 : decode cX5_isImage 1 = .ok (.iconst 0, 1) := by decide +kernel
theorem dX5_isImage_2 : decode cX5_isImage 2 = .ok (.aload_n 0, 1) := by decide +kernel
theorem dX5_isImage_3 : decode cX5_isImage 3 = .ok (.getfield 93, 3) := by decide +kernel
theorem dX5_isImage_6 : decode cX5_isImage 6 = .ok (.iconst 1, 1) := by decide +kernel
theorem dX5_isImage_7 : decode cX5_isImage 7 = .ok (.isub, 1) := by decide +kernel
theorem dX5_isImage_8 : decode cX5_isImage 8 = .ok (.invokestatic 96, 3) := by decide +kernel
theorem dX5_isImage_11 : decode cX5_isImage 11 = .ok (.ireturn, 1) := by decide +kernel
theorem dX5_isBake_0 : decode cX5_isBake 0 = .ok (.iload_n 1, 1) := by decide +kernel
theorem dX5_isBake_1 : decode cX5_isBake 1 = .ok (.iconst 0, 1) := by decide +kernel
theorem dX5_isBake_2 : decode cX5_isBake 2 = .ok (.aload_n 0, 1) := by decide +kernel
theorem dX5_isBake_3 : decode cX5_isBake 3 = .ok (.getfield 100, 3) := by decide +kernel
theorem dX5_isBake_6 : decode cX5_isBake 6 = .ok (.iconst 1, 1) := by decide +kernel
theorem dX5_isBake_7 : decode cX5_isBake 7 = .ok (.isub, 1) := by decide +kernel
theorem dX5_isBake_8 : decode cX5_isBake 8 = .ok (.invokestatic 96, 3) := by decide +kernel
theorem dX5_isBake_11 : decode cX5_isBake 11 = .ok (.ireturn, 1) := by decide +kernel
theorem dX5_add_0 : decode cX5_add 0 = .ok (.aload_n 0, 1) := by decide +kernel
theorem dX5_add_1 : decode cX5_add 1 = .ok (.iload_n 1, 1) := by decide +kernel
theorem dX5_add_2 : decode cX5_add 2 = .ok (.iconst (-1), 1) := by decide +kernel
theorem dX5_add_3 : decode cX5_add 3 = .ok (.aload_n 0, 1) := by decide +kernel
theorem dX5_add_4 : decode cX5_add 4 = .ok (.getfield 93, 3) := by decide +kernel
theorem dX5_add_7 : decode cX5_add 7 = .ok (.iconst 1, 1) := by decide +kernel
theorem dX5_add_8 : decode cX5_add 8 = .ok (.isub, 1) := by decide +kernel
theorem dX5_add_9 : decode cX5_add 9 = .ok (.invokestatic 96, 3) := by decide +kernel
theorem dX5_add_12 : decode cX5_add 12 = .ok (.ifCond .ne 7, 3) := by decide +kernel
theorem dX5_add_15 : decode cX5_add 15 = .ok (.iconst 1, 1) := by decide +kernel
theorem dX5_add_16 : decode cX5_add 16 = .ok (.goto 17, 3) := by decide +kernel
theorem dX5_add_19 : decode cX5_add 19 = .ok (.aload_n 0, 1) := by decide +kernel
theorem dX5_add_20 : decode cX5_add 20 = .ok (.getfield 93, 3) := by decide +kernel
theorem dX5_add_23 : decode cX5_add 23 = .ok (.bipush 10, 2) := by decide +kernel
theorem dX5_add_25 : decode cX5_add 25 = .ok (.if_icmp .ne 7, 3) := by decide +kernel
theorem dX5_add_28 : decode cX5_add 28 = .ok (.iconst 2, 1) := by decide +kernel
theorem dX5_add_29 : decode cX5_add 29 = .ok (.goto 4, 3) := by decide +kernel
theorem dX5_add_32 : decode cX5_add 32 = .ok (.iconst 0, 1) := by decide +kernel
theorem dX5_add_33 : decode cX5_add 33 = .ok (.invokevirtual 103, 3) := by decide +kernel
theorem dX5_add_36 : decode cX5_add 36 = .ok (.ifCond .ne 5, 3) := by decide +kernel
theorem dX5_add_39 : decode cX5_add 39 = .ok (.iconst 0, 1) := by decide +kernel
theorem dX5_add_40 : decode cX5_add 40 = .ok (.ireturn, 1) := by decide +kernel
theorem dX5_add_41 : decode cX5_add 41 = .ok (.aload_n 0, 1) := by decide +kernel
theorem dX5_add_42 : decode cX5_add 42 = .ok (.getfield 16, 3) := by decide +kernel
theorem dX5_add_45 : decode cX5_add 45 = .ok (.aload_n 0, 1) := by decide +kernel
theorem dX5_add_46 : decode cX5_add 46 = .ok (.getfield 93, 3) := by decide +kernel
theorem dX5_add_49 : decode cX5_add 49 = .ok (.iload_n 1, 1) := by decide +kernel
theorem dX5_add_50 : decode cX5_add 50 = .ok (.iastore, 1) := by decide +kernel
theorem dX5_add_51 : decode cX5_add 51 = .ok (.aload_n 0, 1) := by decide +kernel
theorem dX5_add_52 : decode cX5_add 52 = .ok (.getfield 25, 3) := by decide +kernel
theorem dX5_add_55 : decode cX5_add 55 = .ok (.aload_n 0, 1) := by decide +kernel
theorem dX5_add_56 : decode cX5_add 56 = .ok (.getfield 93, 3) := by decide +kernel
theorem dX5_add_59 : decode cX5_add 59 = .ok (.iconst (-1), 1) := by decide +kernel
theorem dX5_add_60 : decode cX5_add 60 = .ok (.iastore, 1) := by decide +kernel
theorem dX5_add_61 : decode cX5_add 61 = .ok (.aload_n 0, 1) := by decide +kernel
theorem dX5_add_62 : decode cX5_add 62 = .ok (.dup, 1) := by decide +kernel
theorem dX5_add_63 : decode cX5_add 63 = .ok (.getfield 93, 3) := by decide +kernel
theorem dX5_add_66 : decode cX5_add 66 = .ok (.iconst 1, 1) := by decide +kernel
theorem dX5_add_67 : decode cX5_add 67 = .ok (.iadd, 1) := by decide +kernel
theorem dX5_add_68 : decode cX5_add 68 = .ok (.putfield 93, 3) := by decide +kernel
theorem dX5_add_71 : decode cX5_add 71 = .ok (.aload_n 0, 1) := by decide +kernel
theorem dX5_add_72 : decode cX5_add 72 = .ok (.getfield 93, 3) := by decide +kernel
theorem dX5_add_75 : decode cX5_add 75 = .ok (.iconst 1, 1) := by decide +kernel
theorem dX5_add_76 : decode cX5_add 76 = .ok (.isub, 1) := by decide +kernel
theorem dX5_add_77 : decode cX5_add 77 = .ok (.ireturn, 1) := by decide +kernel
theorem dX5_step_0 : decode cX5_step 0 = .ok (.aload_n 0, 1) := by decide +kernel
theorem dX5_step_1 : decode cX5_step 1 = .ok (.iload_n 1, 1) := by decide +kernel
theorem dX5_step_2 : decode cX5_step 2 = .ok (.invokevirtual 107, 3) := by decide +kernel
theorem dX5_step_5 : decode cX5_step 5 = .ok (.istore_n 3, 1) := by decide +kernel
theorem dX5_step_6 : decode cX5_step 6 = .ok (.aload_n 0, 1) := by decide +kernel
theorem dX5_step_7 : decode cX5_step 7 = .ok (.iload_n 3, 1) := by decide +kernel
theorem dX5_step_8 : decode cX5_step 8 = .ok (.ifCond .ne 7, 3) := by decide +kernel
theorem dX5_step_11 : decode cX5_step 11 = .ok (.iconst 1, 1) := by decide +kernel
theorem dX5_step_12 : decode cX5_step 12 = .ok (.goto 32, 3) := by decide +kernel
theorem dX5_step_15 : decode cX5_step 15 = .ok (.iload_n 2, 1) := by decide +kernel
theorem dX5_step_16 : decode cX5_step 16 = .ok (.iconst 0, 1) := by decide +kernel
theorem dX5_step_17 : decode cX5_step 17 = .ok (.bipush 9, 2) := by decide +kernel
theorem dX5_step_19 : decode cX5_step 19 = .ok (.invokestatic 96, 3) := by decide +kernel
theorem dX5_step_22 : decode cX5_step 22 = .ok (.ifCond .ne 7, 3) := by decide +kernel
theorem dX5_step_25 : decode cX5_step 25 = .ok (.iconst 2, 1) := by decide +kernel
theorem dX5_step_26 : decode cX5_step 26 = .ok (.goto 18, 3) := by decide +kernel
theorem dX5_step_29 : decode cX5_step 29 = .ok (.aload_n 0, 1) := by decide +kernel
theorem dX5_step_30 : decode cX5_step 30 = .ok (.getfield 22, 3) := by decide +kernel
theorem dX5_step_33 : decode cX5_step 33 = .ok (.iload_n 1, 1) := by decide +kernel
theorem dX5_step_34 : decode cX5_step 34 = .ok (.iaload, 1) := by decide +kernel
theorem dX5_step_35 : decode cX5_step 35 = .ok (.iconst 5, 1) := by decide +kernel
theorem dX5_step_36 : decode cX5_step 36 = .ok (.if_icmp .ne 7, 3) := by decide +kernel
theorem dX5_step_39 : decode cX5_step 39 = .ok (.iconst 3, 1) := by decide +kernel
theorem dX5_step_40 : decode cX5_step 40 = .ok (.goto 4, 3) := by decide +kernel
theorem dX5_step_43 : decode cX5_step 43 = .ok (.iconst 0, 1) := by decide +kernel
theorem dX5_step_44 : decode cX5_step 44 = .ok (.invokevirtual 103, 3) := by decide +kernel
theorem dX5_step_47 : decode cX5_step 47 = .ok (.ifCond .ne 5, 3) := by decide +kernel
theorem dX5_step_50 : decode cX5_step 50 = .ok (.iconst 0, 1) := by decide +kernel
theorem dX5_step_51 : decode cX5_step 51 = .ok (.ireturn, 1) := by decide +kernel
theorem dX5_step_52 : decode cX5_step 52 = .ok (.aload_n 0, 1) := by decide +kernel
theorem dX5_step_53 : decode cX5_step 53 = .ok (.getfield 19, 3) := by decide +kernel
theorem dX5_step_56 : decode cX5_step 56 = .ok (.iconst 5, 1) := by decide +kernel
theorem dX5_step_57 : decode cX5_step 57 = .ok (.iload_n 1, 1) := by decide +kernel
theorem dX5_step_58 : decode cX5_step 58 = .ok (.imul, 1) := by decide +kernel
theorem dX5_step_59 : decode cX5_step 59 = .ok (.aload_n 0, 1) := by decide +kernel
theorem dX5_step_60 : decode cX5_step 60 = .ok (.getfield 22, 3) := by decide +kernel
theorem dX5_step_63 : decode cX5_step 63 = .ok (.iload_n 1, 1) := by decide +kernel
theorem dX5_step_64 : decode cX5_step 64 = .ok (.iaload, 1) := by decide +kernel
theorem dX5_step_65 : decode cX5_step 65 = .ok (.iadd, 1) := by decide +kernel
theorem dX5_step_66 : decode cX5_step 66 = .ok (.iload_n 2, 1) := by decide +kernel
theorem dX5_step_67 : decode cX5_step 67 = .ok (.iastore, 1) := by decide +kernel
theorem dX5_step_68 : decode cX5_step 68 = .ok (.aload_n 0, 1) := by decide +kernel
theorem dX5_step_69 : decode cX5_step 69 = .ok (.getfield 22, 3) := by decide +kernel
theorem dX5_step_72 : decode cX5_step 72 = .ok (.iload_n 1, 1) := by decide +kernel
theorem dX5_step_73 : decode cX5_step 73 = .ok (.dup2, 1) := by decide +kernel
theorem dX5_step_74 : decode cX5_step 74 = .ok (.iaload, 1) := by decide +kernel
theorem dX5_step_75 : decode cX5_step 75 = .ok (.iconst 1, 1) := by decide +kernel
theorem dX5_step_76 : decode cX5_step 76 = .ok (.iadd, 1) := by decide +kernel
theorem dX5_step_77 : decode cX5_step 77 = .ok (.iastore, 1) := by decide +kernel
theorem dX5_step_78 : decode cX5_step 78 = .ok (.aload_n 0, 1) := by decide +kernel
theorem dX5_step_79 : decode cX5_step 79 = .ok (.getfield 22, 3) := by decide +kernel
theorem dX5_step_82 : decode cX5_step 82 = .ok (.iload_n 1, 1) := by decide +kernel
theorem dX5_step_83 : decode cX5_step 83 = .ok (.iaload, 1) := by decide +kernel
theorem dX5_step_84 : decode cX5_step 84 = .ok (.ireturn, 1) := by decide +kernel
theorem dX5_change_0 : decode cX5_change 0 = .ok (.iload_n 1, 1) := by decide +kernel
theorem dX5_change_1 : decode cX5_change 1 = .ok (.iconst 0, 1) := by decide +kernel
theorem dX5_change_2 : decode cX5_change 2 = .ok (.bipush 9, 2) := by decide +kernel
theorem dX5_change_4 : decode cX5_change 4 = .ok (.invokestatic 96, 3) := by decide +kernel
theorem dX5_change_7 : decode cX5_change 7 = .ok (.ifCond .eq 28, 3) := by decide +kernel
theorem dX5_change_10 : decode cX5_change 10 = .ok (.iload_n 2, 1) := by decide +kernel
theorem dX5_change_11 : decode cX5_change 11 = .ok (.iconst (-1), 1) := by decide +kernel
theorem dX5_change_12 : decode cX5_change 12 = .ok (.if_icmp .eq 19, 3) := by decide +kernel
theorem dX5_change_15 : decode cX5_change 15 = .ok (.iload_n 2, 1) := by decide +kernel
theorem dX5_change_16 : decode cX5_change 16 = .ok (.iconst 0, 1) := by decide +kernel
theorem dX5_change_17 : decode cX5_change 17 = .ok (.aload_n 0, 1) := by decide +kernel
theorem dX5_change_18 : decode cX5_change 18 = .ok (.getfield 13, 3) := by decide +kernel
theorem dX5_change_21 : decode cX5_change 21 = .ok (.iload_n 1, 1) := by decide +kernel
theorem dX5_change_22 : decode cX5_change 22 = .ok (.iaload, 1) := by decide +kernel
theorem dX5_change_23 : decode cX5_change 23 = .ok (.iconst 1, 1) := by decide +kernel
theorem dX5_change_24 : decode cX5_change 24 = .ok (.isub, 1) := by decide +kernel
theorem dX5_change_25 : decode cX5_change 25 = .ok (.invokestatic 96, 3) := by decide +kernel
theorem dX5_change_28 : decode cX5_change 28 = .ok (.ifCond .eq 7, 3) := by decide +kernel
theorem dX5_change_31 : decode cX5_change 31 = .ok (.iconst 1, 1) := by decide +kernel
theorem dX5_change_32 : decode cX5_change 32 = .ok (.goto 4, 3) := by decide +kernel
theorem dX5_change_35 : decode cX5_change 35 = .ok (.iconst 0, 1) := by decide +kernel
theorem dX5_change_36 : decode cX5_change 36 = .ok (.istore_n 3, 1) := by decide +kernel
theorem dX5_change_37 : decode cX5_change 37 = .ok (.aload_n 0, 1) := by decide +kernel
theorem dX5_change_38 : decode cX5_change 38 = .ok (.iload_n 3, 1) := by decide +kernel
theorem dX5_change_39 : decode cX5_change 39 = .ok (.ifCond .eq 7, 3) := by decide +kernel
theorem dX5_change_42 : decode cX5_change 42 = .ok (.iconst 0, 1) := by decide +kernel
theorem dX5_change_43 : decode cX5_change 43 = .ok (.goto 4, 3) := by decide +kernel
theorem dX5_change_46 : decode cX5_change 46 = .ok (.iconst 1, 1) := by decide +kernel
theorem dX5_change_47 : decode cX5_change 47 = .ok (.invokevirtual 103, 3) := by decide +kernel
theorem dX5_change_50 : decode cX5_change 50 = .ok (.ifCond .ne 5, 3) := by decide +kernel
theorem dX5_change_53 : decode cX5_change 53 = .ok (.iconst 0, 1) := by decide +kernel
theorem dX5_change_54 : decode cX5_change 54 = .ok (.ireturn, 1) := by decide +kernel
theorem dX5_change_55 : decode cX5_change 55 = .ok (.aload_n 0, 1) := by decide +kernel
theorem dX5_change_56 : decode cX5_change 56 = .ok (.getfield 13, 3) := by decide +kernel
theorem dX5_change_59 : decode cX5_change 59 = .ok (.iload_n 1, 1) := by decide +kernel
theorem dX5_change_60 : decode cX5_change 60 = .ok (.dup2, 1) := by decide +kernel
theorem dX5_change_61 : decode cX5_change 61 = .ok (.iaload, 1) := by decide +kernel
theorem dX5_change_62 : decode cX5_change 62 = .ok (.iload_n 2, 1) := by decide +kernel
theorem dX5_change_63 : decode cX5_change 63 = .ok (.iconst (-1), 1) := by decide +kernel
theorem dX5_change_64 : decode cX5_change 64 = .ok (.if_icmp .ne 7, 3) := by decide +kernel
theorem dX5_change_67 : decode cX5_change 67 = .ok (.iconst 1, 1) := by decide +kernel
theorem dX5_change_68 : decode cX5_change 68 = .ok (.goto 4, 3) := by decide +kernel
theorem dX5_change_71 : decode cX5_change 71 = .ok (.iconst 0, 1) := by decide +kernel
theorem dX5_change_72 : decode cX5_change 72 = .ok (.iadd, 1) := by decide +kernel
theorem dX5_change_73 : decode cX5_change 73 = .ok (.iastore, 1) := by decide +kernel
theorem dX5_change_74 : decode cX5_change 74 = .ok (.aload_n 0, 1) := by decide +kernel
theorem dX5_change_75 : decode cX5_change 75 = .ok (.getfield 7, 3) := by decide +kernel
theorem dX5_change_78 : decode cX5_change 78 = .ok (.iload_n 1, 1) := by decide +kernel
theorem dX5_change_79 : decode cX5_change 79 = .ok (.iload_n 2, 1) := by decide +kernel
theorem dX5_change_80 : decode cX5_change 80 = .ok (.iconst (-1), 1) := by decide +kernel
theorem dX5_change_81 : decode cX5_change 81 = .ok (.if_icmp .ne 12, 3) := by decide +kernel
theorem dX5_change_84 : decode cX5_change 84 = .ok (.aload_n 0, 1) := by decide +kernel
theorem dX5_change_85 : decode cX5_change 85 = .ok (.getfield 13, 3) := by decide +kernel
theorem dX5_change_88 : decode cX5_change 88 = .ok (.iload_n 1, 1) := by decide +kernel
theorem dX5_change_89 : decode cX5_change 89 = .ok (.iaload, 1) := by decide +kernel
theorem dX5_change_90 : decode cX5_change 90 = .ok (.goto 4, 3) := by decide +kernel
theorem dX5_change_93 : decode cX5_change 93 = .ok (.iload_n 2, 1) := by decide +kernel
theorem dX5_change_94 : decode cX5_change 94 = .ok (.iastore, 1) := by decide +kernel
theorem dX5_change_95 : decode cX5_change 95 = .ok (.aload_n 0, 1) := by decide +kernel
theorem dX5_change_96 : decode cX5_change 96 = .ok (.getfield 7, 3) := by decide +kernel
theorem dX5_change_99 : decode cX5_change 99 = .ok (.iload_n 1, 1) := by decide +kernel
theorem dX5_change_100 : decode cX5_change 100 = .ok (.iaload, 1) := by decide +kernel
theorem dX5_change_101 : decode cX5_change 101 = .ok (.ireturn, 1) := by decide +kernel
theorem dX5_find_0 : decode cX5_find 0 = .ok (.iconst 0, 1) := by decide +kernel
theorem dX5_find_1 : decode cX5_find 1 = .ok (.istore 4, 2) := by decide +kernel
theorem dX5_find_3 : decode cX5_find 3 = .ok (.iload 4, 2) := by decide +kernel
theorem dX5_find_5 : decode cX5_find 5 = .ok (.aload_n 0, 1) := by decide +kernel
theorem dX5_find_6 : decode cX5_find 6 = .ok (.getfield 110, 3) := by decide +kernel
theorem dX5_find_9 : decode cX5_find 9 = .ok (.if_icmp .ge 45, 3) := by decide +kernel
theorem dX5_find_12 : decode cX5_find 12 = .ok (.aload_n 0, 1) := by decide +kernel
theorem dX5_find_13 : decode cX5_find 13 = .ok (.getfield 28, 3) := by decide +kernel
theorem dX5_find_16 : decode cX5_find 16 = .ok (.iload 4, 2) := by decide +kernel
theorem dX5_find_18 : decode cX5_find 18 = .ok (.iaload, 1) := by decide +kernel
theorem dX5_find_19 : decode cX5_find 19 = .ok (.iload_n 1, 1) := by decide +kernel
theorem dX5_find_20 : decode cX5_find 20 = .ok (.if_icmp .ne 28, 3) := by decide +kernel
theorem dX5_find_23 : decode cX5_find 23 = .ok (.aload_n 0, 1) := by decide +kernel
theorem dX5_find_24 : decode cX5_find 24 = .ok (.getfield 31, 3) := by decide +kernel
theorem dX5_find_27 : decode cX5_find 27 = .ok (.iload 4, 2) := by decide +kernel
theorem dX5_find_29 : decode cX5_find 29 = .ok (.iaload, 1) := by decide +kernel
theorem dX5_find_30 : decode cX5_find 30 = .ok (.iload_n 2, 1) := by decide +kernel
theorem dX5_find_31 : decode cX5_find 31 = .ok (.if_icmp .ne 17, 3) := by decide +kernel
theorem dX5_find_34 : decode cX5_find 34 = .ok (.aload_n 0, 1) := by decide +kernel
theorem dX5_find_35 : decode cX5_find 35 = .ok (.getfield 34, 3) := by decide +kernel
theorem dX5_find_38 : decode cX5_find 38 = .ok (.iload 4, 2) := by decide +kernel
theorem dX5_find_40 : decode cX5_find 40 = .ok (.iaload, 1) := by decide +kernel
theorem dX5_find_41 : decode cX5_find 41 = .ok (.iload_n 3, 1) := by decide +kernel
theorem dX5_find_42 : decode cX5_find 42 = .ok (.if_icmp .ne 6, 3) := by decide +kernel
theorem dX5_find_45 : decode cX5_find 45 = .ok (.iload 4, 2) := by decide +kernel
theorem dX5_find_47 : decode cX5_find 47 = .ok (.ireturn, 1) := by decide +kernel
theorem dX5_find_48 : decode cX5_find 48 = .ok (.iinc 4 1, 3) := by decide +kernel
theorem dX5_find_51 : decode cX5_find 51 = .ok (.goto (-48), 3) := by decide +kernel
theorem dX5_find_54 : decode cX5_find 54 = .ok (.bipush (-2), 2) := by decide +kernel
theorem dX5_find_56 : decode cX5_find 56 = .ok (.ireturn, 1) := by decide +kernel
theorem dX5_hasBase_0 : decode cX5_hasBase 0 = .ok (.aload_n 0, 1) := by decide +kernel
theorem dX5_hasBase_1 : decode cX5_hasBase 1 = .ok (.getfield 16, 3) := by decide +kernel
theorem dX5_hasBase_4 : decode cX5_hasBase 4 = .ok (.iload_n 1, 1) := by decide +kernel
theorem dX5_hasBase_5 : decode cX5_hasBase 5 = .ok (.iaload, 1) := by decide +kernel
theorem dX5_hasBase_6 : decode cX5_hasBase 6 = .ok (.iconst (-1), 1) := by decide +kernel
theorem dX5_hasBase_7 : decode cX5_hasBase 7 = .ok (.if_icmp .eq 18, 3) := by decide +kernel
theorem dX5_hasBase_10 : decode cX5_hasBase 10 = .ok (.aload_n 0, 1) := by decide +kernel
theorem dX5_hasBase_11 : decode cX5_hasBase 11 = .ok (.getfield 25, 3) := by decide +kernel
theorem dX5_hasBase_14 : decode cX5_hasBase 14 = .ok (.aload_n 0, 1) := by decide +kernel
theorem dX5_hasBase_15 : decode cX5_hasBase 15 = .ok (.getfield 16, 3) := by decide +kernel
theorem dX5_hasBase_18 : decode cX5_hasBase 18 = .ok (.iload_n 1, 1) := by decide +kernel
theorem dX5_hasBase_19 : decode cX5_hasBase 19 = .ok (.iaload, 1) := by decide +kernel
theorem dX5_hasBase_20 : decode cX5_hasBase 20 = .ok (.iaload, 1) := by decide +kernel
theorem dX5_hasBase_21 : decode cX5_hasBase 21 = .ok (.iconst (-1), 1) := by decide +kernel
theorem dX5_hasBase_22 : decode cX5_hasBase 22 = .ok (.if_icmp .eq 7, 3) := by decide +kernel
theorem dX5_hasBase_25 : decode cX5_hasBase 25 = .ok (.iconst 1, 1) := by decide +kernel
theorem dX5_hasBase_26 : decode cX5_hasBase 26 = .ok (.goto 4, 3) := by decide +kernel
theorem dX5_hasBase_29 : decode cX5_hasBase 29 = .ok (.iconst 0, 1) := by decide +kernel
theorem dX5_hasBase_30 : decode cX5_hasBase 30 = .ok (.ireturn, 1) := by decide +kernel
theorem dX5_baseOf_0 : decode cX5_baseOf 0 = .ok (.aload_n 0, 1) := by decide +kernel
theorem dX5_baseOf_1 : decode cX5_baseOf 1 = .ok (.getfield 16, 3) := by decide +kernel
theorem dX5_baseOf_4 : decode cX5_baseOf 4 = .ok (.iload_n 1, 1) := by decide +kernel
theorem dX5_baseOf_5 : decode cX5_baseOf 5 = .ok (.iaload, 1) := by decide +kernel
theorem dX5_baseOf_6 : decode cX5_baseOf 6 = .ok (.iconst (-1), 1) := by decide +kernel
theorem dX5_baseOf_7 : decode cX5_baseOf 7 = .ok (.if_icmp .ne 7, 3) := by decide +kernel
theorem dX5_baseOf_10 : decode cX5_baseOf 10 = .ok (.iconst (-1), 1) := by decide +kernel
theorem dX5_baseOf_11 : decode cX5_baseOf 11 = .ok (.goto 19, 3) := by decide +kernel
theorem dX5_baseOf_14 : decode cX5_baseOf 14 = .ok (.aload_n 0, 1) := by decide +kernel
theorem dX5_baseOf_15 : decode cX5_baseOf 15 = .ok (.getfield 40, 3) := by decide +kernel
theorem dX5_baseOf_18 : decode cX5_baseOf 18 = .ok (.aload_n 0, 1) := by decide +kernel
theorem dX5_baseOf_19 : decode cX5_baseOf 19 = .ok (.getfield 25, 3) := by decide +kernel
theorem dX5_baseOf_22 : decode cX5_baseOf 22 = .ok (.aload_n 0, 1) := by decide +kernel
theorem dX5_baseOf_23 : decode cX5_baseOf 23 = .ok (.getfield 16, 3) := by decide +kernel
theorem dX5_baseOf_26 : decode cX5_baseOf 26 = .ok (.iload_n 1, 1) := by decide +kernel
theorem dX5_baseOf_27 : decode cX5_baseOf 27 = .ok (.iaload, 1) := by decide +kernel
theorem dX5_baseOf_28 : decode cX5_baseOf 28 = .ok (.iaload, 1) := by decide +kernel
theorem dX5_baseOf_29 : decode cX5_baseOf 29 = .ok (.iaload, 1) := by decide +kernel
theorem dX5_baseOf_30 : decode cX5_baseOf 30 = .ok (.ireturn, 1) := by decide +kernel
theorem dX5_topNow_0 : decode cX5_topNow 0 = .ok (.aload_n 0, 1) := by decide +kernel
theorem dX5_topNow_1 : decode cX5_topNow 1 = .ok (.iload_n 1, 1) := by decide +kernel
theorem dX5_topNow_2 : decode cX5_topNow 2 = .ok (.invokevirtual 113, 3) := by decide +kernel
theorem dX5_topNow_5 : decode cX5_topNow 5 = .ok (.istore_n 2, 1) := by decide +kernel
theorem dX5_topNow_6 : decode cX5_topNow 6 = .ok (.iconst 5, 1) := by decide +kernel
theorem dX5_topNow_7 : decode cX5_topNow 7 = .ok (.iload_n 1, 1) := by decide +kernel
theorem dX5_topNow_8 : decode cX5_topNow 8 = .ok (.imul, 1) := by decide +kernel
theorem dX5_topNow_9 : decode cX5_topNow 9 = .ok (.istore_n 3, 1) := by decide +kernel
theorem dX5_topNow_10 : decode cX5_topNow 10 = .ok (.iload_n 3, 1) := by decide +kernel
theorem dX5_topNow_11 : decode cX5_topNow 11 = .ok (.iconst 5, 1) := by decide +kernel
theorem dX5_topNow_12 : decode cX5_topNow 12 = .ok (.iload_n 1, 1) := by decide +kernel
theorem dX5_topNow_13 : decode cX5_topNow 13 = .ok (.imul, 1) := by decide +kernel
theorem dX5_topNow_14 : decode cX5_topNow 14 = .ok (.aload_n 0, 1) := by decide +kernel
theorem dX5_topNow_15 : decode cX5_topNow 15 = .ok (.getfield 22, 3) := by decide +kernel
theorem dX5_topNow_18 : decode cX5_topNow 18 = .ok (.iload_n 1, 1) := by decide +kernel
theorem dX5_topNow_19 : decode cX5_topNow 19 = .ok (.iaload, 1) := by decide +kernel
theorem dX5_topNow_20 : decode cX5_topNow 20 = .ok (.iadd, 1) := by decide +kernel
theorem dX5_topNow_21 : decode cX5_topNow 21 = .ok (.if_icmp .ge 38, 3) := by decide +kernel
theorem dX5_topNow_24 : decode cX5_topNow 24 = .ok (.iload_n 2, 1) := by decide +kernel
theorem dX5_topNow_25 : decode cX5_topNow 25 = .ok (.bipush (-2), 2) := by decide +kernel
theorem dX5_topNow_27 : decode cX5_topNow 27 = .ok (.if_icmp .eq 32, 3) := by decide +kernel
theorem dX5_topNow_30 : decode cX5_topNow 30 = .ok (.aload_n 0, 1) := by decide +kernel
theorem dX5_topNow_31 : decode cX5_topNow 31 = .ok (.iload_n 2, 1) := by decide +kernel
theorem dX5_topNow_32 : decode cX5_topNow 32 = .ok (.aload_n 0, 1) := by decide +kernel
theorem dX5_topNow_33 : decode cX5_topNow 33 = .ok (.getfield 19, 3) := by decide +kernel
theorem dX5_topNow_36 : decode cX5_topNow 36 = .ok (.iload_n 3, 1) := by decide +kernel
theorem dX5_topNow_37 : decode cX5_topNow 37 = .ok (.iaload, 1) := by decide +kernel
theorem dX5_topNow_38 : decode cX5_topNow 38 = .ok (.aload_n 0, 1) := by decide +kernel
theorem dX5_topNow_39 : decode cX5_topNow 39 = .ok (.getfield 7, 3) := by decide +kernel
theorem dX5_topNow_42 : decode cX5_topNow 42 = .ok (.aload_n 0, 1) := by decide +kernel
theorem dX5_topNow_43 : decode cX5_topNow 43 = .ok (.getfield 19, 3) := by decide +kernel
theorem dX5_topNow_46 : decode cX5_topNow 46 = .ok (.iload_n 3, 1) := by decide +kernel
theorem dX5_topNow_47 : decode cX5_topNow 47 = .ok (.iaload, 1) := by decide +kernel
theorem dX5_topNow_48 : decode cX5_topNow 48 = .ok (.iaload, 1) := by decide +kernel
theorem dX5_topNow_49 : decode cX5_topNow 49 = .ok (.invokevirtual 117, 3) := by decide +kernel
theorem dX5_topNow_52 : decode cX5_topNow 52 = .ok (.istore_n 2, 1) := by decide +kernel
theorem dX5_topNow_53 : decode cX5_topNow 53 = .ok (.iinc 3 1, 3) := by decide +kernel
theorem dX5_topNow_56 : decode cX5_topNow 56 = .ok (.goto (-46), 3) := by decide +kernel
theorem dX5_topNow_59 : decode cX5_topNow 59 = .ok (.iload_n 2, 1) := by decide +kernel
theorem dX5_topNow_60 : decode cX5_topNow 60 = .ok (.ireturn, 1) := by decide +kernel
theorem dX5_isAlike_0 : decode cX5_isAlike 0 = .ok (.aload_n 0, 1) := by decide +kernel
theorem dX5_isAlike_1 : decode cX5_isAlike 1 = .ok (.getfield 25, 3) := by decide +kernel
theorem dX5_isAlike_4 : decode cX5_isAlike 4 = .ok (.iload_n 1, 1) := by decide +kernel
theorem dX5_isAlike_5 : decode cX5_isAlike 5 = .ok (.iaload, 1) := by decide +kernel
theorem dX5_isAlike_6 : decode cX5_isAlike 6 = .ok (.iconst (-1), 1) := by decide +kernel
theorem dX5_isAlike_7 : decode cX5_isAlike 7 = .ok (.if_icmp .eq 26, 3) := by decide +kernel
theorem dX5_isAlike_10 : decode cX5_isAlike 10 = .ok (.aload_n 0, 1) := by decide +kernel
theorem dX5_isAlike_11 : decode cX5_isAlike 11 = .ok (.iload_n 1, 1) := by decide +kernel
theorem dX5_isAlike_12 : decode cX5_isAlike 12 = .ok (.invokevirtual 121, 3) := by decide +kernel
theorem dX5_isAlike_15 : decode cX5_isAlike 15 = .ok (.aload_n 0, 1) := by decide +kernel
theorem dX5_isAlike_16 : decode cX5_isAlike 16 = .ok (.getfield 40, 3) := by decide +kernel
theorem dX5_isAlike_19 : decode cX5_isAlike 19 = .ok (.aload_n 0, 1) := by decide +kernel
theorem dX5_isAlike_20 : decode cX5_isAlike 20 = .ok (.getfield 25, 3) := by decide +kernel
theorem dX5_isAlike_23 : decode cX5_isAlike 23 = .ok (.iload_n 1, 1) := by decide +kernel
theorem dX5_isAlike_24 : decode cX5_isAlike 24 = .ok (.iaload, 1) := by decide +kernel
theorem dX5_isAlike_25 : decode cX5_isAlike 25 = .ok (.iaload, 1) := by decide +kernel
theorem dX5_isAlike_26 : decode cX5_isAlike 26 = .ok (.if_icmp .ne 7, 3) := by decide +kernel
theorem dX5_isAlike_29 : decode cX5_isAlike 29 = .ok (.iconst 1, 1) := by decide +kernel
theorem dX5_isAlike_30 : decode cX5_isAlike 30 = .ok (.goto 4, 3) := by decide +kernel
theorem dX5_isAlike_33 : decode cX5_isAlike 33 = .ok (.iconst 0, 1) := by decide +kernel
theorem dX5_isAlike_34 : decode cX5_isAlike 34 = .ok (.ireturn, 1) := by decide +kernel
theorem dX5_isFreshNow_0 : decode cX5_isFreshNow 0 = .ok (.iconst 1, 1) := by decide +kernel
theorem dX5_isFreshNow_1 : decode cX5_isFreshNow 1 = .ok (.istore_n 2, 1) := by decide +kernel
theorem dX5_isFreshNow_2 : decode cX5_isFreshNow 2 = .ok (.iload_n 1, 1) := by decide +kernel
theorem dX5_isFreshNow_3 : decode cX5_isFreshNow 3 = .ok (.istore_n 3, 1) := by decide +kernel
theorem dX5_isFreshNow_4 : decode cX5_isFreshNow 4 = .ok (.iload_n 3, 1) := by decide +kernel
theorem dX5_isFreshNow_5 : decode cX5_isFreshNow 5 = .ok (.iconst (-1), 1) := by decide +kernel
theorem dX5_isFreshNow_6 : decode cX5_isFreshNow 6 = .ok (.if_icmp .eq 39, 3) := by decide +kernel
theorem dX5_isFreshNow_9 : decode cX5_isFreshNow 9 = .ok (.iload_n 2, 1) := by decide +kernel
theorem dX5_isFreshNow_10 : decode cX5_isFreshNow 10 = .ok (.ifCond .eq 23, 3) := by decide +kernel
theorem dX5_isFreshNow_13 : decode cX5_isFreshNow 13 = .ok (.aload_n 0, 1) := by decide +kernel
theorem dX5_isFreshNow_14 : decode cX5_isFreshNow 14 = .ok (.iload_n 3, 1) := by decide +kernel
theorem dX5_isFreshNow_15 : decode cX5_isFreshNow 15 = .ok (.invokevirtual 124, 3) := by decide +kernel
theorem dX5_isFreshNow_18 : decode cX5_isFreshNow 18 = .ok (.ifCond .eq 15, 3) := by decide +kernel
theorem dX5_isFreshNow_21 : decode cX5_isFreshNow 21 = .ok (.aload_n 0, 1) := by decide +kernel
theorem dX5_isFreshNow_22 : decode cX5_isFreshNow 22 = .ok (.iload_n 3, 1) := by decide +kernel
theorem dX5_isFreshNow_23 : decode cX5_isFreshNow 23 = .ok (.invokevirtual 127, 3) := by decide +kernel
theorem dX5_isFreshNow_26 : decode cX5_isFreshNow 26 = .ok (.ifCond .eq 7, 3) := by decide +kernel
theorem dX5_isFreshNow_29 : decode cX5_isFreshNow 29 = .ok (.iconst 1, 1) := by decide +kernel
theorem dX5_isFreshNow_30 : decode cX5_isFreshNow 30 = .ok (.goto 4, 3) := by decide +kernel
theorem dX5_isFreshNow_33 : decode cX5_isFreshNow 33 = .ok (.iconst 0, 1) := by decide +kernel
theorem dX5_isFreshNow_34 : decode cX5_isFreshNow 34 = .ok (.istore_n 2, 1) := by decide +kernel
theorem dX5_isFreshNow_35 : decode cX5_isFreshNow 35 = .ok (.aload_n 0, 1) := by decide +kernel
theorem dX5_isFreshNow_36 : decode cX5_isFreshNow 36 = .ok (.getfield 16, 3) := by decide +kernel
theorem dX5_isFreshNow_39 : decode cX5_isFreshNow 39 = .ok (.iload_n 3, 1) := by decide +kernel
theorem dX5_isFreshNow_40 : decode cX5_isFreshNow 40 = .ok (.iaload, 1) := by decide +kernel
theorem dX5_isFreshNow_41 : decode cX5_isFreshNow 41 = .ok (.istore_n 3, 1) := by decide +kernel
theorem dX5_isFreshNow_42 : decode cX5_isFreshNow 42 = .ok (.goto (-38), 3) := by decide +kernel
theorem dX5_isFreshNow_45 : decode cX5_isFreshNow 45 = .ok (.iload_n 2, 1) := by decide +kernel
theorem dX5_isFreshNow_46 : decode cX5_isFreshNow 46 = .ok (.ireturn, 1) := by decide +kernel
theorem dX5_makes_0 : decode cX5_makes 0 = .ok (.aload_n 0, 1) := by decide +kernel
theorem dX5_makes_1 : decode cX5_makes 1 = .ok (.iload_n 1, 1) := by decide +kernel
theorem dX5_makes_2 : decode cX5_makes 2 = .ok (.invokevirtual 113, 3) := by decide +kernel
theorem dX5_makes_5 : decode cX5_makes 5 = .ok (.istore_n 2, 1) := by decide +kernel
theorem dX5_makes_6 : decode cX5_makes 6 = .ok (.iconst 5, 1) := by decide +kernel
theorem dX5_makes_7 : decode cX5_makes 7 = .ok (.iload_n 1, 1) := by decide +kernel
theorem dX5_makes_8 : decode cX5_makes 8 = .ok (.imul, 1) := by decide +kernel
theorem dX5_makes_9 : decode cX5_makes 9 = .ok (.istore_n 3, 1) := by decide +kernel
theorem dX5_makes_10 : decode cX5_makes 10 = .ok (.iload_n 3, 1) := by decide +kernel
theorem dX5_makes_11 : decode cX5_makes 11 = .ok (.iconst 5, 1) := by decide +kernel
theorem dX5_makes_12 : decode cX5_makes 12 = .ok (.iload_n 1, 1) := by decide +kernel
theorem dX5_makes_13 : decode cX5_makes 13 = .ok (.imul, 1) := by decide +kernel
theorem dX5_makes_14 : decode cX5_makes 14 = .ok (.aload_n 0, 1) := by decide +kernel
theorem dX5_makes_15 : decode cX5_makes 15 = .ok (.getfield 22, 3) := by decide +kernel
theorem dX5_makes_18 : decode cX5_makes 18 = .ok (.iload_n 1, 1) := by decide +kernel
theorem dX5_makes_19 : decode cX5_makes 19 = .ok (.iaload, 1) := by decide +kernel
theorem dX5_makes_20 : decode cX5_makes 20 = .ok (.iadd, 1) := by decide +kernel
theorem dX5_makes_21 : decode cX5_makes 21 = .ok (.if_icmp .ge 104, 3) := by decide +kernel
theorem dX5_makes_24 : decode cX5_makes 24 = .ok (.aload_n 0, 1) := by decide +kernel
theorem dX5_makes_25 : decode cX5_makes 25 = .ok (.iload_n 2, 1) := by decide +kernel
theorem dX5_makes_26 : decode cX5_makes 26 = .ok (.aload_n 0, 1) := by decide +kernel
theorem dX5_makes_27 : decode cX5_makes 27 = .ok (.getfield 19, 3) := by decide +kernel
theorem dX5_makes_30 : decode cX5_makes 30 = .ok (.iload_n 3, 1) := by decide +kernel
theorem dX5_makes_31 : decode cX5_makes 31 = .ok (.iaload, 1) := by decide +kernel
theorem dX5_makes_32 : decode cX5_makes 32 = .ok (.aload_n 0, 1) := by decide +kernel
theorem dX5_makes_33 : decode cX5_makes 33 = .ok (.getfield 7, 3) := by decide +kernel
theorem dX5_makes_36 : decode cX5_makes 36 = .ok (.aload_n 0, 1) := by decide +kernel
theorem dX5_makes_37 : decode cX5_makes 37 = .ok (.getfield 19, 3) := by decide +kernel
theorem dX5_makes_40 : decode cX5_makes 40 = .ok (.iload_n 3, 1) := by decide +kernel
theorem dX5_makes_41 : decode cX5_makes 41 = .ok (.iaload, 1) := by decide +kernel
theorem dX5_makes_42 : decode cX5_makes 42 = .ok (.iaload, 1) := by decide +kernel
theorem dX5_makes_43 : decode cX5_makes 43 = .ok (.invokevirtual 117, 3) := by decide +kernel
theorem dX5_makes_46 : decode cX5_makes 46 = .ok (.istore 4, 2) := by decide +kernel
theorem dX5_makes_48 : decode cX5_makes 48 = .ok (.iload 4, 2) := by decide +kernel
theorem dX5_makes_50 : decode cX5_makes 50 = .ok (.bipush (-2), 2) := by decide +kernel
theorem dX5_makes_52 : decode cX5_makes 52 = .ok (.if_icmp .ne 64, 3) := by decide +kernel
theorem dX5_makes_55 : decode cX5_makes 55 = .ok (.aload_n 0, 1) := by decide +kernel
theorem dX5_makes_56 : decode cX5_makes 56 = .ok (.getfield 28, 3) := by decide +kernel
theorem dX5_makes_59 : decode cX5_makes 59 = .ok (.aload_n 0, 1) := by decide +kernel
theorem dX5_makes_60 : decode cX5_makes 60 = .ok (.getfield 110, 3) := by decide +kernel
theorem dX5_makes_63 : decode cX5_makes 63 = .ok (.iload_n 2, 1) := by decide +kernel
theorem dX5_makes_64 : decode cX5_makes 64 = .ok (.iastore, 1) := by decide +kernel
theorem dX5_makes_65 : decode cX5_makes 65 = .ok (.aload_n 0, 1) := by decide +kernel
theorem dX5_makes_66 : decode cX5_makes 66 = .ok (.getfield 31, 3) := by decide +kernel
theorem dX5_makes_69 : decode cX5_makes 69 = .ok (.aload_n 0, 1) := by decide +kernel
theorem dX5_makes_70 : decode cX5_makes 70 = .ok (.getfield 110, 3) := by decide +kernel
theorem dX5_makes_73 : decode cX5_makes 73 = .ok (.aload_n 0, 1) := by decide +kernel
theorem dX5_makes_74 : decode cX5_makes 74 = .ok (.getfield 19, 3) := by decide +kernel
theorem dX5_makes_77 : decode cX5_makes 77 = .ok (.iload_n 3, 1) := by decide +kernel
theorem dX5_makes_78 : decode cX5_makes 78 = .ok (.iaload, 1) := by decide +kernel
theorem dX5_makes_79 : decode cX5_makes 79 = .ok (.iastore, 1) := by decide +kernel
theorem dX5_makes_80 : decode cX5_makes 80 = .ok (.aload_n 0, 1) := by decide +kernel
theorem dX5_makes_81 : decode cX5_makes 81 = .ok (.getfield 34, 3) := by decide +kernel
theorem dX5_makes_84 : decode cX5_makes 84 = .ok (.aload_n 0, 1) := by decide +kernel
theorem dX5_makes_85 : decode cX5_makes 85 = .ok (.getfield 110, 3) := by decide +kernel
theorem dX5_makes_88 : decode cX5_makes 88 = .ok (.aload_n 0, 1) := by decide +kernel
theorem dX5_makes_89 : decode cX5_makes 89 = .ok (.getfield 7, 3) := by decide +kernel
theorem dX5_makes_92 : decode cX5_makes 92 = .ok (.aload_n 0, 1) := by decide +kernel
theorem dX5_makes_93 : decode cX5_makes 93 = .ok (.getfield 19, 3) := by decide +kernel
theorem dX5_makes_96 : decode cX5_makes 96 = .ok (.iload_n 3, 1) := by decide +kernel
theorem dX5_makes_97 : decode cX5_makes 97 = .ok (.iaload, 1) := by decide +kernel
theorem dX5_makes_98 : decode cX5_makes 98 = .ok (.iaload, 1) := by decide +kernel
theorem dX5_makes_99 : decode cX5_makes 99 = .ok (.iastore, 1) := by decide +kernel
theorem dX5_makes_100 : decode cX5_makes 100 = .ok (.aload_n 0, 1) := by decide +kernel
theorem dX5_makes_101 : decode cX5_makes 101 = .ok (.getfield 110, 3) := by decide +kernel
theorem dX5_makes_104 : decode cX5_makes 104 = .ok (.istore 4, 2) := by decide +kernel
theorem dX5_makes_106 : decode cX5_makes 106 = .ok (.aload_n 0, 1) := by decide +kernel
theorem dX5_makes_107 : decode cX5_makes 107 = .ok (.dup, 1) := by decide +kernel
theorem dX5_makes_108 : decode cX5_makes 108 = .ok (.getfield 110, 3) := by decide +kernel
theorem dX5_makes_111 : decode cX5_makes 111 = .ok (.iconst 1, 1) := by decide +kernel
theorem dX5_makes_112 : decode cX5_makes 112 = .ok (.iadd, 1) := by decide +kernel
theorem dX5_makes_113 : decode cX5_makes 113 = .ok (.putfield 110, 3) := by decide +kernel
theorem dX5_makes_116 : decode cX5_makes 116 = .ok (.iload 4, 2) := by decide +kernel
theorem dX5_makes_118 : decode cX5_makes 118 = .ok (.istore_n 2, 1) := by decide +kernel
theorem dX5_makes_119 : decode cX5_makes 119 = .ok (.iinc 3 1, 3) := by decide +kernel
theorem dX5_makes_122 : decode cX5_makes 122 = .ok (.goto (-112), 3) := by decide +kernel
theorem dX5_makes_125 : decode cX5_makes 125 = .ok (.aload_n 0, 1) := by decide +kernel
theorem dX5_makes_126 : decode cX5_makes 126 = .ok (.getfield 37, 3) := by decide +kernel
theorem dX5_makes_129 : decode cX5_makes 129 = .ok (.aload_n 0, 1) := by decide +kernel
theorem dX5_makes_130 : decode cX5_makes 130 = .ok (.getfield 100, 3) := by decide +kernel
theorem dX5_makes_133 : decode cX5_makes 133 = .ok (.iload_n 1, 1) := by decide +kernel
theorem dX5_makes_134 : decode cX5_makes 134 = .ok (.iastore, 1) := by decide +kernel
theorem dX5_makes_135 : decode cX5_makes 135 = .ok (.aload_n 0, 1) := by decide +kernel
theorem dX5_makes_136 : decode cX5_makes 136 = .ok (.getfield 40, 3) := by decide +kernel
theorem dX5_makes_139 : decode cX5_makes 139 = .ok (.aload_n 0, 1) := by decide +kernel
theorem dX5_makes_140 : decode cX5_makes 140 = .ok (.getfield 100, 3) := by decide +kernel
theorem dX5_makes_143 : decode cX5_makes 143 = .ok (.iload_n 2, 1) := by decide +kernel
theorem dX5_makes_144 : decode cX5_makes 144 = .ok (.iastore, 1) := by decide +kernel
theorem dX5_makes_145 : decode cX5_makes 145 = .ok (.aload_n 0, 1) := by decide +kernel
theorem dX5_makes_146 : decode cX5_makes 146 = .ok (.getfield 43, 3) := by decide +kernel
theorem dX5_makes_149 : decode cX5_makes 149 = .ok (.aload_n 0, 1) := by decide +kernel
theorem dX5_makes_150 : decode cX5_makes 150 = .ok (.getfield 100, 3) := by decide +kernel
theorem dX5_makes_153 : decode cX5_makes 153 = .ok (.aload_n 0, 1) := by decide +kernel
theorem dX5_makes_154 : decode cX5_makes 154 = .ok (.getfield 130, 3) := by decide +kernel
theorem dX5_makes_157 : decode cX5_makes 157 = .ok (.iastore, 1) := by decide +kernel
theorem dX5_makes_158 : decode cX5_makes 158 = .ok (.aload_n 0, 1) := by decide +kernel
theorem dX5_makes_159 : decode cX5_makes 159 = .ok (.getfield 46, 3) := by decide +kernel
theorem dX5_makes_162 : decode cX5_makes 162 = .ok (.aload_n 0, 1) := by decide +kernel
theorem dX5_makes_163 : decode cX5_makes 163 = .ok (.getfield 100, 3) := by decide +kernel
theorem dX5_makes_166 : decode cX5_makes 166 = .ok (.iconst 0, 1) := by decide +kernel
theorem dX5_makes_167 : decode cX5_makes 167 = .ok (.iastore, 1) := by decide +kernel
theorem dX5_makes_168 : decode cX5_makes 168 = .ok (.aload_n 0, 1) := by decide +kernel
theorem dX5_makes_169 : decode cX5_makes 169 = .ok (.getfield 49, 3) := by decide +kernel
theorem dX5_makes_172 : decode cX5_makes 172 = .ok (.aload_n 0, 1) := by decide +kernel
theorem dX5_makes_173 : decode cX5_makes 173 = .ok (.getfield 100, 3) := by decide +kernel
theorem dX5_makes_176 : decode cX5_makes 176 = .ok (.iconst 0, 1) := by decide +kernel
theorem dX5_makes_177 : decode cX5_makes 177 = .ok (.bastore, 1) := by decide +kernel
theorem dX5_makes_178 : decode cX5_makes 178 = .ok (.aload_n 0, 1) := by decide +kernel
theorem dX5_makes_179 : decode cX5_makes 179 = .ok (.getfield 53, 3) := by decide +kernel
theorem dX5_makes_182 : decode cX5_makes 182 = .ok (.aload_n 0, 1) := by decide +kernel
theorem dX5_makes_183 : decode cX5_makes 183 = .ok (.getfield 100, 3) := by decide +kernel
theorem dX5_makes_186 : decode cX5_makes 186 = .ok (.iconst 0, 1) := by decide +kernel
theorem dX5_makes_187 : decode cX5_makes 187 = .ok (.bastore, 1) := by decide +kernel
theorem dX5_makes_188 : decode cX5_makes 188 = .ok (.aload_n 0, 1) := by decide +kernel
theorem dX5_makes_189 : decode cX5_makes 189 = .ok (.getfield 56, 3) := by decide +kernel
theorem dX5_makes_192 : decode cX5_makes 192 = .ok (.aload_n 0, 1) := by decide +kernel
theorem dX5_makes_193 : decode cX5_makes 193 = .ok (.getfield 100, 3) := by decide +kernel
theorem dX5_makes_196 : decode cX5_makes 196 = .ok (.iconst 0, 1) := by decide +kernel
theorem dX5_makes_197 : decode cX5_makes 197 = .ok (.bastore, 1) := by decide +kernel
theorem dX5_makes_198 : decode cX5_makes 198 = .ok (.iconst 0, 1) := by decide +kernel
theorem dX5_makes_199 : decode cX5_makes 199 = .ok (.istore_n 3, 1) := by decide +kernel
theorem dX5_makes_200 : decode cX5_makes 200 = .ok (.iload_n 3, 1) := by decide +kernel
theorem dX5_makes_201 : decode cX5_makes 201 = .ok (.iconst 3, 1) := by decide +kernel
theorem dX5_makes_202 : decode cX5_makes 202 = .ok (.if_icmp .ge 23, 3) := by decide +kernel
theorem dX5_makes_205 : decode cX5_makes 205 = .ok (.aload_n 0, 1) := by decide +kernel
theorem dX5_makes_206 : decode cX5_makes 206 = .ok (.getfield 59, 3) := by decide +kernel
theorem dX5_makes_209 : decode cX5_makes 209 = .ok (.iconst 3, 1) := by decide +kernel
theorem dX5_makes_210 : decode cX5_makes 210 = .ok (.aload_n 0, 1) := by decide +kernel
theorem dX5_makes_211 : decode cX5_makes 211 = .ok (.getfield 100, 3) := by decide +kernel
theorem dX5_makes_214 : decode cX5_makes 214 = .ok (.imul, 1) := by decide +kernel
theorem dX5_makes_215 : decode cX5_makes 215 = .ok (.iload_n 3, 1) := by decide +kernel
theorem dX5_makes_216 : decode cX5_makes 216 = .ok (.iadd, 1) := by decide +kernel
theorem dX5_makes_217 : decode cX5_makes 217 = .ok (.iconst (-1), 1) := by decide +kernel
theorem dX5_makes_218 : decode cX5_makes 218 = .ok (.iastore, 1) := by decide +kernel
theorem dX5_makes_219 : decode cX5_makes 219 = .ok (.iinc 3 1, 3) := by decide +kernel
theorem dX5_makes_222 : decode cX5_makes 222 = .ok (.goto (-22), 3) := by decide +kernel
theorem dX5_makes_225 : decode cX5_makes 225 = .ok (.aload_n 0, 1) := by decide +kernel
theorem dX5_makes_226 : decode cX5_makes 226 = .ok (.getfield 25, 3) := by decide +kernel
theorem dX5_makes_229 : decode cX5_makes 229 = .ok (.iload_n 1, 1) := by decide +kernel
theorem dX5_makes_230 : decode cX5_makes 230 = .ok (.aload_n 0, 1) := by decide +kernel
theorem dX5_makes_231 : decode cX5_makes 231 = .ok (.getfield 100, 3) := by decide +kernel
theorem dX5_makes_234 : decode cX5_makes 234 = .ok (.iastore, 1) := by decide +kernel
theorem dX5_makes_235 : decode cX5_makes 235 = .ok (.aload_n 0, 1) := by decide +kernel
theorem dX5_makes_236 : decode cX5_makes 236 = .ok (.dup, 1) := by decide +kernel
theorem dX5_makes_237 : decode cX5_makes 237 = .ok (.getfield 100, 3) := by decide +kernel
theorem dX5_makes_240 : decode cX5_makes 240 = .ok (.iconst 1, 1) := by decide +kernel
theorem dX5_makes_241 : decode cX5_makes 241 = .ok (.iadd, 1) := by decide +kernel
theorem dX5_makes_242 : decode cX5_makes 242 = .ok (.putfield 100, 3) := by decide +kernel
theorem dX5_makes_245 : decode cX5_makes 245 = .ok (.return_, 1) := by decide +kernel
theorem dX5_bake_0 : decode cX5_bake 0 = .ok (.aload_n 0, 1) := by decide +kernel
theorem dX5_bake_1 : decode cX5_bake 1 = .ok (.iload_n 1, 1) := by decide +kernel
theorem dX5_bake_2 : decode cX5_bake 2 = .ok (.invokevirtual 107, 3) := by decide +kernel
theorem dX5_bake_5 : decode cX5_bake 5 = .ok (.istore_n 2, 1) := by decide +kernel
theorem dX5_bake_6 : decode cX5_bake 6 = .ok (.aload_n 0, 1) := by decide +kernel
theorem dX5_bake_7 : decode cX5_bake 7 = .ok (.iload_n 2, 1) := by decide +kernel
theorem dX5_bake_8 : decode cX5_bake 8 = .ok (.ifCond .ne 7, 3) := by decide +kernel
theorem dX5_bake_11 : decode cX5_bake 11 = .ok (.iconst 1, 1) := by decide +kernel
theorem dX5_bake_12 : decode cX5_bake 12 = .ok (.goto 33, 3) := by decide +kernel
theorem dX5_bake_15 : decode cX5_bake 15 = .ok (.aload_n 0, 1) := by decide +kernel
theorem dX5_bake_16 : decode cX5_bake 16 = .ok (.iload_n 1, 1) := by decide +kernel
theorem dX5_bake_17 : decode cX5_bake 17 = .ok (.invokevirtual 124, 3) := by decide +kernel
theorem dX5_bake_20 : decode cX5_bake 20 = .ok (.ifCond .eq 20, 3) := by decide +kernel
theorem dX5_bake_23 : decode cX5_bake 23 = .ok (.aload_n 0, 1) := by decide +kernel
theorem dX5_bake_24 : decode cX5_bake 24 = .ok (.iload_n 1, 1) := by decide +kernel
theorem dX5_bake_25 : decode cX5_bake 25 = .ok (.invokevirtual 127, 3) := by decide +kernel
theorem dX5_bake_28 : decode cX5_bake 28 = .ok (.ifCond .ne 16, 3) := by decide +kernel
theorem dX5_bake_31 : decode cX5_bake 31 = .ok (.aload_n 0, 1) := by decide +kernel
theorem dX5_bake_32 : decode cX5_bake 32 = .ok (.getfield 100, 3) := by decide +kernel
theorem dX5_bake_35 : decode cX5_bake 35 = .ok (.bipush 60, 2) := by decide +kernel
theorem dX5_bake_37 : decode cX5_bake 37 = .ok (.if_icmp .ne 7, 3) := by decide +kernel
theorem dX5_bake_40 : decode cX5_bake 40 = .ok (.iconst 2, 1) := by decide +kernel
theorem dX5_bake_41 : decode cX5_bake 41 = .ok (.goto 4, 3) := by decide +kernel
theorem dX5_bake_44 : decode cX5_bake 44 = .ok (.iconst 0, 1) := by decide +kernel
theorem dX5_bake_45 : decode cX5_bake 45 = .ok (.invokevirtual 103, 3) := by decide +kernel
theorem dX5_bake_48 : decode cX5_bake 48 = .ok (.ifCond .ne 5, 3) := by decide +kernel
theorem dX5_bake_51 : decode cX5_bake 51 = .ok (.iconst 0, 1) := by decide +kernel
theorem dX5_bake_52 : decode cX5_bake 52 = .ok (.ireturn, 1) := by decide +kernel
theorem dX5_bake_53 : decode cX5_bake 53 = .ok (.aload_n 0, 1) := by decide +kernel
theorem dX5_bake_54 : decode cX5_bake 54 = .ok (.iload_n 1, 1) := by decide +kernel
theorem dX5_bake_55 : decode cX5_bake 55 = .ok (.invokevirtual 127, 3) := by decide +kernel
theorem dX5_bake_58 : decode cX5_bake 58 = .ok (.ifCond .ne 8, 3) := by decide +kernel
theorem dX5_bake_61 : decode cX5_bake 61 = .ok (.aload_n 0, 1) := by decide +kernel
theorem dX5_bake_62 : decode cX5_bake 62 = .ok (.iload_n 1, 1) := by decide +kernel
theorem dX5_bake_63 : decode cX5_bake 63 = .ok (.invokevirtual 133, 3) := by decide +kernel
theorem dX5_bake_66 : decode cX5_bake 66 = .ok (.aload_n 0, 1) := by decide +kernel
theorem dX5_bake_67 : decode cX5_bake 67 = .ok (.getfield 25, 3) := by decide +kernel
theorem dX5_bake_70 : decode cX5_bake 70 = .ok (.iload_n 1, 1) := by decide +kernel
theorem dX5_bake_71 : decode cX5_bake 71 = .ok (.iaload, 1) := by decide +kernel
theorem dX5_bake_72 : decode cX5_bake 72 = .ok (.ireturn, 1) := by decide +kernel
theorem dX5_joins_0 : decode cX5_joins 0 = .ok (.iload_n 2, 1) := by decide +kernel
theorem dX5_joins_1 : decode cX5_joins 1 = .ok (.istore_n 3, 1) := by decide +kernel
theorem dX5_joins_2 : decode cX5_joins 2 = .ok (.iconst 0, 1) := by decide +kernel
theorem dX5_joins_3 : decode cX5_joins 3 = .ok (.istore 4, 2) := by decide +kernel
theorem dX5_joins_5 : decode cX5_joins 5 = .ok (.iload 4, 2) := by decide +kernel
theorem dX5_joins_7 : decode cX5_joins 7 = .ok (.aload_n 0, 1) := by decide +kernel
theorem dX5_joins_8 : decode cX5_joins 8 = .ok (.getfield 93, 3) := by decide +kernel
theorem dX5_joins_11 : decode cX5_joins 11 = .ok (.if_icmp .ge 31, 3) := by decide +kernel
theorem dX5_joins_14 : decode cX5_joins 14 = .ok (.aload_n 0, 1) := by decide +kernel
theorem dX5_joins_15 : decode cX5_joins 15 = .ok (.getfield 16, 3) := by decide +kernel
theorem dX5_joins_18 : decode cX5_joins 18 = .ok (.iload 4, 2) := by decide +kernel
theorem dX5_joins_20 : decode cX5_joins 20 = .ok (.iaload, 1) := by decide +kernel
theorem dX5_joins_21 : decode cX5_joins 21 = .ok (.iload_n 1, 1) := by decide +kernel
theorem dX5_joins_22 : decode cX5_joins 22 = .ok (.if_icmp .ne 14, 3) := by decide +kernel
theorem dX5_joins_25 : decode cX5_joins 25 = .ok (.aload_n 0, 1) := by decide +kernel
theorem dX5_joins_26 : decode cX5_joins 26 = .ok (.getfield 84, 3) := by decide +kernel
theorem dX5_joins_29 : decode cX5_joins 29 = .ok (.iload_n 3, 1) := by decide +kernel
theorem dX5_joins_30 : decode cX5_joins 30 = .ok (.iload 4, 2) := by decide +kernel
theorem dX5_joins_32 : decode cX5_joins 32 = .ok (.iastore, 1) := by decide +kernel
theorem dX5_joins_33 : decode cX5_joins 33 = .ok (.iinc 3 1, 3) := by decide +kernel
theorem dX5_joins_36 : decode cX5_joins 36 = .ok (.iinc 4 1, 3) := by decide +kernel
theorem dX5_joins_39 : decode cX5_joins 39 = .ok (.goto (-34), 3) := by decide +kernel
theorem dX5_joins_42 : decode cX5_joins 42 = .ok (.iload_n 3, 1) := by decide +kernel
theorem dX5_joins_43 : decode cX5_joins 43 = .ok (.ireturn, 1) := by decide +kernel
theorem dX5_bakeAll_0 : decode cX5_bakeAll 0 = .ok (.aload_n 0, 1) := by decide +kernel
theorem dX5_bakeAll_1 : decode cX5_bakeAll 1 = .ok (.getfield 100, 3) := by decide +kernel
theorem dX5_bakeAll_4 : decode cX5_bakeAll 4 = .ok (.istore_n 1, 1) := by decide +kernel
theorem dX5_bakeAll_5 : decode cX5_bakeAll 5 = .ok (.aload_n 0, 1) := by decide +kernel
theorem dX5_bakeAll_6 : decode cX5_bakeAll 6 = .ok (.getfield 110, 3) := by decide +kernel
theorem dX5_bakeAll_9 : decode cX5_bakeAll 9 = .ok (.istore_n 2, 1) := by decide +kernel
theorem dX5_bakeAll_10 : decode cX5_bakeAll 10 = .ok (.iconst 0, 1) := by decide +kernel
theorem dX5_bakeAll_11 : decode cX5_bakeAll 11 = .ok (.istore_n 3, 1) := by decide +kernel
theorem dX5_bakeAll_12 : decode cX5_bakeAll 12 = .ok (.iload_n 3, 1) := by decide +kernel
theorem dX5_bakeAll_13 : decode cX5_bakeAll 13 = .ok (.aload_n 0, 1) := by decide +kernel
theorem dX5_bakeAll_14 : decode cX5_bakeAll 14 = .ok (.getfield 93, 3) := by decide +kernel
theorem dX5_bakeAll_17 : decode cX5_bakeAll 17 = .ok (.if_icmp .ge 21, 3) := by decide +kernel
theorem dX5_bakeAll_20 : decode cX5_bakeAll 20 = .ok (.aload_n 0, 1) := by decide +kernel
theorem dX5_bakeAll_21 : decode cX5_bakeAll 21 = .ok (.getfield 87, 3) := by decide +kernel
theorem dX5_bakeAll_24 : decode cX5_bakeAll 24 = .ok (.iload_n 3, 1) := by decide +kernel
theorem dX5_bakeAll_25 : decode cX5_bakeAll 25 = .ok (.aload_n 0, 1) := by decide +kernel
theorem dX5_bakeAll_26 : decode cX5_bakeAll 26 = .ok (.getfield 25, 3) := by decide +kernel
theorem dX5_bakeAll_29 : decode cX5_bakeAll 29 = .ok (.iload_n 3, 1) := by decide +kernel
theorem dX5_bakeAll_30 : decode cX5_bakeAll 30 = .ok (.iaload, 1) := by decide +kernel
theorem dX5_bakeAll_31 : decode cX5_bakeAll 31 = .ok (.iastore, 1) := by decide +kernel
theorem dX5_bakeAll_32 : decode cX5_bakeAll 32 = .ok (.iinc 3 1, 3) := by decide +kernel
theorem dX5_bakeAll_35 : decode cX5_bakeAll 35 = .ok (.goto (-23), 3) := by decide +kernel
theorem dX5_bakeAll_38 : decode cX5_bakeAll 38 = .ok (.aload_n 0, 1) := by decide +kernel
theorem dX5_bakeAll_39 : decode cX5_bakeAll 39 = .ok (.iconst (-1), 1) := by decide +kernel
theorem dX5_bakeAll_40 : decode cX5_bakeAll 40 = .ok (.iconst 0, 1) := by decide +kernel
theorem dX5_bakeAll_41 : decode cX5_bakeAll 41 = .ok (.invokevirtual 137, 3) := by decide +kernel
theorem dX5_bakeAll_44 : decode cX5_bakeAll 44 = .ok (.istore_n 3, 1) := by decide +kernel
theorem dX5_bakeAll_45 : decode cX5_bakeAll 45 = .ok (.iconst 1, 1) := by decide +kernel
theorem dX5_bakeAll_46 : decode cX5_bakeAll 46 = .ok (.istore 4, 2) := by decide +kernel
theorem dX5_bakeAll_48 : decode cX5_bakeAll 48 = .ok (.iconst 0, 1) := by decide +kernel
theorem dX5_bakeAll_49 : decode cX5_bakeAll 49 = .ok (.istore 5, 2) := by decide +kernel
theorem dX5_bakeAll_51 : decode cX5_bakeAll 51 = .ok (.iload 5, 2) := by decide +kernel
theorem dX5_bakeAll_53 : decode cX5_bakeAll 53 = .ok (.iload_n 3, 1) := by decide +kernel
theorem dX5_bakeAll_54 : decode cX5_bakeAll 54 = .ok (.if_icmp .ge 76, 3) := by decide +kernel
theorem dX5_bakeAll_57 : decode cX5_bakeAll 57 = .ok (.iload 4, 2) := by decide +kernel
theorem dX5_bakeAll_59 : decode cX5_bakeAll 59 = .ok (.ifCond .eq 71, 3) := by decide +kernel
theorem dX5_bakeAll_62 : decode cX5_bakeAll 62 = .ok (.aload_n 0, 1) := by decide +kernel
theorem dX5_bakeAll_63 : decode cX5_bakeAll 63 = .ok (.getfield 84, 3) := by decide +kernel
theorem dX5_bakeAll_66 : decode cX5_bakeAll 66 = .ok (.iload 5, 2) := by decide +kernel
theorem dX5_bakeAll_68 : decode cX5_bakeAll 68 = .ok (.iaload, 1) := by decide +kernel
theorem dX5_bakeAll_69 : decode cX5_bakeAll 69 = .ok (.istore 6, 2) := by decide +kernel
theorem dX5_bakeAll_71 : decode cX5_bakeAll 71 = .ok (.aload_n 0, 1) := by decide +kernel
theorem dX5_bakeAll_72 : decode cX5_bakeAll 72 = .ok (.iload 6, 2) := by decide +kernel
theorem dX5_bakeAll_74 : decode cX5_bakeAll 74 = .ok (.invokevirtual 141, 3) := by decide +kernel
theorem dX5_bakeAll_77 : decode cX5_bakeAll 77 = .ok (.istore 7, 2) := by decide +kernel
theorem dX5_bakeAll_79 : decode cX5_bakeAll 79 = .ok (.iload 7, 2) := by decide +kernel
theorem dX5_bakeAll_81 : decode cX5_bakeAll 81 = .ok (.ifCond .ne 12, 3) := by decide +kernel
theorem dX5_bakeAll_84 : decode cX5_bakeAll 84 = .ok (.aload_n 0, 1) := by decide +kernel
theorem dX5_bakeAll_85 : decode cX5_bakeAll 85 = .ok (.getfield 100, 3) := by decide +kernel
theorem dX5_bakeAll_88 : decode cX5_bakeAll 88 = .ok (.bipush 60, 2) := by decide +kernel
theorem dX5_bakeAll_90 : decode cX5_bakeAll 90 = .ok (.if_icmp .ge 7, 3) := by decide +kernel
theorem dX5_bakeAll_93 : decode cX5_bakeAll 93 = .ok (.iconst 1, 1) := by decide +kernel
theorem dX5_bakeAll_94 : decode cX5_bakeAll 94 = .ok (.goto 4, 3) := by decide +kernel
theorem dX5_bakeAll_97 : decode cX5_bakeAll 97 = .ok (.iconst 0, 1) := by decide +kernel
theorem dX5_bakeAll_98 : decode cX5_bakeAll 98 = .ok (.istore 4, 2) := by decide +kernel
theorem dX5_bakeAll_100 : decode cX5_bakeAll 100 = .ok (.iload 7, 2) := by decide +kernel
theorem dX5_bakeAll_102 : decode cX5_bakeAll 102 = .ok (.ifCond .ne 14, 3) := by decide +kernel
theorem dX5_bakeAll_105 : decode cX5_bakeAll 105 = .ok (.iload 4, 2) := by decide +kernel
theorem dX5_bakeAll_107 : decode cX5_bakeAll 107 = .ok (.ifCond .eq 9, 3) := by decide +kernel
theorem dX5_bakeAll_110 : decode cX5_bakeAll 110 = .ok (.aload_n 0, 1) := by decide +kernel
theorem dX5_bakeAll_111 : decode cX5_bakeAll 111 = .ok (.iload 6, 2) := by decide +kernel
theorem dX5_bakeAll_113 : decode cX5_bakeAll 113 = .ok (.invokevirtual 133, 3) := by decide +kernel
theorem dX5_bakeAll_116 : decode cX5_bakeAll 116 = .ok (.aload_n 0, 1) := by decide +kernel
theorem dX5_bakeAll_117 : decode cX5_bakeAll 117 = .ok (.iload 6, 2) := by decide +kernel
theorem dX5_bakeAll_119 : decode cX5_bakeAll 119 = .ok (.iload_n 3, 1) := by decide +kernel
theorem dX5_bakeAll_120 : decode cX5_bakeAll 120 = .ok (.invokevirtual 137, 3) := by decide +kernel
theorem dX5_bakeAll_123 : decode cX5_bakeAll 123 = .ok (.istore_n 3, 1) := by decide +kernel
theorem dX5_bakeAll_124 : decode cX5_bakeAll 124 = .ok (.iinc 5 1, 3) := by decide +kernel
theorem dX5_bakeAll_127 : decode cX5_bakeAll 127 = .ok (.goto (-76), 3) := by decide +kernel
theorem dX5_bakeAll_130 : decode cX5_bakeAll 130 = .ok (.aload_n 0, 1) := by decide +kernel
theorem dX5_bakeAll_131 : decode cX5_bakeAll 131 = .ok (.iload 4, 2) := by decide +kernel
theorem dX5_bakeAll_133 : decode cX5_bakeAll 133 = .ok (.ifCond .eq 7, 3) := by decide +kernel
theorem dX5_bakeAll_136 : decode cX5_bakeAll 136 = .ok (.iconst 0, 1) := by decide +kernel
theorem dX5_bakeAll_137 : decode cX5_bakeAll 137 = .ok (.goto 4, 3) := by decide +kernel
theorem dX5_bakeAll_140 : decode cX5_bakeAll 140 = .ok (.iconst 1, 1) := by decide +kernel
theorem dX5_bakeAll_141 : decode cX5_bakeAll 141 = .ok (.invokevirtual 103, 3) := by decide +kernel
theorem dX5_bakeAll_144 : decode cX5_bakeAll 144 = .ok (.ifCond .ne 47, 3) := by decide +kernel
theorem dX5_bakeAll_147 : decode cX5_bakeAll 147 = .ok (.aload_n 0, 1) := by decide +kernel
theorem dX5_bakeAll_148 : decode cX5_bakeAll 148 = .ok (.iload_n 1, 1) := by decide +kernel
theorem dX5_bakeAll_149 : decode cX5_bakeAll 149 = .ok (.putfield 100, 3) := by decide +kernel
theorem dX5_bakeAll_152 : decode cX5_bakeAll 152 = .ok (.aload_n 0, 1) := by decide +kernel
theorem dX5_bakeAll_153 : decode cX5_bakeAll 153 = .ok (.iload_n 2, 1) := by decide +kernel
theorem dX5_bakeAll_154 : decode cX5_bakeAll 154 = .ok (.putfield 110, 3) := by decide +kernel
theorem dX5_bakeAll_157 : decode cX5_bakeAll 157 = .ok (.iconst 0, 1) := by decide +kernel
theorem dX5_bakeAll_158 : decode cX5_bakeAll 158 = .ok (.istore 5, 2) := by decide +kernel
theorem dX5_bakeAll_160 : decode cX5_bakeAll 160 = .ok (.iload 5, 2) := by decide +kernel
theorem dX5_bakeAll_162 : decode cX5_bakeAll 162 = .ok (.aload_n 0, 1) := by decide +kernel
theorem dX5_bakeAll_163 : decode cX5_bakeAll 163 = .ok (.getfield 93, 3) := by decide +kernel
theorem dX5_bakeAll_166 : decode cX5_bakeAll 166 = .ok (.if_icmp .ge 23, 3) := by decide +kernel
theorem dX5_bakeAll_169 : decode cX5_bakeAll 169 = .ok (.aload_n 0, 1) := by decide +kernel
theorem dX5_bakeAll_170 : decode cX5_bakeAll 170 = .ok (.getfield 25, 3) := by decide +kernel
theorem dX5_bakeAll_173 : decode cX5_bakeAll 173 = .ok (.iload 5, 2) := by decide +kernel
theorem dX5_bakeAll_175 : decode cX5_bakeAll 175 = .ok (.aload_n 0, 1) := by decide +kernel
theorem dX5_bakeAll_176 : decode cX5_bakeAll 176 = .ok (.getfield 87, 3) := by decide +kernel
theorem dX5_bakeAll_179 : decode cX5_bakeAll 179 = .ok (.iload 5, 2) := by decide +kernel
theorem dX5_bakeAll_181 : decode cX5_bakeAll 181 = .ok (.iaload, 1) := by decide +kernel
theorem dX5_bakeAll_182 : decode cX5_bakeAll 182 = .ok (.iastore, 1) := by decide +kernel
theorem dX5_bakeAll_183 : decode cX5_bakeAll 183 = .ok (.iinc 5 1, 3) := by decide +kernel
theorem dX5_bakeAll_186 : decode cX5_bakeAll 186 = .ok (.goto (-26), 3) := by decide +kernel
theorem dX5_bakeAll_189 : decode cX5_bakeAll 189 = .ok (.iconst 0, 1) := by decide +kernel
theorem dX5_bakeAll_190 : decode cX5_bakeAll 190 = .ok (.ireturn, 1) := by decide +kernel
theorem dX5_bakeAll_191 : decode cX5_bakeAll 191 = .ok (.aload_n 0, 1) := by decide +kernel
theorem dX5_bakeAll_192 : decode cX5_bakeAll 192 = .ok (.getfield 100, 3) := by decide +kernel
theorem dX5_bakeAll_195 : decode cX5_bakeAll 195 = .ok (.iload_n 1, 1) := by decide +kernel
theorem dX5_bakeAll_196 : decode cX5_bakeAll 196 = .ok (.isub, 1) := by decide +kernel
theorem dX5_bakeAll_197 : decode cX5_bakeAll 197 = .ok (.ireturn, 1) := by decide +kernel
theorem dX5_isFresh_0 : decode cX5_isFresh 0 = .ok (.aload_n 0, 1) := by decide +kernel
theorem dX5_isFresh_1 : decode cX5_isFresh 1 = .ok (.aload_n 0, 1) := by decide +kernel
theorem dX5_isFresh_2 : decode cX5_isFresh 2 = .ok (.iload_n 1, 1) := by decide +kernel
theorem dX5_isFresh_3 : decode cX5_isFresh 3 = .ok (.invokevirtual 107, 3) := by decide +kernel
theorem dX5_isFresh_6 : decode cX5_isFresh 6 = .ok (.ifCond .eq 7, 3) := by decide +kernel
theorem dX5_isFresh_9 : decode cX5_isFresh 9 = .ok (.iconst 0, 1) := by decide +kernel
theorem dX5_isFresh_10 : decode cX5_isFresh 10 = .ok (.goto 4, 3) := by decide +kernel
theorem dX5_isFresh_13 : decode cX5_isFresh 13 = .ok (.iconst 1, 1) := by decide +kernel
theorem dX5_isFresh_14 : decode cX5_isFresh 14 = .ok (.invokevirtual 103, 3) := by decide +kernel
theorem dX5_isFresh_17 : decode cX5_isFresh 17 = .ok (.ifCond .eq 15, 3) := by decide +kernel
theorem dX5_isFresh_20 : decode cX5_isFresh 20 = .ok (.aload_n 0, 1) := by decide +kernel
theorem dX5_isFresh_21 : decode cX5_isFresh 21 = .ok (.iload_n 1, 1) := by decide +kernel
theorem dX5_isFresh_22 : decode cX5_isFresh 22 = .ok (.invokevirtual 141, 3) := by decide +kernel
theorem dX5_isFresh_25 : decode cX5_isFresh 25 = .ok (.ifCond .eq 7, 3) := by decide +kernel
theorem dX5_isFresh_28 : decode cX5_isFresh 28 = .ok (.iconst 1, 1) := by decide +kernel
theorem dX5_isFresh_29 : decode cX5_isFresh 29 = .ok (.goto 4, 3) := by decide +kernel
theorem dX5_isFresh_32 : decode cX5_isFresh 32 = .ok (.iconst 0, 1) := by decide +kernel
theorem dX5_isFresh_33 : decode cX5_isFresh 33 = .ok (.ireturn, 1) := by decide +kernel
theorem dX5_isFreshAnew_0 : decode cX5_isFreshAnew 0 = .ok (.aload_n 0, 1) := by decide +kernel
theorem dX5_isFreshAnew_1 : decode cX5_isFreshAnew 1 = .ok (.aload_n 0, 1) := by decide +kernel
theorem dX5_isFreshAnew_2 : decode cX5_isFreshAnew 2 = .ok (.iload_n 1, 1) := by decide +kernel
theorem dX5_isFreshAnew_3 : decode cX5_isFreshAnew 3 = .ok (.invokevirtual 107, 3) := by decide +kernel
theorem dX5_isFreshAnew_6 : decode cX5_isFreshAnew 6 = .ok (.ifCond .eq 7, 3) := by decide +kernel
theorem dX5_isFreshAnew_9 : decode cX5_isFreshAnew 9 = .ok (.iconst 0, 1) := by decide +kernel
theorem dX5_isFreshAnew_10 : decode cX5_isFreshAnew 10 = .ok (.goto 4, 3) := by decide +kernel
theorem dX5_isFreshAnew_13 : decode cX5_isFreshAnew 13 = .ok (.iconst 1, 1) := by decide +kernel
theorem dX5_isFreshAnew_14 : decode cX5_isFreshAnew 14 = .ok (.invokevirtual 103, 3) := by decide +kernel
theorem dX5_isFreshAnew_17 : decode cX5_isFreshAnew 17 = .ok (.ifCond .eq 15, 3) := by decide +kernel
theorem dX5_isFreshAnew_20 : decode cX5_isFreshAnew 20 = .ok (.aload_n 0, 1) := by decide +kernel
theorem dX5_isFreshAnew_21 : decode cX5_isFreshAnew 21 = .ok (.iload_n 1, 1) := by decide +kernel
theorem dX5_isFreshAnew_22 : decode cX5_isFreshAnew 22 = .ok (.invokevirtual 141, 3) := by decide +kernel
theorem dX5_isFreshAnew_25 : decode cX5_isFreshAnew 25 = .ok (.ifCond .eq 7, 3) := by decide +kernel
theorem dX5_isFreshAnew_28 : decode cX5_isFreshAnew 28 = .ok (.iconst 1, 1) := by decide +kernel
theorem dX5_isFreshAnew_29 : decode cX5_isFreshAnew 29 = .ok (.goto 4, 3) := by decide +kernel
theorem dX5_isFreshAnew_32 : decode cX5_isFreshAnew 32 = .ok (.iconst 0, 1) := by decide +kernel
theorem dX5_isFreshAnew_33 : decode cX5_isFreshAnew 33 = .ok (.ireturn, 1) := by decide +kernel
theorem dX5_layers_0 : decode cX5_layers 0 = .ok (.aload_n 0, 1) := by decide +kernel
theorem dX5_layers_1 : decode cX5_layers 1 = .ok (.iconst 0, 1) := by decide +kernel
theorem dX5_layers_2 : decode cX5_layers 2 = .ok (.putfield 90, 3) := by decide +kernel
theorem dX5_layers_5 : decode cX5_layers 5 = .ok (.aload_n 0, 1) := by decide +kernel
theorem dX5_layers_6 : decode cX5_layers 6 = .ok (.getfield 110, 3) := by decide +kernel
theorem dX5_layers_9 : decode cX5_layers 9 = .ok (.ireturn, 1) := by decide +kernel
theorem dX5_bakes_0 : decode cX5_bakes 0 = .ok (.aload_n 0, 1) := by decide +kernel
theorem dX5_bakes_1 : decode cX5_bakes 1 = .ok (.iconst 0, 1) := by decide +kernel
theorem dX5_bakes_2 : decode cX5_bakes 2 = .ok (.putfield 90, 3) := by decide +kernel
theorem dX5_bakes_5 : decode cX5_bakes 5 = .ok (.aload_n 0, 1) := by decide +kernel
theorem dX5_bakes_6 : decode cX5_bakes 6 = .ok (.getfield 100, 3) := by decide +kernel
theorem dX5_bakes_9 : decode cX5_bakes 9 = .ok (.ireturn, 1) := by decide +kernel
theorem dX5_latest_0 : decode cX5_latest 0 = .ok (.aload_n 0, 1) := by decide +kernel
theorem dX5_latest_1 : decode cX5_latest 1 = .ok (.aload_n 0, 1) := by decide +kernel
theorem dX5_latest_2 : decode cX5_latest 2 = .ok (.iload_n 1, 1) := by decide +kernel
theorem dX5_latest_3 : decode cX5_latest 3 = .ok (.invokevirtual 107, 3) := by decide +kernel
theorem dX5_latest_6 : decode cX5_latest 6 = .ok (.ifCond .eq 7, 3) := by decide +kernel
theorem dX5_latest_9 : decode cX5_latest 9 = .ok (.iconst 0, 1) := by decide +kernel
theorem dX5_latest_10 : decode cX5_latest 10 = .ok (.goto 4, 3) := by decide +kernel
theorem dX5_latest_13 : decode cX5_latest 13 = .ok (.iconst 1, 1) := by decide +kernel
theorem dX5_latest_14 : decode cX5_latest 14 = .ok (.invokevirtual 103, 3) := by decide +kernel
theorem dX5_latest_17 : decode cX5_latest 17 = .ok (.ifCond .eq 12, 3) := by decide +kernel
theorem dX5_latest_20 : decode cX5_latest 20 = .ok (.aload_n 0, 1) := by decide +kernel
theorem dX5_latest_21 : decode cX5_latest 21 = .ok (.getfield 25, 3) := by decide +kernel
theorem dX5_latest_24 : decode cX5_latest 24 = .ok (.iload_n 1, 1) := by decide +kernel
theorem dX5_latest_25 : decode cX5_latest 25 = .ok (.iaload, 1) := by decide +kernel
theorem dX5_latest_26 : decode cX5_latest 26 = .ok (.goto 4, 3) := by decide +kernel
theorem dX5_latest_29 : decode cX5_latest 29 = .ok (.iconst 0, 1) := by decide +kernel
theorem dX5_latest_30 : decode cX5_latest 30 = .ok (.ireturn, 1) := by decide +kernel
theorem dX5_top_0 : decode cX5_top 0 = .ok (.aload_n 0, 1) := by decide +kernel
theorem dX5_top_1 : decode cX5_top 1 = .ok (.aload_n 0, 1) := by decide +kernel
theorem dX5_top_2 : decode cX5_top 2 = .ok (.iload_n 1, 1) := by decide +kernel
theorem dX5_top_3 : decode cX5_top 3 = .ok (.invokevirtual 144, 3) := by decide +kernel
theorem dX5_top_6 : decode cX5_top 6 = .ok (.ifCond .eq 7, 3) := by decide +kernel
theorem dX5_top_9 : decode cX5_top 9 = .ok (.iconst 0, 1) := by decide +kernel
theorem dX5_top_10 : decode cX5_top 10 = .ok (.goto 4, 3) := by decide +kernel
theorem dX5_top_13 : decode cX5_top 13 = .ok (.iconst 1, 1) := by decide +kernel
theorem dX5_top_14 : decode cX5_top 14 = .ok (.invokevirtual 103, 3) := by decide +kernel
theorem dX5_top_17 : decode cX5_top 17 = .ok (.ifCond .eq 12, 3) := by decide +kernel
theorem dX5_top_20 : decode cX5_top 20 = .ok (.aload_n 0, 1) := by decide +kernel
theorem dX5_top_21 : decode cX5_top 21 = .ok (.getfield 40, 3) := by decide +kernel
theorem dX5_top_24 : decode cX5_top 24 = .ok (.iload_n 1, 1) := by decide +kernel
theorem dX5_top_25 : decode cX5_top 25 = .ok (.iaload, 1) := by decide +kernel
theorem dX5_top_26 : decode cX5_top 26 = .ok (.goto 4, 3) := by decide +kernel
theorem dX5_top_29 : decode cX5_top 29 = .ok (.iconst 0, 1) := by decide +kernel
theorem dX5_top_30 : decode cX5_top 30 = .ok (.ireturn, 1) := by decide +kernel
theorem dX5_running_0 : decode cX5_running 0 = .ok (.iconst 0, 1) := by decide +kernel
theorem dX5_running_1 : decode cX5_running 1 = .ok (.istore_n 2, 1) := by decide +kernel
theorem dX5_running_2 : decode cX5_running 2 = .ok (.iconst 0, 1) := by decide +kernel
theorem dX5_running_3 : decode cX5_running 3 = .ok (.istore_n 3, 1) := by decide +kernel
theorem dX5_running_4 : decode cX5_running 4 = .ok (.iload_n 3, 1) := by decide +kernel
theorem dX5_running_5 : decode cX5_running 5 = .ok (.aload_n 0, 1) := by decide +kernel
theorem dX5_running_6 : decode cX5_running 6 = .ok (.getfield 147, 3) := by decide +kernel
theorem dX5_running_9 : decode cX5_running 9 = .ok (.if_icmp .ge 27, 3) := by decide +kernel
theorem dX5_running_12 : decode cX5_running 12 = .ok (.iload_n 2, 1) := by decide +kernel
theorem dX5_running_13 : decode cX5_running 13 = .ok (.aload_n 0, 1) := by decide +kernel
theorem dX5_running_14 : decode cX5_running 14 = .ok (.getfield 81, 3) := by decide +kernel
theorem dX5_running_17 : decode cX5_running 17 = .ok (.iload_n 3, 1) := by decide +kernel
theorem dX5_running_18 : decode cX5_running 18 = .ok (.iaload, 1) := by decide +kernel
theorem dX5_running_19 : decode cX5_running 19 = .ok (.iload_n 1, 1) := by decide +kernel
theorem dX5_running_20 : decode cX5_running 20 = .ok (.if_icmp .ne 7, 3) := by decide +kernel
theorem dX5_running_23 : decode cX5_running 23 = .ok (.iconst 1, 1) := by decide +kernel
theorem dX5_running_24 : decode cX5_running 24 = .ok (.goto 4, 3) := by decide +kernel
theorem dX5_running_27 : decode cX5_running 27 = .ok (.iconst 0, 1) := by decide +kernel
theorem dX5_running_28 : decode cX5_running 28 = .ok (.iadd, 1) := by decide +kernel
theorem dX5_running_29 : decode cX5_running 29 = .ok (.istore_n 2, 1) := by decide +kernel
theorem dX5_running_30 : decode cX5_running 30 = .ok (.iinc 3 1, 3) := by decide +kernel
theorem dX5_running_33 : decode cX5_running 33 = .ok (.goto (-29), 3) := by decide +kernel
theorem dX5_running_36 : decode cX5_running 36 = .ok (.iload_n 2, 1) := by decide +kernel
theorem dX5_running_37 : decode cX5_running 37 = .ok (.ireturn, 1) := by decide +kernel
theorem dX5_isTooOld_0 : decode cX5_isTooOld 0 = .ok (.aload_n 0, 1) := by decide +kernel
theorem dX5_isTooOld_1 : decode cX5_isTooOld 1 = .ok (.getfield 130, 3) := by decide +kernel
theorem dX5_isTooOld_4 : decode cX5_isTooOld 4 = .ok (.aload_n 0, 1) := by decide +kernel
theorem dX5_isTooOld_5 : decode cX5_isTooOld 5 = .ok (.getfield 43, 3) := by decide +kernel
theorem dX5_isTooOld_8 : decode cX5_isTooOld 8 = .ok (.iload_n 1, 1) := by decide +kernel
theorem dX5_isTooOld_9 : decode cX5_isTooOld 9 = .ok (.iaload, 1) := by decide +kernel
theorem dX5_isTooOld_10 : decode cX5_isTooOld 10 = .ok (.isub, 1) := by decide +kernel
theorem dX5_isTooOld_11 : decode cX5_isTooOld 11 = .ok (.aload_n 0, 1) := by decide +kernel
theorem dX5_isTooOld_12 : decode cX5_isTooOld 12 = .ok (.getfield 65, 3) := by decide +kernel
theorem dX5_isTooOld_15 : decode cX5_isTooOld 15 = .ok (.if_icmp .le 7, 3) := by decide +kernel
theorem dX5_isTooOld_18 : decode cX5_isTooOld 18 = .ok (.iconst 1, 1) := by decide +kernel
theorem dX5_isTooOld_19 : decode cX5_isTooOld 19 = .ok (.goto 4, 3) := by decide +kernel
theorem dX5_isTooOld_22 : decode cX5_isTooOld 22 = .ok (.iconst 0, 1) := by decide +kernel
theorem dX5_isTooOld_23 : decode cX5_isTooOld 23 = .ok (.ireturn, 1) := by decide +kernel
theorem dX5_test_0 : decode cX5_test 0 = .ok (.aload_n 0, 1) := by decide +kernel
theorem dX5_test_1 : decode cX5_test 1 = .ok (.iload_n 1, 1) := by decide +kernel
theorem dX5_test_2 : decode cX5_test 2 = .ok (.invokevirtual 144, 3) := by decide +kernel
theorem dX5_test_5 : decode cX5_test 5 = .ok (.istore_n 3, 1) := by decide +kernel
theorem dX5_test_6 : decode cX5_test 6 = .ok (.aload_n 0, 1) := by decide +kernel
theorem dX5_test_7 : decode cX5_test 7 = .ok (.iload_n 3, 1) := by decide +kernel
theorem dX5_test_8 : decode cX5_test 8 = .ok (.ifCond .ne 7, 3) := by decide +kernel
theorem dX5_test_11 : decode cX5_test 11 = .ok (.iconst 1, 1) := by decide +kernel
theorem dX5_test_12 : decode cX5_test 12 = .ok (.goto 17, 3) := by decide +kernel
theorem dX5_test_15 : decode cX5_test 15 = .ok (.aload_n 0, 1) := by decide +kernel
theorem dX5_test_16 : decode cX5_test 16 = .ok (.getfield 53, 3) := by decide +kernel
theorem dX5_test_19 : decode cX5_test 19 = .ok (.iload_n 1, 1) := by decide +kernel
theorem dX5_test_20 : decode cX5_test 20 = .ok (.baload, 1) := by decide +kernel
theorem dX5_test_21 : decode cX5_test 21 = .ok (.ifCond .eq 7, 3) := by decide +kernel
theorem dX5_test_24 : decode cX5_test 24 = .ok (.iconst 2, 1) := by decide +kernel
theorem dX5_test_25 : decode cX5_test 25 = .ok (.goto 4, 3) := by decide +kernel
theorem dX5_test_28 : decode cX5_test 28 = .ok (.iconst 0, 1) := by decide +kernel
theorem dX5_test_29 : decode cX5_test 29 = .ok (.invokevirtual 103, 3) := by decide +kernel
theorem dX5_test_32 : decode cX5_test 32 = .ok (.ifCond .ne 5, 3) := by decide +kernel
theorem dX5_test_35 : decode cX5_test 35 = .ok (.iconst 0, 1) := by decide +kernel
theorem dX5_test_36 : decode cX5_test 36 = .ok (.ireturn, 1) := by decide +kernel
theorem dX5_test_37 : decode cX5_test 37 = .ok (.aload_n 0, 1) := by decide +kernel
theorem dX5_test_38 : decode cX5_test 38 = .ok (.getfield 56, 3) := by decide +kernel
theorem dX5_test_41 : decode cX5_test 41 = .ok (.iload_n 1, 1) := by decide +kernel
theorem dX5_test_42 : decode cX5_test 42 = .ok (.aload_n 0, 1) := by decide +kernel
theorem dX5_test_43 : decode cX5_test 43 = .ok (.getfield 56, 3) := by decide +kernel
theorem dX5_test_46 : decode cX5_test 46 = .ok (.iload_n 1, 1) := by decide +kernel
theorem dX5_test_47 : decode cX5_test 47 = .ok (.baload, 1) := by decide +kernel
theorem dX5_test_48 : decode cX5_test 48 = .ok (.ifCond .ne 7, 3) := by decide +kernel
theorem dX5_test_51 : decode cX5_test 51 = .ok (.iload_n 2, 1) := by decide +kernel
theorem dX5_test_52 : decode cX5_test 52 = .ok (.ifCond .eq 7, 3) := by decide +kernel
theorem dX5_test_55 : decode cX5_test 55 = .ok (.iconst 1, 1) := by decide +kernel
theorem dX5_test_56 : decode cX5_test 56 = .ok (.goto 4, 3) := by decide +kernel
theorem dX5_test_59 : decode cX5_test 59 = .ok (.iconst 0, 1) := by decide +kernel
theorem dX5_test_60 : decode cX5_test 60 = .ok (.bastore, 1) := by decide +kernel
theorem dX5_test_61 : decode cX5_test 61 = .ok (.aload_n 0, 1) := by decide +kernel
theorem dX5_test_62 : decode cX5_test 62 = .ok (.getfield 49, 3) := by decide +kernel
theorem dX5_test_65 : decode cX5_test 65 = .ok (.iload_n 1, 1) := by decide +kernel
theorem dX5_test_66 : decode cX5_test 66 = .ok (.aload_n 0, 1) := by decide +kernel
theorem dX5_test_67 : decode cX5_test 67 = .ok (.getfield 49, 3) := by decide +kernel
theorem dX5_test_70 : decode cX5_test 70 = .ok (.iload_n 1, 1) := by decide +kernel
theorem dX5_test_71 : decode cX5_test 71 = .ok (.baload, 1) := by decide +kernel
theorem dX5_test_72 : decode cX5_test 72 = .ok (.ifCond .ne 7, 3) := by decide +kernel
theorem dX5_test_75 : decode cX5_test 75 = .ok (.iload_n 2, 1) := by decide +kernel
theorem dX5_test_76 : decode cX5_test 76 = .ok (.ifCond .ne 7, 3) := by decide +kernel
theorem dX5_test_79 : decode cX5_test 79 = .ok (.iconst 1, 1) := by decide +kernel
theorem dX5_test_80 : decode cX5_test 80 = .ok (.goto 4, 3) := by decide +kernel
theorem dX5_test_83 : decode cX5_test 83 = .ok (.iconst 0, 1) := by decide +kernel
theorem dX5_test_84 : decode cX5_test 84 = .ok (.bastore, 1) := by decide +kernel
theorem dX5_test_85 : decode cX5_test 85 = .ok (.aload_n 0, 1) := by decide +kernel
theorem dX5_test_86 : decode cX5_test 86 = .ok (.getfield 49, 3) := by decide +kernel
theorem dX5_test_89 : decode cX5_test 89 = .ok (.iload_n 1, 1) := by decide +kernel
theorem dX5_test_90 : decode cX5_test 90 = .ok (.baload, 1) := by decide +kernel
theorem dX5_test_91 : decode cX5_test 91 = .ok (.ireturn, 1) := by decide +kernel
theorem dX5_hold_0 : decode cX5_hold 0 = .ok (.aload_n 0, 1) := by decide +kernel
theorem dX5_hold_1 : decode cX5_hold 1 = .ok (.iload_n 1, 1) := by decide +kernel
theorem dX5_hold_2 : decode cX5_hold 2 = .ok (.invokevirtual 144, 3) := by decide +kernel
theorem dX5_hold_5 : decode cX5_hold 5 = .ok (.istore_n 2, 1) := by decide +kernel
theorem dX5_hold_6 : decode cX5_hold 6 = .ok (.aload_n 0, 1) := by decide +kernel
theorem dX5_hold_7 : decode cX5_hold 7 = .ok (.iload_n 2, 1) := by decide +kernel
theorem dX5_hold_8 : decode cX5_hold 8 = .ok (.ifCond .ne 7, 3) := by decide +kernel
theorem dX5_hold_11 : decode cX5_hold 11 = .ok (.iconst 1, 1) := by decide +kernel
theorem dX5_hold_12 : decode cX5_hold 12 = .ok (.goto 26, 3) := by decide +kernel
theorem dX5_hold_15 : decode cX5_hold 15 = .ok (.aload_n 0, 1) := by decide +kernel
theorem dX5_hold_16 : decode cX5_hold 16 = .ok (.getfield 53, 3) := by decide +kernel
theorem dX5_hold_19 : decode cX5_hold 19 = .ok (.iload_n 1, 1) := by decide +kernel
theorem dX5_hold_20 : decode cX5_hold 20 = .ok (.baload, 1) := by decide +kernel
theorem dX5_hold_21 : decode cX5_hold 21 = .ok (.ifCond .ne 12, 3) := by decide +kernel
theorem dX5_hold_24 : decode cX5_hold 24 = .ok (.aload_n 0, 1) := by decide +kernel
theorem dX5_hold_25 : decode cX5_hold 25 = .ok (.getfield 49, 3) := by decide +kernel
theorem dX5_hold_28 : decode cX5_hold 28 = .ok (.iload_n 1, 1) := by decide +kernel
theorem dX5_hold_29 : decode cX5_hold 29 = .ok (.baload, 1) := by decide +kernel
theorem dX5_hold_30 : decode cX5_hold 30 = .ok (.ifCond .eq 7, 3) := by decide +kernel
theorem dX5_hold_33 : decode cX5_hold 33 = .ok (.iconst 2, 1) := by decide +kernel
theorem dX5_hold_34 : decode cX5_hold 34 = .ok (.goto 4, 3) := by decide +kernel
theorem dX5_hold_37 : decode cX5_hold 37 = .ok (.iconst 0, 1) := by decide +kernel
theorem dX5_hold_38 : decode cX5_hold 38 = .ok (.invokevirtual 103, 3) := by decide +kernel
theorem dX5_hold_41 : decode cX5_hold 41 = .ok (.ifCond .ne 5, 3) := by decide +kernel
theorem dX5_hold_44 : decode cX5_hold 44 = .ok (.iconst 0, 1) := by decide +kernel
theorem dX5_hold_45 : decode cX5_hold 45 = .ok (.ireturn, 1) := by decide +kernel
theorem dX5_hold_46 : decode cX5_hold 46 = .ok (.aload_n 0, 1) := by decide +kernel
theorem dX5_hold_47 : decode cX5_hold 47 = .ok (.getfield 49, 3) := by decide +kernel
theorem dX5_hold_50 : decode cX5_hold 50 = .ok (.iload_n 1, 1) := by decide +kernel
theorem dX5_hold_51 : decode cX5_hold 51 = .ok (.iconst 1, 1) := by decide +kernel
theorem dX5_hold_52 : decode cX5_hold 52 = .ok (.bastore, 1) := by decide +kernel
theorem dX5_hold_53 : decode cX5_hold 53 = .ok (.aload_n 0, 1) := by decide +kernel
theorem dX5_hold_54 : decode cX5_hold 54 = .ok (.iload_n 1, 1) := by decide +kernel
theorem dX5_hold_55 : decode cX5_hold 55 = .ok (.invokevirtual 150, 3) := by decide +kernel
theorem dX5_hold_58 : decode cX5_hold 58 = .ok (.ireturn, 1) := by decide +kernel
theorem dX5_raise_0 : decode cX5_raise 0 = .ok (.aload_n 0, 1) := by decide +kernel
theorem dX5_raise_1 : decode cX5_raise 1 = .ok (.iload_n 1, 1) := by decide +kernel
theorem dX5_raise_2 : decode cX5_raise 2 = .ok (.invokevirtual 144, 3) := by decide +kernel
theorem dX5_raise_5 : decode cX5_raise 5 = .ok (.istore_n 2, 1) := by decide +kernel
theorem dX5_raise_6 : decode cX5_raise 6 = .ok (.aload_n 0, 1) := by decide +kernel
theorem dX5_raise_7 : decode cX5_raise 7 = .ok (.iload_n 2, 1) := by decide +kernel
theorem dX5_raise_8 : decode cX5_raise 8 = .ok (.ifCond .ne 7, 3) := by decide +kernel
theorem dX5_raise_11 : decode cX5_raise 11 = .ok (.iconst 1, 1) := by decide +kernel
theorem dX5_raise_12 : decode cX5_raise 12 = .ok (.goto 45, 3) := by decide +kernel
theorem dX5_raise_15 : decode cX5_raise 15 = .ok (.aload_n 0, 1) := by decide +kernel
theorem dX5_raise_16 : decode cX5_raise 16 = .ok (.getfield 53, 3) := by decide +kernel
theorem dX5_raise_19 : decode cX5_raise 19 = .ok (.iload_n 1, 1) := by decide +kernel
theorem dX5_raise_20 : decode cX5_raise 20 = .ok (.baload, 1) := by decide +kernel
theorem dX5_raise_21 : decode cX5_raise 21 = .ok (.ifCond .ne 31, 3) := by decide +kernel
theorem dX5_raise_24 : decode cX5_raise 24 = .ok (.aload_n 0, 1) := by decide +kernel
theorem dX5_raise_25 : decode cX5_raise 25 = .ok (.getfield 49, 3) := by decide +kernel
theorem dX5_raise_28 : decode cX5_raise 28 = .ok (.iload_n 1, 1) := by decide +kernel
theorem dX5_raise_29 : decode cX5_raise 29 = .ok (.baload, 1) := by decide +kernel
theorem dX5_raise_30 : decode cX5_raise 30 = .ok (.ifCond .ne 22, 3) := by decide +kernel
theorem dX5_raise_33 : decode cX5_raise 33 = .ok (.aload_n 0, 1) := by decide +kernel
theorem dX5_raise_34 : decode cX5_raise 34 = .ok (.getfield 46, 3) := by decide +kernel
theorem dX5_raise_37 : decode cX5_raise 37 = .ok (.iload_n 1, 1) := by decide +kernel
theorem dX5_raise_38 : decode cX5_raise 38 = .ok (.iaload, 1) := by decide +kernel
theorem dX5_raise_39 : decode cX5_raise 39 = .ok (.iconst 2, 1) := by decide +kernel
theorem dX5_raise_40 : decode cX5_raise 40 = .ok (.if_icmp .eq 12, 3) := by decide +kernel
theorem dX5_raise_43 : decode cX5_raise 43 = .ok (.aload_n 0, 1) := by decide +kernel
theorem dX5_raise_44 : decode cX5_raise 44 = .ok (.getfield 56, 3) := by decide +kernel
theorem dX5_raise_47 : decode cX5_raise 47 = .ok (.iload_n 1, 1) := by decide +kernel
theorem dX5_raise_48 : decode cX5_raise 48 = .ok (.baload, 1) := by decide +kernel
theorem dX5_raise_49 : decode cX5_raise 49 = .ok (.ifCond .ne 7, 3) := by decide +kernel
theorem dX5_raise_52 : decode cX5_raise 52 = .ok (.iconst 2, 1) := by decide +kernel
theorem dX5_raise_53 : decode cX5_raise 53 = .ok (.goto 4, 3) := by decide +kernel
theorem dX5_raise_56 : decode cX5_raise 56 = .ok (.iconst 0, 1) := by decide +kernel
theorem dX5_raise_57 : decode cX5_raise 57 = .ok (.invokevirtual 103, 3) := by decide +kernel
theorem dX5_raise_60 : decode cX5_raise 60 = .ok (.ifCond .ne 5, 3) := by decide +kernel
theorem dX5_raise_63 : decode cX5_raise 63 = .ok (.iconst 0, 1) := by decide +kernel
theorem dX5_raise_64 : decode cX5_raise 64 = .ok (.ireturn, 1) := by decide +kernel
theorem dX5_raise_65 : decode cX5_raise 65 = .ok (.aload_n 0, 1) := by decide +kernel
theorem dX5_raise_66 : decode cX5_raise 66 = .ok (.getfield 46, 3) := by decide +kernel
theorem dX5_raise_69 : decode cX5_raise 69 = .ok (.iload_n 1, 1) := by decide +kernel
theorem dX5_raise_70 : decode cX5_raise 70 = .ok (.dup2, 1) := by decide +kernel
theorem dX5_raise_71 : decode cX5_raise 71 = .ok (.iaload, 1) := by decide +kernel
theorem dX5_raise_72 : decode cX5_raise 72 = .ok (.iconst 1, 1) := by decide +kernel
theorem dX5_raise_73 : decode cX5_raise 73 = .ok (.iadd, 1) := by decide +kernel
theorem dX5_raise_74 : decode cX5_raise 74 = .ok (.iastore, 1) := by decide +kernel
theorem dX5_raise_75 : decode cX5_raise 75 = .ok (.aload_n 0, 1) := by decide +kernel
theorem dX5_raise_76 : decode cX5_raise 76 = .ok (.getfield 56, 3) := by decide +kernel
theorem dX5_raise_79 : decode cX5_raise 79 = .ok (.iload_n 1, 1) := by decide +kernel
theorem dX5_raise_80 : decode cX5_raise 80 = .ok (.iconst 0, 1) := by decide +kernel
theorem dX5_raise_81 : decode cX5_raise 81 = .ok (.bastore, 1) := by decide +kernel
theorem dX5_raise_82 : decode cX5_raise 82 = .ok (.aload_n 0, 1) := by decide +kernel
theorem dX5_raise_83 : decode cX5_raise 83 = .ok (.getfield 46, 3) := by decide +kernel
theorem dX5_raise_86 : decode cX5_raise 86 = .ok (.iload_n 1, 1) := by decide +kernel
theorem dX5_raise_87 : decode cX5_raise 87 = .ok (.iaload, 1) := by decide +kernel
theorem dX5_raise_88 : decode cX5_raise 88 = .ok (.ireturn, 1) := by decide +kernel
theorem dX5_copy_0 : decode cX5_copy 0 = .ok (.aload_n 0, 1) := by decide +kernel
theorem dX5_copy_1 : decode cX5_copy 1 = .ok (.iload_n 1, 1) := by decide +kernel
theorem dX5_copy_2 : decode cX5_copy 2 = .ok (.invokevirtual 144, 3) := by decide +kernel
theorem dX5_copy_5 : decode cX5_copy 5 = .ok (.istore_n 3, 1) := by decide +kernel
theorem dX5_copy_6 : decode cX5_copy 6 = .ok (.iload_n 2, 1) := by decide +kernel
theorem dX5_copy_7 : decode cX5_copy 7 = .ok (.iconst 0, 1) := by decide +kernel
theorem dX5_copy_8 : decode cX5_copy 8 = .ok (.iconst 2, 1) := by decide +kernel
theorem dX5_copy_9 : decode cX5_copy 9 = .ok (.invokestatic 96, 3) := by decide +kernel
theorem dX5_copy_12 : decode cX5_copy 12 = .ok (.istore 4, 2) := by decide +kernel
theorem dX5_copy_14 : decode cX5_copy 14 = .ok (.aload_n 0, 1) := by decide +kernel
theorem dX5_copy_15 : decode cX5_copy 15 = .ok (.iload_n 3, 1) := by decide +kernel
theorem dX5_copy_16 : decode cX5_copy 16 = .ok (.ifCond .ne 7, 3) := by decide +kernel
theorem dX5_copy_19 : decode cX5_copy 19 = .ok (.iconst 1, 1) := by decide +kernel
theorem dX5_copy_20 : decode cX5_copy 20 = .ok (.goto 40, 3) := by decide +kernel
theorem dX5_copy_23 : decode cX5_copy 23 = .ok (.iload 4, 2) := by decide +kernel
theorem dX5_copy_25 : decode cX5_copy 25 = .ok (.ifCond .ne 7, 3) := by decide +kernel
theorem dX5_copy_28 : decode cX5_copy 28 = .ok (.iconst 2, 1) := by decide +kernel
theorem dX5_copy_29 : decode cX5_copy 29 = .ok (.goto 31, 3) := by decide +kernel
theorem dX5_copy_32 : decode cX5_copy 32 = .ok (.aload_n 0, 1) := by decide +kernel
theorem dX5_copy_33 : decode cX5_copy 33 = .ok (.getfield 53, 3) := by decide +kernel
theorem dX5_copy_36 : decode cX5_copy 36 = .ok (.iload_n 1, 1) := by decide +kernel
theorem dX5_copy_37 : decode cX5_copy 37 = .ok (.baload, 1) := by decide +kernel
theorem dX5_copy_38 : decode cX5_copy 38 = .ok (.ifCond .ne 17, 3) := by decide +kernel
theorem dX5_copy_41 : decode cX5_copy 41 = .ok (.aload_n 0, 1) := by decide +kernel
theorem dX5_copy_42 : decode cX5_copy 42 = .ok (.getfield 59, 3) := by decide +kernel
theorem dX5_copy_45 : decode cX5_copy 45 = .ok (.iconst 3, 1) := by decide +kernel
theorem dX5_copy_46 : decode cX5_copy 46 = .ok (.iload_n 1, 1) := by decide +kernel
theorem dX5_copy_47 : decode cX5_copy 47 = .ok (.imul, 1) := by decide +kernel
theorem dX5_copy_48 : decode cX5_copy 48 = .ok (.iload_n 2, 1) := by decide +kernel
theorem dX5_copy_49 : decode cX5_copy 49 = .ok (.iadd, 1) := by decide +kernel
theorem dX5_copy_50 : decode cX5_copy 50 = .ok (.iaload, 1) := by decide +kernel
theorem dX5_copy_51 : decode cX5_copy 51 = .ok (.iconst (-1), 1) := by decide +kernel
theorem dX5_copy_52 : decode cX5_copy 52 = .ok (.if_icmp .eq 7, 3) := by decide +kernel
theorem dX5_copy_55 : decode cX5_copy 55 = .ok (.iconst 3, 1) := by decide +kernel
theorem dX5_copy_56 : decode cX5_copy 56 = .ok (.goto 4, 3) := by decide +kernel
theorem dX5_copy_59 : decode cX5_copy 59 = .ok (.iconst 0, 1) := by decide +kernel
theorem dX5_copy_60 : decode cX5_copy 60 = .ok (.invokevirtual 103, 3) := by decide +kernel
theorem dX5_copy_63 : decode cX5_copy 63 = .ok (.ifCond .ne 5, 3) := by decide +kernel
theorem dX5_copy_66 : decode cX5_copy 66 = .ok (.iconst 0, 1) := by decide +kernel
theorem dX5_copy_67 : decode cX5_copy 67 = .ok (.ireturn, 1) := by decide +kernel
theorem dX5_copy_68 : decode cX5_copy 68 = .ok (.aload_n 0, 1) := by decide +kernel
theorem dX5_copy_69 : decode cX5_copy 69 = .ok (.getfield 59, 3) := by decide +kernel
theorem dX5_copy_72 : decode cX5_copy 72 = .ok (.iconst 3, 1) := by decide +kernel
theorem dX5_copy_73 : decode cX5_copy 73 = .ok (.iload_n 1, 1) := by decide +kernel
theorem dX5_copy_74 : decode cX5_copy 74 = .ok (.imul, 1) := by decide +kernel
theorem dX5_copy_75 : decode cX5_copy 75 = .ok (.iload_n 2, 1) := by decide +kernel
theorem dX5_copy_76 : decode cX5_copy 76 = .ok (.iadd, 1) := by decide +kernel
theorem dX5_copy_77 : decode cX5_copy 77 = .ok (.aload_n 0, 1) := by decide +kernel
theorem dX5_copy_78 : decode cX5_copy 78 = .ok (.getfield 130, 3) := by decide +kernel
theorem dX5_copy_81 : decode cX5_copy 81 = .ok (.aload_n 0, 1) := by decide +kernel
theorem dX5_copy_82 : decode cX5_copy 82 = .ok (.getfield 62, 3) := by decide +kernel
theorem dX5_copy_85 : decode cX5_copy 85 = .ok (.iload_n 2, 1) := by decide +kernel
theorem dX5_copy_86 : decode cX5_copy 86 = .ok (.iaload, 1) := by decide +kernel
theorem dX5_copy_87 : decode cX5_copy 87 = .ok (.iadd, 1) := by decide +kernel
theorem dX5_copy_88 : decode cX5_copy 88 = .ok (.iastore, 1) := by decide +kernel
theorem dX5_copy_89 : decode cX5_copy 89 = .ok (.aload_n 0, 1) := by decide +kernel
theorem dX5_copy_90 : decode cX5_copy 90 = .ok (.getfield 130, 3) := by decide +kernel
theorem dX5_copy_93 : decode cX5_copy 93 = .ok (.aload_n 0, 1) := by decide +kernel
theorem dX5_copy_94 : decode cX5_copy 94 = .ok (.getfield 62, 3) := by decide +kernel
theorem dX5_copy_97 : decode cX5_copy 97 = .ok (.iload_n 2, 1) := by decide +kernel
theorem dX5_copy_98 : decode cX5_copy 98 = .ok (.iaload, 1) := by decide +kernel
theorem dX5_copy_99 : decode cX5_copy 99 = .ok (.iadd, 1) := by decide +kernel
theorem dX5_copy_100 : decode cX5_copy 100 = .ok (.ireturn, 1) := by decide +kernel
theorem dX5_setRules_0 : decode cX5_setRules 0 = .ok (.iload_n 1, 1) := by decide +kernel
theorem dX5_setRules_1 : decode cX5_setRules 1 = .ok (.iconst 0, 1) := by decide +kernel
theorem dX5_setRules_2 : decode cX5_setRules 2 = .ok (.iconst 2, 1) := by decide +kernel
theorem dX5_setRules_3 : decode cX5_setRules 3 = .ok (.invokestatic 96, 3) := by decide +kernel
theorem dX5_setRules_6 : decode cX5_setRules 6 = .ok (.ifCond .eq 38, 3) := by decide +kernel
theorem dX5_setRules_9 : decode cX5_setRules 9 = .ok (.iload_n 2, 1) := by decide +kernel
theorem dX5_setRules_10 : decode cX5_setRules 10 = .ok (.iconst 0, 1) := by decide +kernel
theorem dX5_setRules_11 : decode cX5_setRules 11 = .ok (.bipush 9, 2) := by decide +kernel
theorem dX5_setRules_13 : decode cX5_setRules 13 = .ok (.invokestatic 96, 3) := by decide +kernel
theorem dX5_setRules_16 : decode cX5_setRules 16 = .ok (.ifCond .eq 28, 3) := by decide +kernel
theorem dX5_setRules_19 : decode cX5_setRules 19 = .ok (.iload_n 3, 1) := by decide +kernel
theorem dX5_setRules_20 : decode cX5_setRules 20 = .ok (.iconst 0, 1) := by decide +kernel
theorem dX5_setRules_21 : decode cX5_setRules 21 = .ok (.bipush 99, 2) := by decide +kernel
theorem dX5_setRules_23 : decode cX5_setRules 23 = .ok (.invokestatic 96, 3) := by decide +kernel
theorem dX5_setRules_26 : decode cX5_setRules 26 = .ok (.ifCond .eq 18, 3) := by decide +kernel
theorem dX5_setRules_29 : decode cX5_setRules 29 = .ok (.iload 4, 2) := by decide +kernel
theorem dX5_setRules_31 : decode cX5_setRules 31 = .ok (.iconst 0, 1) := by decide +kernel
theorem dX5_setRules_32 : decode cX5_setRules 32 = .ok (.bipush 99, 2) := by decide +kernel
theorem dX5_setRules_34 : decode cX5_setRules 34 = .ok (.invokestatic 96, 3) := by decide +kernel
theorem dX5_setRules_37 : decode cX5_setRules 37 = .ok (.ifCond .eq 7, 3) := by decide +kernel
theorem dX5_setRules_40 : decode cX5_setRules 40 = .ok (.iconst 1, 1) := by decide +kernel
theorem dX5_setRules_41 : decode cX5_setRules 41 = .ok (.goto 4, 3) := by decide +kernel
theorem dX5_setRules_44 : decode cX5_setRules 44 = .ok (.iconst 0, 1) := by decide +kernel
theorem dX5_setRules_45 : decode cX5_setRules 45 = .ok (.istore 5, 2) := by decide +kernel
theorem dX5_setRules_47 : decode cX5_setRules 47 = .ok (.aload_n 0, 1) := by decide +kernel
theorem dX5_setRules_48 : decode cX5_setRules 48 = .ok (.iload 5, 2) := by decide +kernel
theorem dX5_setRules_50 : decode cX5_setRules 50 = .ok (.ifCond .eq 7, 3) := by decide +kernel
theorem dX5_setRules_53 : decode cX5_setRules 53 = .ok (.iconst 0, 1) := by decide +kernel
theorem dX5_setRules_54 : decode cX5_setRules 54 = .ok (.goto 4, 3) := by decide +kernel
theorem dX5_setRules_57 : decode cX5_setRules 57 = .ok (.iconst 1, 1) := by decide +kernel
theorem dX5_setRules_58 : decode cX5_setRules 58 = .ok (.invokevirtual 103, 3) := by decide +kernel
theorem dX5_setRules_61 : decode cX5_setRules 61 = .ok (.ifCond .eq 21, 3) := by decide +kernel
theorem dX5_setRules_64 : decode cX5_setRules 64 = .ok (.aload_n 0, 1) := by decide +kernel
theorem dX5_setRules_65 : decode cX5_setRules 65 = .ok (.getfield 62, 3) := by decide +kernel
theorem dX5_setRules_68 : decode cX5_setRules 68 = .ok (.iload_n 1, 1) := by decide +kernel
theorem dX5_setRules_69 : decode cX5_setRules 69 = .ok (.iload_n 2, 1) := by decide +kernel
theorem dX5_setRules_70 : decode cX5_setRules 70 = .ok (.iastore, 1) := by decide +kernel
theorem dX5_setRules_71 : decode cX5_setRules 71 = .ok (.aload_n 0, 1) := by decide +kernel
theorem dX5_setRules_72 : decode cX5_setRules 72 = .ok (.iload_n 3, 1) := by decide +kernel
theorem dX5_setRules_73 : decode cX5_setRules 73 = .ok (.putfield 65, 3) := by decide +kernel
theorem dX5_setRules_76 : decode cX5_setRules 76 = .ok (.aload_n 0, 1) := by decide +kernel
theorem dX5_setRules_77 : decode cX5_setRules 77 = .ok (.iload 4, 2) := by decide +kernel
theorem dX5_setRules_79 : decode cX5_setRules 79 = .ok (.putfield 69, 3) := by decide +kernel
theorem dX5_setRules_82 : decode cX5_setRules 82 = .ok (.return_, 1) := by decide +kernel
theorem dX5_pass_0 : decode cX5_pass 0 = .ok (.aload_n 0, 1) := by decide +kernel
theorem dX5_pass_1 : decode cX5_pass 1 = .ok (.iload_n 1, 1) := by decide +kernel
theorem dX5_pass_2 : decode cX5_pass 2 = .ok (.iconst 1, 1) := by decide +kernel
theorem dX5_pass_3 : decode cX5_pass 3 = .ok (.bipush 30, 2) := by decide +kernel
theorem dX5_pass_5 : decode cX5_pass 5 = .ok (.invokestatic 96, 3) := by decide +kernel
theorem dX5_pass_8 : decode cX5_pass 8 = .ok (.ifCond .eq 7, 3) := by decide +kernel
theorem dX5_pass_11 : decode cX5_pass 11 = .ok (.iconst 0, 1) := by decide +kernel
theorem dX5_pass_12 : decode cX5_pass 12 = .ok (.goto 4, 3) := by decide +kernel
theorem dX5_pass_15 : decode cX5_pass 15 = .ok (.iconst 1, 1) := by decide +kernel
theorem dX5_pass_16 : decode cX5_pass 16 = .ok (.invokevirtual 103, 3) := by decide +kernel
theorem dX5_pass_19 : decode cX5_pass 19 = .ok (.ifCond .ne 5, 3) := by decide +kernel
theorem dX5_pass_22 : decode cX5_pass 22 = .ok (.iconst 0, 1) := by decide +kernel
theorem dX5_pass_23 : decode cX5_pass 23 = .ok (.ireturn, 1) := by decide +kernel
theorem dX5_pass_24 : decode cX5_pass 24 = .ok (.iconst 0, 1) := by decide +kernel
theorem dX5_pass_25 : decode cX5_pass 25 = .ok (.istore_n 2, 1) := by decide +kernel
theorem dX5_pass_26 : decode cX5_pass 26 = .ok (.iconst 0, 1) := by decide +kernel
theorem dX5_pass_27 : decode cX5_pass 27 = .ok (.istore_n 3, 1) := by decide +kernel
theorem dX5_pass_28 : decode cX5_pass 28 = .ok (.iload_n 3, 1) := by decide +kernel
theorem dX5_pass_29 : decode cX5_pass 29 = .ok (.iload_n 1, 1) := by decide +kernel
theorem dX5_pass_30 : decode cX5_pass 30 = .ok (.if_icmp .ge 86, 3) := by decide +kernel
theorem dX5_pass_33 : decode cX5_pass 33 = .ok (.aload_n 0, 1) := by decide +kernel
theorem dX5_pass_34 : decode cX5_pass 34 = .ok (.dup, 1) := by decide +kernel
theorem dX5_pass_35 : decode cX5_pass 35 = .ok (.getfield 130, 3) := by decide +kernel
theorem dX5_pass_38 : decode cX5_pass 38 = .ok (.iconst 1, 1) := by decide +kernel
theorem dX5_pass_39 : decode cX5_pass 39 = .ok (.iadd, 1) := by decide +kernel
theorem dX5_pass_40 : decode cX5_pass 40 = .ok (.putfield 130, 3) := by decide +kernel
theorem dX5_pass_43 : decode cX5_pass 43 = .ok (.iconst 0, 1) := by decide +kernel
theorem dX5_pass_44 : decode cX5_pass 44 = .ok (.istore 4, 2) := by decide +kernel
theorem dX5_pass_46 : decode cX5_pass 46 = .ok (.iload 4, 2) := by decide +kernel
theorem dX5_pass_48 : decode cX5_pass 48 = .ok (.aload_n 0, 1) := by decide +kernel
theorem dX5_pass_49 : decode cX5_pass 49 = .ok (.getfield 100, 3) := by decide +kernel
theorem dX5_pass_52 : decode cX5_pass 52 = .ok (.if_icmp .ge 58, 3) := by decide +kernel
theorem dX5_pass_55 : decode cX5_pass 55 = .ok (.aload_n 0, 1) := by decide +kernel
theorem dX5_pass_56 : decode cX5_pass 56 = .ok (.getfield 53, 3) := by decide +kernel
theorem dX5_pass_59 : decode cX5_pass 59 = .ok (.iload 4, 2) := by decide +kernel
theorem dX5_pass_61 : decode cX5_pass 61 = .ok (.baload, 1) := by decide +kernel
theorem dX5_pass_62 : decode cX5_pass 62 = .ok (.ifCond .ne 42, 3) := by decide +kernel
theorem dX5_pass_65 : decode cX5_pass 65 = .ok (.aload_n 0, 1) := by decide +kernel
theorem dX5_pass_66 : decode cX5_pass 66 = .ok (.getfield 130, 3) := by decide +kernel
theorem dX5_pass_69 : decode cX5_pass 69 = .ok (.aload_n 0, 1) := by decide +kernel
theorem dX5_pass_70 : decode cX5_pass 70 = .ok (.getfield 43, 3) := by decide +kernel
theorem dX5_pass_73 : decode cX5_pass 73 = .ok (.iload 4, 2) := by decide +kernel
theorem dX5_pass_75 : decode cX5_pass 75 = .ok (.iaload, 1) := by decide +kernel
theorem dX5_pass_76 : decode cX5_pass 76 = .ok (.isub, 1) := by decide +kernel
theorem dX5_pass_77 : decode cX5_pass 77 = .ok (.aload_n 0, 1) := by decide +kernel
theorem dX5_pass_78 : decode cX5_pass 78 = .ok (.getfield 69, 3) := by decide +kernel
theorem dX5_pass_81 : decode cX5_pass 81 = .ok (.if_icmp .le 23, 3) := by decide +kernel
theorem dX5_pass_84 : decode cX5_pass 84 = .ok (.aload_n 0, 1) := by decide +kernel
theorem dX5_pass_85 : decode cX5_pass 85 = .ok (.iload 4, 2) := by decide +kernel
theorem dX5_pass_87 : decode cX5_pass 87 = .ok (.invokevirtual 150, 3) := by decide +kernel
theorem dX5_pass_90 : decode cX5_pass 90 = .ok (.ifCond .ne 14, 3) := by decide +kernel
theorem dX5_pass_93 : decode cX5_pass 93 = .ok (.aload_n 0, 1) := by decide +kernel
theorem dX5_pass_94 : decode cX5_pass 94 = .ok (.getfield 53, 3) := by decide +kernel
theorem dX5_pass_97 : decode cX5_pass 97 = .ok (.iload 4, 2) := by decide +kernel
theorem dX5_pass_99 : decode cX5_pass 99 = .ok (.iconst 1, 1) := by decide +kernel
theorem dX5_pass_100 : decode cX5_pass 100 = .ok (.bastore, 1) := by decide +kernel
theorem dX5_pass_101 : decode cX5_pass 101 = .ok (.iinc 2 1, 3) := by decide +kernel
theorem dX5_pass_104 : decode cX5_pass 104 = .ok (.iinc 4 1, 3) := by decide +kernel
theorem dX5_pass_107 : decode cX5_pass 107 = .ok (.goto (-61), 3) := by decide +kernel
theorem dX5_pass_110 : decode cX5_pass 110 = .ok (.iinc 3 1, 3) := by decide +kernel
theorem dX5_pass_113 : decode cX5_pass 113 = .ok (.goto (-85), 3) := by decide +kernel
theorem dX5_pass_116 : decode cX5_pass 116 = .ok (.iload_n 2, 1) := by decide +kernel
theorem dX5_pass_117 : decode cX5_pass 117 = .ok (.ireturn, 1) := by decide +kernel
theorem dX5_state_0 : decode cX5_state 0 = .ok (.aload_n 0, 1) := by decide +kernel
theorem dX5_state_1 : decode cX5_state 1 = .ok (.aload_n 0, 1) := by decide +kernel
theorem dX5_state_2 : decode cX5_state 2 = .ok (.iload_n 1, 1) := by decide +kernel
theorem dX5_state_3 : decode cX5_state 3 = .ok (.invokevirtual 144, 3) := by decide +kernel
theorem dX5_state_6 : decode cX5_state 6 = .ok (.ifCond .eq 7, 3) := by decide +kernel
theorem dX5_state_9 : decode cX5_state 9 = .ok (.iconst 0, 1) := by decide +kernel
theorem dX5_state_10 : decode cX5_state 10 = .ok (.goto 4, 3) := by decide +kernel
theorem dX5_state_13 : decode cX5_state 13 = .ok (.iconst 1, 1) := by decide +kernel
theorem dX5_state_14 : decode cX5_state 14 = .ok (.invokevirtual 103, 3) := by decide +kernel
theorem dX5_state_17 : decode cX5_state 17 = .ok (.ifCond .ne 5, 3) := by decide +kernel
theorem dX5_state_20 : decode cX5_state 20 = .ok (.iconst 0, 1) := by decide +kernel
theorem dX5_state_21 : decode cX5_state 21 = .ok (.ireturn, 1) := by decide +kernel
theorem dX5_state_22 : decode cX5_state 22 = .ok (.aload_n 0, 1) := by decide +kernel
theorem dX5_state_23 : decode cX5_state 23 = .ok (.getfield 46, 3) := by decide +kernel
theorem dX5_state_26 : decode cX5_state 26 = .ok (.iload_n 1, 1) := by decide +kernel
theorem dX5_state_27 : decode cX5_state 27 = .ok (.iaload, 1) := by decide +kernel
theorem dX5_state_28 : decode cX5_state 28 = .ok (.aload_n 0, 1) := by decide +kernel
theorem dX5_state_29 : decode cX5_state 29 = .ok (.getfield 49, 3) := by decide +kernel
theorem dX5_state_32 : decode cX5_state 32 = .ok (.iload_n 1, 1) := by decide +kernel
theorem dX5_state_33 : decode cX5_state 33 = .ok (.baload, 1) := by decide +kernel
theorem dX5_state_34 : decode cX5_state 34 = .ok (.ifCond .eq 8, 3) := by decide +kernel
theorem dX5_state_37 : decode cX5_state 37 = .ok (.bipush 10, 2) := by decide +kernel
theorem dX5_state_39 : decode cX5_state 39 = .ok (.goto 4, 3) := by decide +kernel
theorem dX5_state_42 : decode cX5_state 42 = .ok (.iconst 0, 1) := by decide +kernel
theorem dX5_state_43 : decode cX5_state 43 = .ok (.iadd, 1) := by decide +kernel
theorem dX5_state_44 : decode cX5_state 44 = .ok (.aload_n 0, 1) := by decide +kernel
theorem dX5_state_45 : decode cX5_state 45 = .ok (.iload_n 1, 1) := by decide +kernel
theorem dX5_state_46 : decode cX5_state 46 = .ok (.invokevirtual 153, 3) := by decide +kernel
theorem dX5_state_49 : decode cX5_state 49 = .ok (.ifCond .eq 8, 3) := by decide +kernel
theorem dX5_state_52 : decode cX5_state 52 = .ok (.bipush 20, 2) := by decide +kernel
theorem dX5_state_54 : decode cX5_state 54 = .ok (.goto 4, 3) := by decide +kernel
theorem dX5_state_57 : decode cX5_state 57 = .ok (.iconst 0, 1) := by decide +kernel
theorem dX5_state_58 : decode cX5_state 58 = .ok (.iadd, 1) := by decide +kernel
theorem dX5_state_59 : decode cX5_state 59 = .ok (.aload_n 0, 1) := by decide +kernel
theorem dX5_state_60 : decode cX5_state 60 = .ok (.getfield 53, 3) := by decide +kernel
theorem dX5_state_63 : decode cX5_state 63 = .ok (.iload_n 1, 1) := by decide +kernel
theorem dX5_state_64 : decode cX5_state 64 = .ok (.baload, 1) := by decide +kernel
theorem dX5_state_65 : decode cX5_state 65 = .ok (.ifCond .eq 8, 3) := by decide +kernel
theorem dX5_state_68 : decode cX5_state 68 = .ok (.bipush 40, 2) := by decide +kernel
theorem dX5_state_70 : decode cX5_state 70 = .ok (.goto 4, 3) := by decide +kernel
theorem dX5_state_73 : decode cX5_state 73 = .ok (.iconst 0, 1) := by decide +kernel
theorem dX5_state_74 : decode cX5_state 74 = .ok (.iadd, 1) := by decide +kernel
theorem dX5_state_75 : decode cX5_state 75 = .ok (.ireturn, 1) := by decide +kernel
theorem dX5_bakeFor_0 : decode cX5_bakeFor 0 = .ok (.iconst (-1), 1) := by decide +kernel
theorem dX5_bakeFor_1 : decode cX5_bakeFor 1 = .ok (.istore 4, 2) := by decide +kernel
theorem dX5_bakeFor_3 : decode cX5_bakeFor 3 = .ok (.iconst 0, 1) := by decide +kernel
theorem dX5_bakeFor_4 : decode cX5_bakeFor 4 = .ok (.istore 5, 2) := by decide +kernel
theorem dX5_bakeFor_6 : decode cX5_bakeFor 6 = .ok (.iload 5, 2) := by decide +kernel
theorem dX5_bakeFor_8 : decode cX5_bakeFor 8 = .ok (.aload_n 0, 1) := by decide +kernel
theorem dX5_bakeFor_9 : decode cX5_bakeFor 9 = .ok (.getfield 100, 3) := by decide +kernel
theorem dX5_bakeFor_12 : decode cX5_bakeFor 12 = .ok (.if_icmp .ge 109, 3) := by decide +kernel
theorem dX5_bakeFor_15 : decode cX5_bakeFor 15 = .ok (.aload_n 0, 1) := by decide +kernel
theorem dX5_bakeFor_16 : decode cX5_bakeFor 16 = .ok (.getfield 59, 3) := by decide +kernel
theorem dX5_bakeFor_19 : decode cX5_bakeFor 19 = .ok (.iconst 3, 1) := by decide +kernel
theorem dX5_bakeFor_20 : decode cX5_bakeFor 20 = .ok (.iload 5, 2) := by decide +kernel
theorem dX5_bakeFor_22 : decode cX5_bakeFor 22 = .ok (.imul, 1) := by decide +kernel
theorem dX5_bakeFor_23 : decode cX5_bakeFor 23 = .ok (.iload_n 2, 1) := by decide +kernel
theorem dX5_bakeFor_24 : decode cX5_bakeFor 24 = .ok (.iadd, 1) := by decide +kernel
theorem dX5_bakeFor_25 : decode cX5_bakeFor 25 = .ok (.iaload, 1) := by decide +kernel
theorem dX5_bakeFor_26 : decode cX5_bakeFor 26 = .ok (.istore 6, 2) := by decide +kernel
theorem dX5_bakeFor_28 : decode cX5_bakeFor 28 = .ok (.aload_n 0, 1) := by decide +kernel
theorem dX5_bakeFor_29 : decode cX5_bakeFor 29 = .ok (.getfield 37, 3) := by decide +kernel
theorem dX5_bakeFor_32 : decode cX5_bakeFor 32 = .ok (.iload 5, 2) := by decide +kernel
theorem dX5_bakeFor_34 : decode cX5_bakeFor 34 = .ok (.iaload, 1) := by decide +kernel
theorem dX5_bakeFor_35 : decode cX5_bakeFor 35 = .ok (.iload_n 1, 1) := by decide +kernel
theorem dX5_bakeFor_36 : decode cX5_bakeFor 36 = .ok (.if_icmp .ne 62, 3) := by decide +kernel
theorem dX5_bakeFor_39 : decode cX5_bakeFor 39 = .ok (.iload 6, 2) := by decide +kernel
theorem dX5_bakeFor_41 : decode cX5_bakeFor 41 = .ok (.iconst (-1), 1) := by decide +kernel
theorem dX5_bakeFor_42 : decode cX5_bakeFor 42 = .ok (.if_icmp .eq 56, 3) := by decide +kernel
theorem dX5_bakeFor_45 : decode cX5_bakeFor 45 = .ok (.iload 6, 2) := by decide +kernel
theorem dX5_bakeFor_47 : decode cX5_bakeFor 47 = .ok (.aload_n 0, 1) := by decide +kernel
theorem dX5_bakeFor_48 : decode cX5_bakeFor 48 = .ok (.getfield 130, 3) := by decide +kernel
theorem dX5_bakeFor_51 : decode cX5_bakeFor 51 = .ok (.if_icmp .gt 47, 3) := by decide +kernel
theorem dX5_bakeFor_54 : decode cX5_bakeFor 54 = .ok (.aload_n 0, 1) := by decide +kernel
theorem dX5_bakeFor_55 : decode cX5_bakeFor 55 = .ok (.getfield 49, 3) := by decide +kernel
theorem dX5_bakeFor_58 : decode cX5_bakeFor 58 = .ok (.iload 5, 2) := by decide +kernel
theorem dX5_bakeFor_60 : decode cX5_bakeFor 60 = .ok (.baload, 1) := by decide +kernel
theorem dX5_bakeFor_61 : decode cX5_bakeFor 61 = .ok (.ifCond .ne 37, 3) := by decide +kernel
theorem dX5_bakeFor_64 : decode cX5_bakeFor 64 = .ok (.aload_n 0, 1) := by decide +kernel
theorem dX5_bakeFor_65 : decode cX5_bakeFor 65 = .ok (.getfield 53, 3) := by decide +kernel
theorem dX5_bakeFor_68 : decode cX5_bakeFor 68 = .ok (.iload 5, 2) := by decide +kernel
theorem dX5_bakeFor_70 : decode cX5_bakeFor 70 = .ok (.baload, 1) := by decide +kernel
