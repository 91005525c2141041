/-! decode rows (printed), 2 -/
theorem dX4_topOfParent_18 : decode cX4_topOfParent 18 = .ok (.goto 13, 3) := by decide +kernel
theorem dX4_topOfParent_21 : decode cX4_topOfParent 21 = .ok (.aload_n 0, 1) := by decide +kernel
theorem dX4_topOfParent_22 : decode cX4_topOfParent 22 = .ok (.getfield 99, 3) := by decide +kernel
theorem dX4_topOfParent_25 : decode cX4_topOfParent 25 = .ok (.getfield 103, 3) := by decide +kernel
theorem dX4_topOfParent_28 : decode cX4_topOfParent 28 = .ok (.getfield 145, 3) := by decide +kernel
theorem dX4_topOfParent_31 : decode cX4_topOfParent 31 = .ok (.ireturn, 1) := by decide +kernel
theorem dX4_topFrom_0 : decode cX4_topFrom 0 = .ok (.iload_n 1, 1) := by decide +kernel
theorem dX4_topFrom_1 : decode cX4_topFrom 1 = .ok (.istore_n 3, 1) := by decide +kernel
theorem dX4_topFrom_2 : decode cX4_topFrom 2 = .ok (.iconst 0, 1) := by decide +kernel
theorem dX4_topFrom_3 : decode cX4_topFrom 3 = .ok (.istore 4, 2) := by decide +kernel
theorem dX4_topFrom_5 : decode cX4_topFrom 5 = .ok (.iload 4, 2) := by decide +kernel
theorem dX4_topFrom_7 : decode cX4_topFrom 7 = .ok (.aload_n 2, 1) := by decide +kernel
theorem dX4_topFrom_8 : decode cX4_topFrom 8 = .ok (.getfield 94, 3) := by decide +kernel
theorem dX4_topFrom_11 : decode cX4_topFrom 11 = .ok (.if_icmp .ge 40, 3) := by decide +kernel
theorem dX4_topFrom_14 : decode cX4_topFrom 14 = .ok (.aload_n 2, 1) := by decide +kernel
theorem dX4_topFrom_15 : decode cX4_topFrom 15 = .ok (.getfield 247, 3) := by decide +kernel
theorem dX4_topFrom_18 : decode cX4_topFrom 18 = .ok (.iload 4, 2) := by decide +kernel
theorem dX4_topFrom_20 : decode cX4_topFrom 20 = .ok (.invokestatic 181, 3) := by decide +kernel
theorem dX4_topFrom_23 : decode cX4_topFrom 23 = .ok (.istore 5, 2) := by decide +kernel
theorem dX4_topFrom_25 : decode cX4_topFrom 25 = .ok (.aload_n 0, 1) := by decide +kernel
theorem dX4_topFrom_26 : decode cX4_topFrom 26 = .ok (.getfield 12, 3) := by decide +kernel
theorem dX4_topFrom_29 : decode cX4_topFrom 29 = .ok (.iload_n 3, 1) := by decide +kernel
theorem dX4_topFrom_30 : decode cX4_topFrom 30 = .ok (.iload 5, 2) := by decide +kernel
theorem dX4_topFrom_32 : decode cX4_topFrom 32 = .ok (.aload_n 0, 1) := by decide +kernel
theorem dX4_topFrom_33 : decode cX4_topFrom 33 = .ok (.getfield 16, 3) := by decide +kernel
theorem dX4_topFrom_36 : decode cX4_topFrom 36 = .ok (.iload 5, 2) := by decide +kernel
theorem dX4_topFrom_38 : decode cX4_topFrom 38 = .ok (.invokestatic 181, 3) := by decide +kernel
theorem dX4_topFrom_41 : decode cX4_topFrom 41 = .ok (.invokevirtual 250, 3) := by decide +kernel
theorem dX4_topFrom_44 : decode cX4_topFrom 44 = .ok (.istore_n 3, 1) := by decide +kernel
theorem dX4_topFrom_45 : decode cX4_topFrom 45 = .ok (.iinc 4 1, 3) := by decide +kernel
theorem dX4_topFrom_48 : decode cX4_topFrom 48 = .ok (.goto (-43), 3) := by decide +kernel
theorem dX4_topFrom_51 : decode cX4_topFrom 51 = .ok (.iload_n 3, 1) := by decide +kernel
theorem dX4_topFrom_52 : decode cX4_topFrom 52 = .ok (.ireturn, 1) := by decide +kernel
theorem dX4_makeTopFrom_0 : decode cX4_makeTopFrom 0 = .ok (.iload_n 1, 1) := by decide +kernel
theorem dX4_makeTopFrom_1 : decode cX4_makeTopFrom 1 = .ok (.istore_n 3, 1) := by decide +kernel
theorem dX4_makeTopFrom_2 : decode cX4_makeTopFrom 2 = .ok (.iconst 0, 1) := by decide +kernel
theorem dX4_makeTopFrom_3 : decode cX4_makeTopFrom 3 = .ok (.istore 4, 2) := by decide +kernel
theorem dX4_makeTopFrom_5 : decode cX4_makeTopFrom 5 = .ok (.iload 4, 2) := by decide +kernel
theorem dX4_makeTopFrom_7 : decode cX4_makeTopFrom 7 = .ok (.aload_n 2, 1) := by decide +kernel
theorem dX4_makeTopFrom_8 : decode cX4_makeTopFrom 8 = .ok (.getfield 94, 3) := by decide +kernel
theorem dX4_makeTopFrom_11 : decode cX4_makeTopFrom 11 = .ok (.if_icmp .ge 40, 3) := by decide +kernel
theorem dX4_makeTopFrom_14 : decode cX4_makeTopFrom 14 = .ok (.aload_n 2, 1) := by decide +kernel
theorem dX4_makeTopFrom_15 : decode cX4_makeTopFrom 15 = .ok (.getfield 247, 3) := by decide +kernel
theorem dX4_makeTopFrom_18 : decode cX4_makeTopFrom 18 = .ok (.iload 4, 2) := by decide +kernel
theorem dX4_makeTopFrom_20 : decode cX4_makeTopFrom 20 = .ok (.invokestatic 181, 3) := by decide +kernel
theorem dX4_makeTopFrom_23 : decode cX4_makeTopFrom 23 = .ok (.istore 5, 2) := by decide +kernel
theorem dX4_makeTopFrom_25 : decode cX4_makeTopFrom 25 = .ok (.aload_n 0, 1) := by decide +kernel
theorem dX4_makeTopFrom_26 : decode cX4_makeTopFrom 26 = .ok (.getfield 12, 3) := by decide +kernel
theorem dX4_makeTopFrom_29 : decode cX4_makeTopFrom 29 = .ok (.iload_n 3, 1) := by decide +kernel
theorem dX4_makeTopFrom_30 : decode cX4_makeTopFrom 30 = .ok (.iload 5, 2) := by decide +kernel
theorem dX4_makeTopFrom_32 : decode cX4_makeTopFrom 32 = .ok (.aload_n 0, 1) := by decide +kernel
theorem dX4_makeTopFrom_33 : decode cX4_makeTopFrom 33 = .ok (.getfield 16, 3) := by decide +kernel
theorem dX4_makeTopFrom_36 : decode cX4_makeTopFrom 36 = .ok (.iload 5, 2) := by decide +kernel
theorem dX4_makeTopFrom_38 : decode cX4_makeTopFrom 38 = .ok (.invokestatic 181, 3) := by decide +kernel
theorem dX4_makeTopFrom_41 : decode cX4_makeTopFrom 41 = .ok (.invokevirtual 254, 3) := by decide +kernel
theorem dX4_makeTopFrom_44 : decode cX4_makeTopFrom 44 = .ok (.istore_n 3, 1) := by decide +kernel
theorem dX4_makeTopFrom_45 : decode cX4_makeTopFrom 45 = .ok (.iinc 4 1, 3) := by decide +kernel
theorem dX4_makeTopFrom_48 : decode cX4_makeTopFrom 48 = .ok (.goto (-43), 3) := by decide +kernel
theorem dX4_makeTopFrom_51 : decode cX4_makeTopFrom 51 = .ok (.iload_n 3, 1) := by decide +kernel
theorem dX4_makeTopFrom_52 : decode cX4_makeTopFrom 52 = .ok (.ireturn, 1) := by decide +kernel
theorem dX4_wouldMakeBake_0 : decode cX4_wouldMakeBake 0 = .ok (.aload_n 1, 1) := by decide +kernel
theorem dX4_wouldMakeBake_1 : decode cX4_wouldMakeBake 1 = .ok (.getfield 103, 3) := by decide +kernel
theorem dX4_wouldMakeBake_4 : decode cX4_wouldMakeBake 4 = .ok (.ifnull 22, 3) := by decide +kernel
theorem dX4_wouldMakeBake_7 : decode cX4_wouldMakeBake 7 = .ok (.aload_n 1, 1) := by decide +kernel
theorem dX4_wouldMakeBake_8 : decode cX4_wouldMakeBake 8 = .ok (.getfield 103, 3) := by decide +kernel
theorem dX4_wouldMakeBake_11 : decode cX4_wouldMakeBake 11 = .ok (.getfield 145, 3) := by decide +kernel
theorem dX4_wouldMakeBake_14 : decode cX4_wouldMakeBake 14 = .ok (.aload_n 0, 1) := by decide +kernel
theorem dX4_wouldMakeBake_15 : decode cX4_wouldMakeBake 15 = .ok (.aload_n 1, 1) := by decide +kernel
theorem dX4_wouldMakeBake_16 : decode cX4_wouldMakeBake 16 = .ok (.invokestatic 257, 3) := by decide +kernel
theorem dX4_wouldMakeBake_19 : decode cX4_wouldMakeBake 19 = .ok (.aload_n 1, 1) := by decide +kernel
theorem dX4_wouldMakeBake_20 : decode cX4_wouldMakeBake 20 = .ok (.invokevirtual 261, 3) := by decide +kernel
theorem dX4_wouldMakeBake_23 : decode cX4_wouldMakeBake 23 = .ok (.if_icmp .eq 7, 3) := by decide +kernel
theorem dX4_wouldMakeBake_26 : decode cX4_wouldMakeBake 26 = .ok (.iconst 1, 1) := by decide +kernel
theorem dX4_wouldMakeBake_27 : decode cX4_wouldMakeBake 27 = .ok (.goto 4, 3) := by decide +kernel
theorem dX4_wouldMakeBake_30 : decode cX4_wouldMakeBake 30 = .ok (.iconst 0, 1) := by decide +kernel
theorem dX4_wouldMakeBake_31 : decode cX4_wouldMakeBake 31 = .ok (.ireturn, 1) := by decide +kernel
theorem dX4_bakeIfNeeded_0 : decode cX4_bakeIfNeeded 0 = .ok (.aload_n 1, 1) := by decide +kernel
theorem dX4_bakeIfNeeded_1 : decode cX4_bakeIfNeeded 1 = .ok (.ifnull 30, 3) := by decide +kernel
theorem dX4_bakeIfNeeded_4 : decode cX4_bakeIfNeeded 4 = .ok (.aload_n 0, 1) := by decide +kernel
theorem dX4_bakeIfNeeded_5 : decode cX4_bakeIfNeeded 5 = .ok (.aload_n 1, 1) := by decide +kernel
theorem dX4_bakeIfNeeded_6 : decode cX4_bakeIfNeeded 6 = .ok (.invokevirtual 109, 3) := by decide +kernel
theorem dX4_bakeIfNeeded_9 : decode cX4_bakeIfNeeded 9 = .ok (.ifCond .eq 22, 3) := by decide +kernel
theorem dX4_bakeIfNeeded_12 : decode cX4_bakeIfNeeded 12 = .ok (.aload_n 0, 1) := by decide +kernel
theorem dX4_bakeIfNeeded_13 : decode cX4_bakeIfNeeded 13 = .ok (.getfield 113, 3) := by decide +kernel
theorem dX4_bakeIfNeeded_16 : decode cX4_bakeIfNeeded 16 = .ok (.ifCond .lt 15, 3) := by decide +kernel
theorem dX4_bakeIfNeeded_19 : decode cX4_bakeIfNeeded 19 = .ok (.aload_n 0, 1) := by decide +kernel
theorem dX4_bakeIfNeeded_20 : decode cX4_bakeIfNeeded 20 = .ok (.getfield 113, 3) := by decide +kernel
theorem dX4_bakeIfNeeded_23 : decode cX4_bakeIfNeeded 23 = .ok (.aload_n 0, 1) := by decide +kernel
theorem dX4_bakeIfNeeded_24 : decode cX4_bakeIfNeeded 24 = .ok (.getfield 31, 3) := by decide +kernel
theorem dX4_bakeIfNeeded_27 : decode cX4_bakeIfNeeded 27 = .ok (.arraylength, 1) := by decide +kernel
theorem dX4_bakeIfNeeded_28 : decode cX4_bakeIfNeeded 28 = .ok (.if_icmp .lt 4, 3) := by decide +kernel
theorem dX4_bakeIfNeeded_31 : decode cX4_bakeIfNeeded 31 = .ok (.return_, 1) := by decide +kernel
theorem dX4_bakeIfNeeded_32 : decode cX4_bakeIfNeeded 32 = .ok (.aload_n 0, 1) := by decide +kernel
theorem dX4_bakeIfNeeded_33 : decode cX4_bakeIfNeeded 33 = .ok (.aload_n 1, 1) := by decide +kernel
theorem dX4_bakeIfNeeded_34 : decode cX4_bakeIfNeeded 34 = .ok (.invokestatic 257, 3) := by decide +kernel
theorem dX4_bakeIfNeeded_37 : decode cX4_bakeIfNeeded 37 = .ok (.aload_n 1, 1) := by decide +kernel
theorem dX4_bakeIfNeeded_38 : decode cX4_bakeIfNeeded 38 = .ok (.invokevirtual 265, 3) := by decide +kernel
theorem dX4_bakeIfNeeded_41 : decode cX4_bakeIfNeeded 41 = .ok (.istore_n 2, 1) := by decide +kernel
theorem dX4_bakeIfNeeded_42 : decode cX4_bakeIfNeeded 42 = .ok (.new 29, 3) := by decide +kernel
theorem dX4_bakeIfNeeded_45 : decode cX4_bakeIfNeeded 45 = .ok (.dup, 1) := by decide +kernel
theorem dX4_bakeIfNeeded_46 : decode cX4_bakeIfNeeded 46 = .ok (.aload_n 0, 1) := by decide +kernel
theorem dX4_bakeIfNeeded_47 : decode cX4_bakeIfNeeded 47 = .ok (.getfield 113, 3) := by decide +kernel
theorem dX4_bakeIfNeeded_50 : decode cX4_bakeIfNeeded 50 = .ok (.aload_n 1, 1) := by decide +kernel
theorem dX4_bakeIfNeeded_51 : decode cX4_bakeIfNeeded 51 = .ok (.iload_n 2, 1) := by decide +kernel
theorem dX4_bakeIfNeeded_52 : decode cX4_bakeIfNeeded 52 = .ok (.aload_n 0, 1) := by decide +kernel
theorem dX4_bakeIfNeeded_53 : decode cX4_bakeIfNeeded 53 = .ok (.getfield 178, 3) := by decide +kernel
theorem dX4_bakeIfNeeded_56 : decode cX4_bakeIfNeeded 56 = .ok (.invokespecial 268, 3) := by decide +kernel
theorem dX4_bakeIfNeeded_59 : decode cX4_bakeIfNeeded 59 = .ok (.astore_n 3, 1) := by decide +kernel
theorem dX4_bakeIfNeeded_60 : decode cX4_bakeIfNeeded 60 = .ok (.aload_n 0, 1) := by decide +kernel
theorem dX4_bakeIfNeeded_61 : decode cX4_bakeIfNeeded 61 = .ok (.getfield 31, 3) := by decide +kernel
theorem dX4_bakeIfNeeded_64 : decode cX4_bakeIfNeeded 64 = .ok (.aload_n 0, 1) := by decide +kernel
theorem dX4_bakeIfNeeded_65 : decode cX4_bakeIfNeeded 65 = .ok (.getfield 113, 3) := by decide +kernel
theorem dX4_bakeIfNeeded_68 : decode cX4_bakeIfNeeded 68 = .ok (.aload_n 3, 1) := by decide +kernel
theorem dX4_bakeIfNeeded_69 : decode cX4_bakeIfNeeded 69 = .ok (.aastore, 1) := by decide +kernel
theorem dX4_bakeIfNeeded_70 : decode cX4_bakeIfNeeded 70 = .ok (.aload_n 0, 1) := by decide +kernel
theorem dX4_bakeIfNeeded_71 : decode cX4_bakeIfNeeded 71 = .ok (.dup, 1) := by decide +kernel
theorem dX4_bakeIfNeeded_72 : decode cX4_bakeIfNeeded 72 = .ok (.getfield 113, 3) := by decide +kernel
theorem dX4_bakeIfNeeded_75 : decode cX4_bakeIfNeeded 75 = .ok (.iconst 1, 1) := by decide +kernel
theorem dX4_bakeIfNeeded_76 : decode cX4_bakeIfNeeded 76 = .ok (.iadd, 1) := by decide +kernel
theorem dX4_bakeIfNeeded_77 : decode cX4_bakeIfNeeded 77 = .ok (.putfield 113, 3) := by decide +kernel
theorem dX4_bakeIfNeeded_80 : decode cX4_bakeIfNeeded 80 = .ok (.aload_n 1, 1) := by decide +kernel
theorem dX4_bakeIfNeeded_81 : decode cX4_bakeIfNeeded 81 = .ok (.aload_n 3, 1) := by decide +kernel
theorem dX4_bakeIfNeeded_82 : decode cX4_bakeIfNeeded 82 = .ok (.putfield 103, 3) := by decide +kernel
theorem dX4_bakeIfNeeded_85 : decode cX4_bakeIfNeeded 85 = .ok (.return_, 1) := by decide +kernel
theorem dX4_countBakesToCome_0 : decode cX4_countBakesToCome 0 = .ok (.iconst 0, 1) := by decide +kernel
theorem dX4_countBakesToCome_1 : decode cX4_countBakesToCome 1 = .ok (.istore_n 1, 1) := by decide +kernel
theorem dX4_countBakesToCome_2 : decode cX4_countBakesToCome 2 = .ok (.aload_n 0, 1) := by decide +kernel
theorem dX4_countBakesToCome_3 : decode cX4_countBakesToCome 3 = .ok (.getfield 25, 3) := by decide +kernel
theorem dX4_countBakesToCome_6 : decode cX4_countBakesToCome 6 = .ok (.astore_n 2, 1) := by decide +kernel
theorem dX4_countBakesToCome_7 : decode cX4_countBakesToCome 7 = .ok (.aload_n 2, 1) := by decide +kernel
theorem dX4_countBakesToCome_8 : decode cX4_countBakesToCome 8 = .ok (.arraylength, 1) := by decide +kernel
theorem dX4_countBakesToCome_9 : decode cX4_countBakesToCome 9 = .ok (.istore_n 3, 1) := by decide +kernel
theorem dX4_countBakesToCome_10 : decode cX4_countBakesToCome 10 = .ok (.iconst 0, 1) := by decide +kernel
theorem dX4_countBakesToCome_11 : decode cX4_countBakesToCome 11 = .ok (.istore 4, 2) := by decide +kernel
theorem dX4_countBakesToCome_13 : decode cX4_countBakesToCome 13 = .ok (.iload 4, 2) := by decide +kernel
theorem dX4_countBakesToCome_15 : decode cX4_countBakesToCome 15 = .ok (.iload_n 3, 1) := by decide +kernel
theorem dX4_countBakesToCome_16 : decode cX4_countBakesToCome 16 = .ok (.if_icmp .ge 82, 3) := by decide +kernel
theorem dX4_countBakesToCome_19 : decode cX4_countBakesToCome 19 = .ok (.aload_n 2, 1) := by decide +kernel
theorem dX4_countBakesToCome_20 : decode cX4_countBakesToCome 20 = .ok (.iload 4, 2) := by decide +kernel
theorem dX4_countBakesToCome_22 : decode cX4_countBakesToCome 22 = .ok (.aaload, 1) := by decide +kernel
theorem dX4_countBakesToCome_23 : decode cX4_countBakesToCome 23 = .ok (.astore 5, 2) := by decide +kernel
theorem dX4_countBakesToCome_25 : decode cX4_countBakesToCome 25 = .ok (.aload 5, 2) := by decide +kernel
theorem dX4_countBakesToCome_27 : decode cX4_countBakesToCome 27 = .ok (.ifnull 65, 3) := by decide +kernel
theorem dX4_countBakesToCome_30 : decode cX4_countBakesToCome 30 = .ok (.aload 5, 2) := by decide +kernel
theorem dX4_countBakesToCome_32 : decode cX4_countBakesToCome 32 = .ok (.getfield 99, 3) := by decide +kernel
theorem dX4_countBakesToCome_35 : decode cX4_countBakesToCome 35 = .ok (.ifnonnull 7, 3) := by decide +kernel
theorem dX4_countBakesToCome_38 : decode cX4_countBakesToCome 38 = .ok (.iconst (-1), 1) := by decide +kernel
theorem dX4_countBakesToCome_39 : decode cX4_countBakesToCome 39 = .ok (.goto 11, 3) := by decide +kernel
theorem dX4_countBakesToCome_42 : decode cX4_countBakesToCome 42 = .ok (.aload 5, 2) := by decide +kernel
theorem dX4_countBakesToCome_44 : decode cX4_countBakesToCome 44 = .ok (.getfield 99, 3) := by decide +kernel
theorem dX4_countBakesToCome_47 : decode cX4_countBakesToCome 47 = .ok (.getfield 271, 3) := by decide +kernel
theorem dX4_countBakesToCome_50 : decode cX4_countBakesToCome 50 = .ok (.istore 6, 2) := by decide +kernel
theorem dX4_countBakesToCome_52 : decode cX4_countBakesToCome 52 = .ok (.aload 5, 2) := by decide +kernel
theorem dX4_countBakesToCome_54 : decode cX4_countBakesToCome 54 = .ok (.aload_n 0, 1) := by decide +kernel
theorem dX4_countBakesToCome_55 : decode cX4_countBakesToCome 55 = .ok (.iload 6, 2) := by decide +kernel
theorem dX4_countBakesToCome_57 : decode cX4_countBakesToCome 57 = .ok (.aload 5, 2) := by decide +kernel
theorem dX4_countBakesToCome_59 : decode cX4_countBakesToCome 59 = .ok (.invokevirtual 261, 3) := by decide +kernel
theorem dX4_countBakesToCome_62 : decode cX4_countBakesToCome 62 = .ok (.putfield 271, 3) := by decide +kernel
theorem dX4_countBakesToCome_65 : decode cX4_countBakesToCome 65 = .ok (.aload 5, 2) := by decide +kernel
theorem dX4_countBakesToCome_67 : decode cX4_countBakesToCome 67 = .ok (.getfield 103, 3) := by decide +kernel
theorem dX4_countBakesToCome_70 : decode cX4_countBakesToCome 70 = .ok (.ifnull 19, 3) := by decide +kernel
theorem dX4_countBakesToCome_73 : decode cX4_countBakesToCome 73 = .ok (.aload 5, 2) := by decide +kernel
theorem dX4_countBakesToCome_75 : decode cX4_countBakesToCome 75 = .ok (.getfield 103, 3) := by decide +kernel
theorem dX4_countBakesToCome_78 : decode cX4_countBakesToCome 78 = .ok (.getfield 145, 3) := by decide +kernel
theorem dX4_countBakesToCome_81 : decode cX4_countBakesToCome 81 = .ok (.aload 5, 2) := by decide +kernel
theorem dX4_countBakesToCome_83 : decode cX4_countBakesToCome 83 = .ok (.getfield 271, 3) := by decide +kernel
theorem dX4_countBakesToCome_86 : decode cX4_countBakesToCome 86 = .ok (.if_icmp .eq 6, 3) := by decide +kernel
theorem dX4_countBakesToCome_89 : decode cX4_countBakesToCome 89 = .ok (.iinc 1 1, 3) := by decide +kernel
theorem dX4_countBakesToCome_92 : decode cX4_countBakesToCome 92 = .ok (.iinc 4 1, 3) := by decide +kernel
theorem dX4_countBakesToCome_95 : decode cX4_countBakesToCome 95 = .ok (.goto (-82), 3) := by decide +kernel
theorem dX4_countBakesToCome_98 : decode cX4_countBakesToCome 98 = .ok (.iload_n 1, 1) := by decide +kernel
theorem dX4_countBakesToCome_99 : decode cX4_countBakesToCome 99 = .ok (.ireturn, 1) := by decide +kernel
theorem dX4_fillLine_0 : decode cX4_fillLine 0 = .ok (.aload_n 0, 1) := by decide +kernel
theorem dX4_fillLine_1 : decode cX4_fillLine 1 = .ok (.aconst_null, 1) := by decide +kernel
theorem dX4_fillLine_2 : decode cX4_fillLine 2 = .ok (.iconst 0, 1) := by decide +kernel
theorem dX4_fillLine_3 : decode cX4_fillLine 3 = .ok (.invokevirtual 274, 3) := by decide +kernel
theorem dX4_fillLine_6 : decode cX4_fillLine 6 = .ok (.istore_n 1, 1) := by decide +kernel
theorem dX4_fillLine_7 : decode cX4_fillLine 7 = .ok (.iconst 0, 1) := by decide +kernel
theorem dX4_fillLine_8 : decode cX4_fillLine 8 = .ok (.istore_n 2, 1) := by decide +kernel
theorem dX4_fillLine_9 : decode cX4_fillLine 9 = .ok (.iload_n 2, 1) := by decide +kernel
theorem dX4_fillLine_10 : decode cX4_fillLine 10 = .ok (.iload_n 1, 1) := by decide +kernel
theorem dX4_fillLine_11 : decode cX4_fillLine 11 = .ok (.if_icmp .ge 30, 3) := by decide +kernel
theorem dX4_fillLine_14 : decode cX4_fillLine 14 = .ok (.iload_n 2, 1) := by decide +kernel
theorem dX4_fillLine_15 : decode cX4_fillLine 15 = .ok (.aload_n 0, 1) := by decide +kernel
theorem dX4_fillLine_16 : decode cX4_fillLine 16 = .ok (.getfield 44, 3) := by decide +kernel
theorem dX4_fillLine_19 : decode cX4_fillLine 19 = .ok (.arraylength, 1) := by decide +kernel
theorem dX4_fillLine_20 : decode cX4_fillLine 20 = .ok (.if_icmp .ge 21, 3) := by decide +kernel
theorem dX4_fillLine_23 : decode cX4_fillLine 23 = .ok (.aload_n 0, 1) := by decide +kernel
theorem dX4_fillLine_24 : decode cX4_fillLine 24 = .ok (.aload_n 0, 1) := by decide +kernel
theorem dX4_fillLine_25 : decode cX4_fillLine 25 = .ok (.getfield 44, 3) := by decide +kernel
theorem dX4_fillLine_28 : decode cX4_fillLine 28 = .ok (.iload_n 2, 1) := by decide +kernel
theorem dX4_fillLine_29 : decode cX4_fillLine 29 = .ok (.aaload, 1) := by decide +kernel
theorem dX4_fillLine_30 : decode cX4_fillLine 30 = .ok (.iload_n 1, 1) := by decide +kernel
theorem dX4_fillLine_31 : decode cX4_fillLine 31 = .ok (.invokevirtual 274, 3) := by decide +kernel
theorem dX4_fillLine_34 : decode cX4_fillLine 34 = .ok (.istore_n 1, 1) := by decide +kernel
theorem dX4_fillLine_35 : decode cX4_fillLine 35 = .ok (.iinc 2 1, 3) := by decide +kernel
theorem dX4_fillLine_38 : decode cX4_fillLine 38 = .ok (.goto (-29), 3) := by decide +kernel
theorem dX4_fillLine_41 : decode cX4_fillLine 41 = .ok (.return_, 1) := by decide +kernel
theorem dX4_lineUpChildren_0 : decode cX4_lineUpChildren 0 = .ok (.iload_n 2, 1) := by decide +kernel
theorem dX4_lineUpChildren_1 : decode cX4_lineUpChildren 1 = .ok (.istore_n 3, 1) := by decide +kernel
theorem dX4_lineUpChildren_2 : decode cX4_lineUpChildren 2 = .ok (.aload_n 0, 1) := by decide +kernel
theorem dX4_lineUpChildren_3 : decode cX4_lineUpChildren 3 = .ok (.getfield 25, 3) := by decide +kernel
theorem dX4_lineUpChildren_6 : decode cX4_lineUpChildren 6 = .ok (.astore 4, 2) := by decide +kernel
theorem dX4_lineUpChildren_8 : decode cX4_lineUpChildren 8 = .ok (.aload 4, 2) := by decide +kernel
theorem dX4_lineUpChildren_10 : decode cX4_lineUpChildren 10 = .ok (.arraylength, 1) := by decide +kernel
theorem dX4_lineUpChildren_11 : decode cX4_lineUpChildren 11 = .ok (.istore 5, 2) := by decide +kernel
theorem dX4_lineUpChildren_13 : decode cX4_lineUpChildren 13 = .ok (.iconst 0, 1) := by decide +kernel
theorem dX4_lineUpChildren_14 : decode cX4_lineUpChildren 14 = .ok (.istore 6, 2) := by decide +kernel
theorem dX4_lineUpChildren_16 : decode cX4_lineUpChildren 16 = .ok (.iload 6, 2) := by decide +kernel
theorem dX4_lineUpChildren_18 : decode cX4_lineUpChildren 18 = .ok (.iload 5, 2) := by decide +kernel
theorem dX4_lineUpChildren_20 : decode cX4_lineUpChildren 20 = .ok (.if_icmp .ge 54, 3) := by decide +kernel
theorem dX4_lineUpChildren_23 : decode cX4_lineUpChildren 23 = .ok (.aload 4, 2) := by decide +kernel
theorem dX4_lineUpChildren_25 : decode cX4_lineUpChildren 25 = .ok (.iload 6, 2) := by decide +kernel
theorem dX4_lineUpChildren_27 : decode cX4_lineUpChildren 27 = .ok (.aaload, 1) := by decide +kernel
theorem dX4_lineUpChildren_28 : decode cX4_lineUpChildren 28 = .ok (.astore 7, 2) := by decide +kernel
theorem dX4_lineUpChildren_30 : decode cX4_lineUpChildren 30 = .ok (.aload 7, 2) := by decide +kernel
theorem dX4_lineUpChildren_32 : decode cX4_lineUpChildren 32 = .ok (.ifnull 36, 3) := by decide +kernel
theorem dX4_lineUpChildren_35 : decode cX4_lineUpChildren 35 = .ok (.aload 7, 2) := by decide +kernel
theorem dX4_lineUpChildren_37 : decode cX4_lineUpChildren 37 = .ok (.getfield 99, 3) := by decide +kernel
theorem dX4_lineUpChildren_40 : decode cX4_lineUpChildren 40 = .ok (.aload_n 1, 1) := by decide +kernel
theorem dX4_lineUpChildren_41 : decode cX4_lineUpChildren 41 = .ok (.if_acmp .ne 27, 3) := by decide +kernel
theorem dX4_lineUpChildren_44 : decode cX4_lineUpChildren 44 = .ok (.iload_n 3, 1) := by decide +kernel
theorem dX4_lineUpChildren_45 : decode cX4_lineUpChildren 45 = .ok (.ifCond .lt 23, 3) := by decide +kernel
theorem dX4_lineUpChildren_48 : decode cX4_lineUpChildren 48 = .ok (.iload_n 3, 1) := by decide +kernel
theorem dX4_lineUpChildren_49 : decode cX4_lineUpChildren 49 = .ok (.aload_n 0, 1) := by decide +kernel
theorem dX4_lineUpChildren_50 : decode cX4_lineUpChildren 50 = .ok (.getfield 44, 3) := by decide +kernel
theorem dX4_lineUpChildren_53 : decode cX4_lineUpChildren 53 = .ok (.arraylength, 1) := by decide +kernel
theorem dX4_lineUpChildren_54 : decode cX4_lineUpChildren 54 = .ok (.if_icmp .ge 14, 3) := by decide +kernel
theorem dX4_lineUpChildren_57 : decode cX4_lineUpChildren 57 = .ok (.aload_n 0, 1) := by decide +kernel
theorem dX4_lineUpChildren_58 : decode cX4_lineUpChildren 58 = .ok (.getfield 44, 3) := by decide +kernel
theorem dX4_lineUpChildren_61 : decode cX4_lineUpChildren 61 = .ok (.iload_n 3, 1) := by decide +kernel
theorem dX4_lineUpChildren_62 : decode cX4_lineUpChildren 62 = .ok (.aload 7, 2) := by decide +kernel
theorem dX4_lineUpChildren_64 : decode cX4_lineUpChildren 64 = .ok (.aastore, 1) := by decide +kernel
theorem dX4_lineUpChildren_65 : decode cX4_lineUpChildren 65 = .ok (.iinc 3 1, 3) := by decide +kernel
theorem dX4_lineUpChildren_68 : decode cX4_lineUpChildren 68 = .ok (.iinc 6 1, 3) := by decide +kernel
theorem dX4_lineUpChildren_71 : decode cX4_lineUpChildren 71 = .ok (.goto (-55), 3) := by decide +kernel
theorem dX4_lineUpChildren_74 : decode cX4_lineUpChildren 74 = .ok (.iload_n 3, 1) := by decide +kernel
theorem dX4_lineUpChildren_75 : decode cX4_lineUpChildren 75 = .ok (.ireturn, 1) := by decide +kernel
theorem dX4_isMadeAsNow_0 : decode cX4_isMadeAsNow 0 = .ok (.aload_n 1, 1) := by decide +kernel
theorem dX4_isMadeAsNow_1 : decode cX4_isMadeAsNow 1 = .ok (.getfield 103, 3) := by decide +kernel
theorem dX4_isMadeAsNow_4 : decode cX4_isMadeAsNow 4 = .ok (.ifnonnull 5, 3) := by decide +kernel
theorem dX4_isMadeAsNow_7 : decode cX4_isMadeAsNow 7 = .ok (.iconst 0, 1) := by decide +kernel
theorem dX4_isMadeAsNow_8 : decode cX4_isMadeAsNow 8 = .ok (.ireturn, 1) := by decide +kernel
theorem dX4_isMadeAsNow_9 : decode cX4_isMadeAsNow 9 = .ok (.aload_n 0, 1) := by decide +kernel
theorem dX4_isMadeAsNow_10 : decode cX4_isMadeAsNow 10 = .ok (.getfield 12, 3) := by decide +kernel
theorem dX4_isMadeAsNow_13 : decode cX4_isMadeAsNow 13 = .ok (.aload_n 1, 1) := by decide +kernel
theorem dX4_isMadeAsNow_14 : decode cX4_isMadeAsNow 14 = .ok (.getfield 103, 3) := by decide +kernel
theorem dX4_isMadeAsNow_17 : decode cX4_isMadeAsNow 17 = .ok (.getfield 145, 3) := by decide +kernel
theorem dX4_isMadeAsNow_20 : decode cX4_isMadeAsNow 20 = .ok (.aload_n 0, 1) := by decide +kernel
theorem dX4_isMadeAsNow_21 : decode cX4_isMadeAsNow 21 = .ok (.getfield 50, 3) := by decide +kernel
theorem dX4_isMadeAsNow_24 : decode cX4_isMadeAsNow 24 = .ok (.invokevirtual 278, 3) := by decide +kernel
theorem dX4_isMadeAsNow_27 : decode cX4_isMadeAsNow 27 = .ok (.istore_n 2, 1) := by decide +kernel
theorem dX4_isMadeAsNow_28 : decode cX4_isMadeAsNow 28 = .ok (.iconst 0, 1) := by decide +kernel
theorem dX4_isMadeAsNow_29 : decode cX4_isMadeAsNow 29 = .ok (.istore_n 3, 1) := by decide +kernel
theorem dX4_isMadeAsNow_30 : decode cX4_isMadeAsNow 30 = .ok (.aload_n 0, 1) := by decide +kernel
theorem dX4_isMadeAsNow_31 : decode cX4_isMadeAsNow 31 = .ok (.aload_n 1, 1) := by decide +kernel
theorem dX4_isMadeAsNow_32 : decode cX4_isMadeAsNow 32 = .ok (.invokevirtual 282, 3) := by decide +kernel
theorem dX4_isMadeAsNow_35 : decode cX4_isMadeAsNow 35 = .ok (.iconst 1, 1) := by decide +kernel
theorem dX4_isMadeAsNow_36 : decode cX4_isMadeAsNow 36 = .ok (.isub, 1) := by decide +kernel
theorem dX4_isMadeAsNow_37 : decode cX4_isMadeAsNow 37 = .ok (.istore 4, 2) := by decide +kernel
theorem dX4_isMadeAsNow_39 : decode cX4_isMadeAsNow 39 = .ok (.iload 4, 2) := by decide +kernel
theorem dX4_isMadeAsNow_41 : decode cX4_isMadeAsNow 41 = .ok (.ifCond .lt 51, 3) := by decide +kernel
theorem dX4_isMadeAsNow_44 : decode cX4_isMadeAsNow 44 = .ok (.iload 4, 2) := by decide +kernel
theorem dX4_isMadeAsNow_46 : decode cX4_isMadeAsNow 46 = .ok (.aload_n 0, 1) := by decide +kernel
theorem dX4_isMadeAsNow_47 : decode cX4_isMadeAsNow 47 = .ok (.getfield 47, 3) := by decide +kernel
theorem dX4_isMadeAsNow_50 : decode cX4_isMadeAsNow 50 = .ok (.arraylength, 1) := by decide +kernel
theorem dX4_isMadeAsNow_51 : decode cX4_isMadeAsNow 51 = .ok (.if_icmp .ge 13, 3) := by decide +kernel
theorem dX4_isMadeAsNow_54 : decode cX4_isMadeAsNow 54 = .ok (.aload_n 0, 1) := by decide +kernel
theorem dX4_isMadeAsNow_55 : decode cX4_isMadeAsNow 55 = .ok (.getfield 47, 3) := by decide +kernel
theorem dX4_isMadeAsNow_58 : decode cX4_isMadeAsNow 58 = .ok (.iload 4, 2) := by decide +kernel
theorem dX4_isMadeAsNow_60 : decode cX4_isMadeAsNow 60 = .ok (.aaload, 1) := by decide +kernel
theorem dX4_isMadeAsNow_61 : decode cX4_isMadeAsNow 61 = .ok (.goto 4, 3) := by decide +kernel
theorem dX4_isMadeAsNow_64 : decode cX4_isMadeAsNow 64 = .ok (.aconst_null, 1) := by decide +kernel
theorem dX4_isMadeAsNow_65 : decode cX4_isMadeAsNow 65 = .ok (.astore 5, 2) := by decide +kernel
theorem dX4_isMadeAsNow_67 : decode cX4_isMadeAsNow 67 = .ok (.aload 5, 2) := by decide +kernel
theorem dX4_isMadeAsNow_69 : decode cX4_isMadeAsNow 69 = .ok (.ifnonnull 8, 3) := by decide +kernel
theorem dX4_isMadeAsNow_72 : decode cX4_isMadeAsNow 72 = .ok (.bipush (-2), 2) := by decide +kernel
theorem dX4_isMadeAsNow_74 : decode cX4_isMadeAsNow 74 = .ok (.goto 11, 3) := by decide +kernel
theorem dX4_isMadeAsNow_77 : decode cX4_isMadeAsNow 77 = .ok (.aload_n 0, 1) := by decide +kernel
theorem dX4_isMadeAsNow_78 : decode cX4_isMadeAsNow 78 = .ok (.aload 5, 2) := by decide +kernel
theorem dX4_isMadeAsNow_80 : decode cX4_isMadeAsNow 80 = .ok (.iload_n 3, 1) := by decide +kernel
theorem dX4_isMadeAsNow_81 : decode cX4_isMadeAsNow 81 = .ok (.iload_n 2, 1) := by decide +kernel
theorem dX4_isMadeAsNow_82 : decode cX4_isMadeAsNow 82 = .ok (.invokevirtual 285, 3) := by decide +kernel
theorem dX4_isMadeAsNow_85 : decode cX4_isMadeAsNow 85 = .ok (.istore_n 3, 1) := by decide +kernel
theorem dX4_isMadeAsNow_86 : decode cX4_isMadeAsNow 86 = .ok (.iinc 4 (-1), 3) := by decide +kernel
theorem dX4_isMadeAsNow_89 : decode cX4_isMadeAsNow 89 = .ok (.goto (-50), 3) := by decide +kernel
theorem dX4_isMadeAsNow_92 : decode cX4_isMadeAsNow 92 = .ok (.iload_n 3, 1) := by decide +kernel
theorem dX4_isMadeAsNow_93 : decode cX4_isMadeAsNow 93 = .ok (.iload_n 2, 1) := by decide +kernel
theorem dX4_isMadeAsNow_94 : decode cX4_isMadeAsNow 94 = .ok (.if_icmp .ne 7, 3) := by decide +kernel
theorem dX4_isMadeAsNow_97 : decode cX4_isMadeAsNow 97 = .ok (.iconst 1, 1) := by decide +kernel
theorem dX4_isMadeAsNow_98 : decode cX4_isMadeAsNow 98 = .ok (.goto 4, 3) := by decide +kernel
theorem dX4_isMadeAsNow_101 : decode cX4_isMadeAsNow 101 = .ok (.iconst 0, 1) := by decide +kernel
theorem dX4_isMadeAsNow_102 : decode cX4_isMadeAsNow 102 = .ok (.ireturn, 1) := by decide +kernel
theorem dX4_fillForefathers_0 : decode cX4_fillForefathers 0 = .ok (.iconst 0, 1) := by decide +kernel
theorem dX4_fillForefathers_1 : decode cX4_fillForefathers 1 = .ok (.istore_n 2, 1) := by decide +kernel
theorem dX4_fillForefathers_2 : decode cX4_fillForefathers 2 = .ok (.aload_n 1, 1) := by decide +kernel
theorem dX4_fillForefathers_3 : decode cX4_fillForefathers 3 = .ok (.astore_n 3, 1) := by decide +kernel
theorem dX4_fillForefathers_4 : decode cX4_fillForefathers 4 = .ok (.aload_n 3, 1) := by decide +kernel
theorem dX4_fillForefathers_5 : decode cX4_fillForefathers 5 = .ok (.ifnull 30, 3) := by decide +kernel
theorem dX4_fillForefathers_8 : decode cX4_fillForefathers 8 = .ok (.iload_n 2, 1) := by decide +kernel
theorem dX4_fillForefathers_9 : decode cX4_fillForefathers 9 = .ok (.aload_n 0, 1) := by decide +kernel
theorem dX4_fillForefathers_10 : decode cX4_fillForefathers 10 = .ok (.getfield 47, 3) := by decide +kernel
theorem dX4_fillForefathers_13 : decode cX4_fillForefathers 13 = .ok (.arraylength, 1) := by decide +kernel
theorem dX4_fillForefathers_14 : decode cX4_fillForefathers 14 = .ok (.if_icmp .ge 21, 3) := by decide +kernel
theorem dX4_fillForefathers_17 : decode cX4_fillForefathers 17 = .ok (.aload_n 0, 1) := by decide +kernel
theorem dX4_fillForefathers_18 : decode cX4_fillForefathers 18 = .ok (.getfield 47, 3) := by decide +kernel
theorem dX4_fillForefathers_21 : decode cX4_fillForefathers 21 = .ok (.iload_n 2, 1) := by decide +kernel
theorem dX4_fillForefathers_22 : decode cX4_fillForefathers 22 = .ok (.aload_n 3, 1) := by decide +kernel
theorem dX4_fillForefathers_23 : decode cX4_fillForefathers 23 = .ok (.aastore, 1) := by decide +kernel
theorem dX4_fillForefathers_24 : decode cX4_fillForefathers 24 = .ok (.iinc 2 1, 3) := by decide +kernel
theorem dX4_fillForefathers_27 : decode cX4_fillForefathers 27 = .ok (.aload_n 3, 1) := by decide +kernel
theorem dX4_fillForefathers_28 : decode cX4_fillForefathers 28 = .ok (.getfield 99, 3) := by decide +kernel
theorem dX4_fillForefathers_31 : decode cX4_fillForefathers 31 = .ok (.astore_n 3, 1) := by decide +kernel
theorem dX4_fillForefathers_32 : decode cX4_fillForefathers 32 = .ok (.goto (-28), 3) := by decide +kernel
theorem dX4_fillForefathers_35 : decode cX4_fillForefathers 35 = .ok (.iload_n 2, 1) := by decide +kernel
theorem dX4_fillForefathers_36 : decode cX4_fillForefathers 36 = .ok (.ireturn, 1) := by decide +kernel
theorem dX4_followSteps_0 : decode cX4_followSteps 0 = .ok (.iload_n 2, 1) := by decide +kernel
theorem dX4_followSteps_1 : decode cX4_followSteps 1 = .ok (.ifCond .ge 6, 3) := by decide +kernel
theorem dX4_followSteps_4 : decode cX4_followSteps 4 = .ok (.bipush (-2), 2) := by decide +kernel
theorem dX4_followSteps_6 : decode cX4_followSteps 6 = .ok (.ireturn, 1) := by decide +kernel
theorem dX4_followSteps_7 : decode cX4_followSteps 7 = .ok (.iconst 0, 1) := by decide +kernel
theorem dX4_followSteps_8 : decode cX4_followSteps 8 = .ok (.istore 4, 2) := by decide +kernel
theorem dX4_followSteps_10 : decode cX4_followSteps 10 = .ok (.iload 4, 2) := by decide +kernel
theorem dX4_followSteps_12 : decode cX4_followSteps 12 = .ok (.aload_n 1, 1) := by decide +kernel
theorem dX4_followSteps_13 : decode cX4_followSteps 13 = .ok (.getfield 94, 3) := by decide +kernel
theorem dX4_followSteps_16 : decode cX4_followSteps 16 = .ok (.if_icmp .ge 63, 3) := by decide +kernel
theorem dX4_followSteps_19 : decode cX4_followSteps 19 = .ok (.aload_n 1, 1) := by decide +kernel
theorem dX4_followSteps_20 : decode cX4_followSteps 20 = .ok (.getfield 247, 3) := by decide +kernel
theorem dX4_followSteps_23 : decode cX4_followSteps 23 = .ok (.iload 4, 2) := by decide +kernel
theorem dX4_followSteps_25 : decode cX4_followSteps 25 = .ok (.invokestatic 181, 3) := by decide +kernel
theorem dX4_followSteps_28 : decode cX4_followSteps 28 = .ok (.istore 5, 2) := by decide +kernel
theorem dX4_followSteps_30 : decode cX4_followSteps 30 = .ok (.aload_n 0, 1) := by decide +kernel
theorem dX4_followSteps_31 : decode cX4_followSteps 31 = .ok (.getfield 50, 3) := by decide +kernel
theorem dX4_followSteps_34 : decode cX4_followSteps 34 = .ok (.iload_n 3, 1) := by decide +kernel
theorem dX4_followSteps_35 : decode cX4_followSteps 35 = .ok (.iconst 1, 1) := by decide +kernel
theorem dX4_followSteps_36 : decode cX4_followSteps 36 = .ok (.isub, 1) := by decide +kernel
theorem dX4_followSteps_37 : decode cX4_followSteps 37 = .ok (.iload_n 2, 1) := by decide +kernel
theorem dX4_followSteps_38 : decode cX4_followSteps 38 = .ok (.isub, 1) := by decide +kernel
theorem dX4_followSteps_39 : decode cX4_followSteps 39 = .ok (.iload 4, 2) := by decide +kernel
theorem dX4_followSteps_41 : decode cX4_followSteps 41 = .ok (.isub, 1) := by decide +kernel
theorem dX4_followSteps_42 : decode cX4_followSteps 42 = .ok (.invokestatic 181, 3) := by decide +kernel
theorem dX4_followSteps_45 : decode cX4_followSteps 45 = .ok (.istore 6, 2) := by decide +kernel
theorem dX4_followSteps_47 : decode cX4_followSteps 47 = .ok (.aload_n 0, 1) := by decide +kernel
theorem dX4_followSteps_48 : decode cX4_followSteps 48 = .ok (.getfield 12, 3) := by decide +kernel
theorem dX4_followSteps_51 : decode cX4_followSteps 51 = .ok (.iload 6, 2) := by decide +kernel
theorem dX4_followSteps_53 : decode cX4_followSteps 53 = .ok (.iload 5, 2) := by decide +kernel
theorem dX4_followSteps_55 : decode cX4_followSteps 55 = .ok (.aload_n 0, 1) := by decide +kernel
theorem dX4_followSteps_56 : decode cX4_followSteps 56 = .ok (.getfield 16, 3) := by decide +kernel
theorem dX4_followSteps_59 : decode cX4_followSteps 59 = .ok (.iload 5, 2) := by decide +kernel
theorem dX4_followSteps_61 : decode cX4_followSteps 61 = .ok (.invokestatic 181, 3) := by decide +kernel
theorem dX4_followSteps_64 : decode cX4_followSteps 64 = .ok (.invokevirtual 289, 3) := by decide +kernel
theorem dX4_followSteps_67 : decode cX4_followSteps 67 = .ok (.ifCond .ne 6, 3) := by decide +kernel
theorem dX4_followSteps_70 : decode cX4_followSteps 70 = .ok (.bipush (-2), 2) := by decide +kernel
theorem dX4_followSteps_72 : decode cX4_followSteps 72 = .ok (.ireturn, 1) := by decide +kernel
theorem dX4_followSteps_73 : decode cX4_followSteps 73 = .ok (.iinc 4 1, 3) := by decide +kernel
theorem dX4_followSteps_76 : decode cX4_followSteps 76 = .ok (.goto (-66), 3) := by decide +kernel
theorem dX4_followSteps_79 : decode cX4_followSteps 79 = .ok (.iload_n 2, 1) := by decide +kernel
theorem dX4_followSteps_80 : decode cX4_followSteps 80 = .ok (.aload_n 1, 1) := by decide +kernel
theorem dX4_followSteps_81 : decode cX4_followSteps 81 = .ok (.getfield 94, 3) := by decide +kernel
theorem dX4_followSteps_84 : decode cX4_followSteps 84 = .ok (.iadd, 1) := by decide +kernel
theorem dX4_followSteps_85 : decode cX4_followSteps 85 = .ok (.ireturn, 1) := by decide +kernel
theorem dX4_bakeAt_0 : decode cX4_bakeAt 0 = .ok (.iload_n 1, 1) := by decide +kernel
theorem dX4_bakeAt_1 : decode cX4_bakeAt 1 = .ok (.ifCond .lt 21, 3) := by decide +kernel
theorem dX4_bakeAt_4 : decode cX4_bakeAt 4 = .ok (.iload_n 1, 1) := by decide +kernel
theorem dX4_bakeAt_5 : decode cX4_bakeAt 5 = .ok (.aload_n 0, 1) := by decide +kernel
theorem dX4_bakeAt_6 : decode cX4_bakeAt 6 = .ok (.getfield 31, 3) := by decide +kernel
theorem dX4_bakeAt_9 : decode cX4_bakeAt 9 = .ok (.arraylength, 1) := by decide +kernel
theorem dX4_bakeAt_10 : decode cX4_bakeAt 10 = .ok (.if_icmp .ge 12, 3) := by decide +kernel
theorem dX4_bakeAt_13 : decode cX4_bakeAt 13 = .ok (.aload_n 0, 1) := by decide +kernel
theorem dX4_bakeAt_14 : decode cX4_bakeAt 14 = .ok (.getfield 31, 3) := by decide +kernel
theorem dX4_bakeAt_17 : decode cX4_bakeAt 17 = .ok (.iload_n 1, 1) := by decide +kernel
theorem dX4_bakeAt_18 : decode cX4_bakeAt 18 = .ok (.aaload, 1) := by decide +kernel
theorem dX4_bakeAt_19 : decode cX4_bakeAt 19 = .ok (.goto 4, 3) := by decide +kernel
theorem dX4_bakeAt_22 : decode cX4_bakeAt 22 = .ok (.aconst_null, 1) := by decide +kernel
theorem dX4_bakeAt_23 : decode cX4_bakeAt 23 = .ok (.astore_n 2, 1) := by decide +kernel
theorem dX4_bakeAt_24 : decode cX4_bakeAt 24 = .ok (.aload_n 2, 1) := by decide +kernel
theorem dX4_bakeAt_25 : decode cX4_bakeAt 25 = .ok (.ifnonnull 14, 3) := by decide +kernel
theorem dX4_bakeAt_28 : decode cX4_bakeAt 28 = .ok (.new 240, 3) := by decide +kernel
theorem dX4_bakeAt_31 : decode cX4_bakeAt 31 = .ok (.dup, 1) := by decide +kernel
theorem dX4_bakeAt_32 : decode cX4_bakeAt 32 = .ok (.ldc_w 293, 3) := by decide +kernel
theorem dX4_bakeAt_35 : decode cX4_bakeAt 35 = .ok (.invokespecial 244, 3) := by decide +kernel
theorem dX4_bakeAt_38 : decode cX4_bakeAt 38 = .ok (.athrow, 1) := by decide +kernel
theorem dX4_bakeAt_39 : decode cX4_bakeAt 39 = .ok (.aload_n 2, 1) := by decide +kernel
theorem dX4_bakeAt_40 : decode cX4_bakeAt 40 = .ok (.areturn, 1) := by decide +kernel
theorem dX4_numberOf_0 : decode cX4_numberOf 0 = .ok (.aload_n 0, 1) := by decide +kernel
theorem dX4_numberOf_1 : decode cX4_numberOf 1 = .ok (.ifnonnull 7, 3) := by decide +kernel
theorem dX4_numberOf_4 : decode cX4_numberOf 4 = .ok (.iconst (-1), 1) := by decide +kernel
theorem dX4_numberOf_5 : decode cX4_numberOf 5 = .ok (.goto 7, 3) := by decide +kernel
theorem dX4_numberOf_8 : decode cX4_numberOf 8 = .ok (.aload_n 0, 1) := by decide +kernel
theorem dX4_numberOf_9 : decode cX4_numberOf 9 = .ok (.getfield 233, 3) := by decide +kernel
theorem dX4_numberOf_12 : decode cX4_numberOf 12 = .ok (.ireturn, 1) := by decide +kernel
theorem dX4_isTooOld_0 : decode cX4_isTooOld 0 = .ok (.aload_n 0, 1) := by decide +kernel
theorem dX4_isTooOld_1 : decode cX4_isTooOld 1 = .ok (.getfield 178, 3) := by decide +kernel
theorem dX4_isTooOld_4 : decode cX4_isTooOld 4 = .ok (.aload_n 1, 1) := by decide +kernel
theorem dX4_isTooOld_5 : decode cX4_isTooOld 5 = .ok (.getfield 295, 3) := by decide +kernel
theorem dX4_isTooOld_8 : decode cX4_isTooOld 8 = .ok (.isub, 1) := by decide +kernel
theorem dX4_isTooOld_9 : decode cX4_isTooOld 9 = .ok (.aload_n 0, 1) := by decide +kernel
theorem dX4_isTooOld_10 : decode cX4_isTooOld 10 = .ok (.getfield 56, 3) := by decide +kernel
theorem dX4_isTooOld_13 : decode cX4_isTooOld 13 = .ok (.if_icmp .le 7, 3) := by decide +kernel
theorem dX4_isTooOld_16 : decode cX4_isTooOld 16 = .ok (.iconst 1, 1) := by decide +kernel
theorem dX4_isTooOld_17 : decode cX4_isTooOld 17 = .ok (.goto 4, 3) := by decide +kernel
theorem dX4_isTooOld_20 : decode cX4_isTooOld 20 = .ok (.iconst 0, 1) := by decide +kernel
theorem dX4_isTooOld_21 : decode cX4_isTooOld 21 = .ok (.ireturn, 1) := by decide +kernel
theorem dX4_mustGo_0 : decode cX4_mustGo 0 = .ok (.aload_n 1, 1) := by decide +kernel
theorem dX4_mustGo_1 : decode cX4_mustGo 1 = .ok (.getfield 148, 3) := by decide +kernel
theorem dX4_mustGo_4 : decode cX4_mustGo 4 = .ok (.ifCond .ne 31, 3) := by decide +kernel
theorem dX4_mustGo_7 : decode cX4_mustGo 7 = .ok (.aload_n 0, 1) := by decide +kernel
theorem dX4_mustGo_8 : decode cX4_mustGo 8 = .ok (.getfield 178, 3) := by decide +kernel
theorem dX4_mustGo_11 : decode cX4_mustGo 11 = .ok (.aload_n 1, 1) := by decide +kernel
theorem dX4_mustGo_12 : decode cX4_mustGo 12 = .ok (.getfield 295, 3) := by decide +kernel
theorem dX4_mustGo_15 : decode cX4_mustGo 15 = .ok (.isub, 1) := by decide +kernel
theorem dX4_mustGo_16 : decode cX4_mustGo 16 = .ok (.aload_n 0, 1) := by decide +kernel
theorem dX4_mustGo_17 : decode cX4_mustGo 17 = .ok (.getfield 60, 3) := by decide +kernel
theorem dX4_mustGo_20 : decode cX4_mustGo 20 = .ok (.if_icmp .le 15, 3) := by decide +kernel
theorem dX4_mustGo_23 : decode cX4_mustGo 23 = .ok (.aload_n 0, 1) := by decide +kernel
theorem dX4_mustGo_24 : decode cX4_mustGo 24 = .ok (.aload_n 1, 1) := by decide +kernel
theorem dX4_mustGo_25 : decode cX4_mustGo 25 = .ok (.invokevirtual 162, 3) := by decide +kernel
theorem dX4_mustGo_28 : decode cX4_mustGo 28 = .ok (.ifCond .ne 7, 3) := by decide +kernel
theorem dX4_mustGo_31 : decode cX4_mustGo 31 = .ok (.iconst 1, 1) := by decide +kernel
theorem dX4_mustGo_32 : decode cX4_mustGo 32 = .ok (.goto 4, 3) := by decide +kernel
theorem dX4_mustGo_35 : decode cX4_mustGo 35 = .ok (.iconst 0, 1) := by decide +kernel
theorem dX4_mustGo_36 : decode cX4_mustGo 36 = .ok (.ireturn, 1) := by decide +kernel
theorem dX4_countMachinesFrom_0 : decode cX4_countMachinesFrom 0 = .ok (.iconst 0, 1) := by decide +kernel
theorem dX4_countMachinesFrom_1 : decode cX4_countMachinesFrom 1 = .ok (.istore_n 2, 1) := by decide +kernel
theorem dX4_countMachinesFrom_2 : decode cX4_countMachinesFrom 2 = .ok (.aload_n 0, 1) := by decide +kernel
theorem dX4_countMachinesFrom_3 : decode cX4_countMachinesFrom 3 = .ok (.getfield 37, 3) := by decide +kernel
theorem dX4_countMachinesFrom_6 : decode cX4_countMachinesFrom 6 = .ok (.astore_n 3, 1) := by decide +kernel
theorem dX4_countMachinesFrom_7 : decode cX4_countMachinesFrom 7 = .ok (.aload_n 3, 1) := by decide +kernel
theorem dX4_countMachinesFrom_8 : decode cX4_countMachinesFrom 8 = .ok (.arraylength, 1) := by decide +kernel
theorem dX4_countMachinesFrom_9 : decode cX4_countMachinesFrom 9 = .ok (.istore 4, 2) := by decide +kernel
theorem dX4_countMachinesFrom_11 : decode cX4_countMachinesFrom 11 = .ok (.iconst 0, 1) := by decide +kernel
theorem dX4_countMachinesFrom_12 : decode cX4_countMachinesFrom 12 = .ok (.istore 5, 2) := by decide +kernel
theorem dX4_countMachinesFrom_14 : decode cX4_countMachinesFrom 14 = .ok (.iload 5, 2) := by decide +kernel
theorem dX4_countMachinesFrom_16 : decode cX4_countMachinesFrom 16 = .ok (.iload 4, 2) := by decide +kernel
theorem dX4_countMachinesFrom_18 : decode cX4_countMachinesFrom 18 = .ok (.if_icmp .ge 32, 3) := by decide +kernel
theorem dX4_countMachinesFrom_21 : decode cX4_countMachinesFrom 21 = .ok (.aload_n 3, 1) := by decide +kernel
theorem dX4_countMachinesFrom_22 : decode cX4_countMachinesFrom 22 = .ok (.iload 5, 2) := by decide +kernel
theorem dX4_countMachinesFrom_24 : decode cX4_countMachinesFrom 24 = .ok (.aaload, 1) := by decide +kernel
theorem dX4_countMachinesFrom_25 : decode cX4_countMachinesFrom 25 = .ok (.astore 6, 2) := by decide +kernel
theorem dX4_countMachinesFrom_27 : decode cX4_countMachinesFrom 27 = .ok (.aload 6, 2) := by decide +kernel
theorem dX4_countMachinesFrom_29 : decode cX4_countMachinesFrom 29 = .ok (.ifnull 15, 3) := by decide +kernel
theorem dX4_countMachinesFrom_32 : decode cX4_countMachinesFrom 32 = .ok (.aload 6, 2) := by decide +kernel
theorem dX4_countMachinesFrom_34 : decode cX4_countMachinesFrom 34 = .ok (.getfield 230, 3) := by decide +kernel
theorem dX4_countMachinesFrom_37 : decode cX4_countMachinesFrom 37 = .ok (.aload_n 1, 1) := by decide +kernel
theorem dX4_countMachinesFrom_38 : decode cX4_countMachinesFrom 38 = .ok (.if_acmp .ne 6, 3) := by decide +kernel
theorem dX4_countMachinesFrom_41 : decode cX4_countMachinesFrom 41 = .ok (.iinc 2 1, 3) := by decide +kernel
theorem dX4_countMachinesFrom_44 : decode cX4_countMachinesFrom 44 = .ok (.iinc 5 1, 3) := by decide +kernel
theorem dX4_countMachinesFrom_47 : decode cX4_countMachinesFrom 47 = .ok (.goto (-33), 3) := by decide +kernel
theorem dX4_countMachinesFrom_50 : decode cX4_countMachinesFrom 50 = .ok (.iload_n 2, 1) := by decide +kernel
theorem dX4_countMachinesFrom_51 : decode cX4_countMachinesFrom 51 = .ok (.ireturn, 1) := by decide +kernel
theorem dX4_machineAt_0 : decode cX4_machineAt 0 = .ok (.iload_n 1, 1) := by decide +kernel
theorem dX4_machineAt_1 : decode cX4_machineAt 1 = .ok (.ifCond .lt 21, 3) := by decide +kernel
theorem dX4_machineAt_4 : decode cX4_machineAt 4 = .ok (.iload_n 1, 1) := by decide +kernel
theorem dX4_machineAt_5 : decode cX4_machineAt 5 = .ok (.aload_n 0, 1) := by decide +kernel
theorem dX4_machineAt_6 : decode cX4_machineAt 6 = .ok (.getfield 37, 3) := by decide +kernel
theorem dX4_machineAt_9 : decode cX4_machineAt 9 = .ok (.arraylength, 1) := by decide +kernel
theorem dX4_machineAt_10 : decode cX4_machineAt 10 = .ok (.if_icmp .ge 12, 3) := by decide +kernel
theorem dX4_machineAt_13 : decode cX4_machineAt 13 = .ok (.aload_n 0, 1) := by decide +kernel
theorem dX4_machineAt_14 : decode cX4_machineAt 14 = .ok (.getfield 37, 3) := by decide +kernel
theorem dX4_machineAt_17 : decode cX4_machineAt 17 = .ok (.iload_n 1, 1) := by decide +kernel
theorem dX4_machineAt_18 : decode cX4_machineAt 18 = .ok (.aaload, 1) := by decide +kernel
theorem dX4_machineAt_19 : decode cX4_machineAt 19 = .ok (.goto 4, 3) := by decide +kernel
theorem dX4_machineAt_22 : decode cX4_machineAt 22 = .ok (.aconst_null, 1) := by decide +kernel
theorem dX4_machineAt_23 : decode cX4_machineAt 23 = .ok (.astore_n 2, 1) := by decide +kernel
theorem dX4_machineAt_24 : decode cX4_machineAt 24 = .ok (.aload_n 2, 1) := by decide +kernel
theorem dX4_machineAt_25 : decode cX4_machineAt 25 = .ok (.ifnonnull 14, 3) := by decide +kernel
theorem dX4_machineAt_28 : decode cX4_machineAt 28 = .ok (.new 240, 3) := by decide +kernel
theorem dX4_machineAt_31 : decode cX4_machineAt 31 = .ok (.dup, 1) := by decide +kernel
theorem dX4_machineAt_32 : decode cX4_machineAt 32 = .ok (.ldc_w 298, 3) := by decide +kernel
theorem dX4_machineAt_35 : decode cX4_machineAt 35 = .ok (.invokespecial 244, 3) := by decide +kernel
theorem dX4_machineAt_38 : decode cX4_machineAt 38 = .ok (.athrow, 1) := by decide +kernel
theorem dX4_machineAt_39 : decode cX4_machineAt 39 = .ok (.aload_n 2, 1) := by decide +kernel
theorem dX4_machineAt_40 : decode cX4_machineAt 40 = .ok (.areturn, 1) := by decide +kernel
theorem dX4_runningAt_0 : decode cX4_runningAt 0 = .ok (.aload_n 0, 1) := by decide +kernel
theorem dX4_runningAt_1 : decode cX4_runningAt 1 = .ok (.iload_n 1, 1) := by decide +kernel
theorem dX4_runningAt_2 : decode cX4_runningAt 2 = .ok (.invokevirtual 234, 3) := by decide +kernel
theorem dX4_runningAt_5 : decode cX4_runningAt 5 = .ok (.astore_n 2, 1) := by decide +kernel
theorem dX4_runningAt_6 : decode cX4_runningAt 6 = .ok (.aload_n 2, 1) := by decide +kernel
theorem dX4_runningAt_7 : decode cX4_runningAt 7 = .ok (.getfield 230, 3) := by decide +kernel
theorem dX4_runningAt_10 : decode cX4_runningAt 10 = .ok (.ifnonnull 14, 3) := by decide +kernel
theorem dX4_runningAt_13 : decode cX4_runningAt 13 = .ok (.new 240, 3) := by decide +kernel
theorem dX4_runningAt_16 : decode cX4_runningAt 16 = .ok (.dup, 1) := by decide +kernel
theorem dX4_runningAt_17 : decode cX4_runningAt 17 = .ok (.ldc_w 300, 3) := by decide +kernel
theorem dX4_runningAt_20 : decode cX4_runningAt 20 = .ok (.invokespecial 244, 3) := by decide +kernel
theorem dX4_runningAt_23 : decode cX4_runningAt 23 = .ok (.athrow, 1) := by decide +kernel
theorem dX4_runningAt_24 : decode cX4_runningAt 24 = .ok (.aload_n 2, 1) := by decide +kernel
theorem dX4_runningAt_25 : decode cX4_runningAt 25 = .ok (.areturn, 1) := by decide +kernel
theorem dX4_bakeFor_0 : decode cX4_bakeFor 0 = .ok (.aload_n 0, 1) := by decide +kernel
theorem dX4_bakeFor_1 : decode cX4_bakeFor 1 = .ok (.getfield 31, 3) := by decide +kernel
theorem dX4_bakeFor_4 : decode cX4_bakeFor 4 = .ok (.arraylength, 1) := by decide +kernel
theorem dX4_bakeFor_5 : decode cX4_bakeFor 5 = .ok (.iconst 1, 1) := by decide +kernel
theorem dX4_bakeFor_6 : decode cX4_bakeFor 6 = .ok (.isub, 1) := by decide +kernel
theorem dX4_bakeFor_7 : decode cX4_bakeFor 7 = .ok (.istore 4, 2) := by decide +kernel
theorem dX4_bakeFor_9 : decode cX4_bakeFor 9 = .ok (.iload 4, 2) := by decide +kernel
theorem dX4_bakeFor_11 : decode cX4_bakeFor 11 = .ok (.ifCond .lt 46, 3) := by decide +kernel
theorem dX4_bakeFor_14 : decode cX4_bakeFor 14 = .ok (.aload_n 0, 1) := by decide +kernel
theorem dX4_bakeFor_15 : decode cX4_bakeFor 15 = .ok (.getfield 31, 3) := by decide +kernel
theorem dX4_bakeFor_18 : decode cX4_bakeFor 18 = .ok (.iload 4, 2) := by decide +kernel
theorem dX4_bakeFor_20 : decode cX4_bakeFor 20 = .ok (.aaload, 1) := by decide +kernel
theorem dX4_bakeFor_21 : decode cX4_bakeFor 21 = .ok (.astore 5, 2) := by decide +kernel
theorem dX4_bakeFor_23 : decode cX4_bakeFor 23 = .ok (.aload 5, 2) := by decide +kernel
theorem dX4_bakeFor_25 : decode cX4_bakeFor 25 = .ok (.ifnull 26, 3) := by decide +kernel
theorem dX4_bakeFor_28 : decode cX4_bakeFor 28 = .ok (.aload 5, 2) := by decide +kernel
theorem dX4_bakeFor_30 : decode cX4_bakeFor 30 = .ok (.getfield 302, 3) := by decide +kernel
theorem dX4_bakeFor_33 : decode cX4_bakeFor 33 = .ok (.aload_n 1, 1) := by decide +kernel
theorem dX4_bakeFor_34 : decode cX4_bakeFor 34 = .ok (.if_acmp .ne 17, 3) := by decide +kernel
theorem dX4_bakeFor_37 : decode cX4_bakeFor 37 = .ok (.aload_n 0, 1) := by decide +kernel
theorem dX4_bakeFor_38 : decode cX4_bakeFor 38 = .ok (.aload 5, 2) := by decide +kernel
theorem dX4_bakeFor_40 : decode cX4_bakeFor 40 = .ok (.iload_n 2, 1) := by decide +kernel
theorem dX4_bakeFor_41 : decode cX4_bakeFor 41 = .ok (.iload_n 3, 1) := by decide +kernel
theorem dX4_bakeFor_42 : decode cX4_bakeFor 42 = .ok (.invokevirtual 303, 3) := by decide +kernel
theorem dX4_bakeFor_45 : decode cX4_bakeFor 45 = .ok (.ifCond .eq 6, 3) := by decide +kernel
theorem dX4_bakeFor_48 : decode cX4_bakeFor 48 = .ok (.aload 5, 2) := by decide +kernel
theorem dX4_bakeFor_50 : decode cX4_bakeFor 50 = .ok (.areturn, 1) := by decide +kernel
theorem dX4_bakeFor_51 : decode cX4_bakeFor 51 = .ok (.iinc 4 (-1), 3) := by decide +kernel
theorem dX4_bakeFor_54 : decode cX4_bakeFor 54 = .ok (.goto (-45), 3) := by decide +kernel
theorem dX4_bakeFor_57 : decode cX4_bakeFor 57 = .ok (.aconst_null, 1) := by decide +kernel
theorem dX4_bakeFor_58 : decode cX4_bakeFor 58 = .ok (.areturn, 1) := by decide +kernel
theorem dX4_canStart_0 : decode cX4_canStart 0 = .ok (.aload_n 1, 1) := by decide +kernel
theorem dX4_canStart_1 : decode cX4_canStart 1 = .ok (.iload_n 2, 1) := by decide +kernel
theorem dX4_canStart_2 : decode cX4_canStart 2 = .ok (.invokevirtual 172, 3) := by decide +kernel
theorem dX4_canStart_5 : decode cX4_canStart 5 = .ok (.istore 4, 2) := by decide +kernel
theorem dX4_canStart_7 : decode cX4_canStart 7 = .ok (.iload 4, 2) := by decide +kernel
theorem dX4_canStart_9 : decode cX4_canStart 9 = .ok (.iconst (-1), 1) := by decide +kernel
theorem dX4_canStart_10 : decode cX4_canStart 10 = .ok (.if_icmp .eq 16, 3) := by decide +kernel
theorem dX4_canStart_13 : decode cX4_canStart 13 = .ok (.iload 4, 2) := by decide +kernel
theorem dX4_canStart_15 : decode cX4_canStart 15 = .ok (.aload_n 0, 1) := by decide +kernel
theorem dX4_canStart_16 : decode cX4_canStart 16 = .ok (.getfield 178, 3) := by decide +kernel
theorem dX4_canStart_19 : decode cX4_canStart 19 = .ok (.if_icmp .gt 7, 3) := by decide +kernel
theorem dX4_canStart_22 : decode cX4_canStart 22 = .ok (.iconst 1, 1) := by decide +kernel
theorem dX4_canStart_23 : decode cX4_canStart 23 = .ok (.goto 4, 3) := by decide +kernel
theorem dX4_canStart_26 : decode cX4_canStart 26 = .ok (.iconst 0, 1) := by decide +kernel
theorem dX4_canStart_27 : decode cX4_canStart 27 = .ok (.istore 5, 2) := by decide +kernel
theorem dX4_canStart_29 : decode cX4_canStart 29 = .ok (.iload 5, 2) := by decide +kernel
theorem dX4_canStart_31 : decode cX4_canStart 31 = .ok (.ifCond .eq 37, 3) := by decide +kernel
theorem dX4_canStart_34 : decode cX4_canStart 34 = .ok (.aload_n 1, 1) := by decide +kernel
theorem dX4_canStart_35 : decode cX4_canStart 35 = .ok (.getfield 157, 3) := by decide +kernel
theorem dX4_canStart_38 : decode cX4_canStart 38 = .ok (.ifCond .ne 30, 3) := by decide +kernel
theorem dX4_canStart_41 : decode cX4_canStart 41 = .ok (.aload_n 1, 1) := by decide +kernel
theorem dX4_canStart_42 : decode cX4_canStart 42 = .ok (.getfield 148, 3) := by decide +kernel
theorem dX4_canStart_45 : decode cX4_canStart 45 = .ok (.ifCond .ne 23, 3) := by decide +kernel
theorem dX4_canStart_48 : decode cX4_canStart 48 = .ok (.aload_n 0, 1) := by decide +kernel
theorem dX4_canStart_49 : decode cX4_canStart 49 = .ok (.aload_n 1, 1) := by decide +kernel
theorem dX4_canStart_50 : decode cX4_canStart 50 = .ok (.invokevirtual 199, 3) := by decide +kernel
theorem dX4_canStart_53 : decode cX4_canStart 53 = .ok (.ifCond .ne 15, 3) := by decide +kernel
theorem dX4_canStart_56 : decode cX4_canStart 56 = .ok (.aload_n 1, 1) := by decide +kernel
theorem dX4_canStart_57 : decode cX4_canStart 57 = .ok (.getfield 165, 3) := by decide +kernel
theorem dX4_canStart_60 : decode cX4_canStart 60 = .ok (.iload_n 3, 1) := by decide +kernel
theorem dX4_canStart_61 : decode cX4_canStart 61 = .ok (.if_icmp .lt 7, 3) := by decide +kernel
theorem dX4_canStart_64 : decode cX4_canStart 64 = .ok (.iconst 1, 1) := by decide +kernel
theorem dX4_canStart_65 : decode cX4_canStart 65 = .ok (.goto 4, 3) := by decide +kernel
theorem dX4_canStart_68 : decode cX4_canStart 68 = .ok (.iconst 0, 1) := by decide +kernel
theorem dX4_canStart_69 : decode cX4_canStart 69 = .ok (.ireturn, 1) := by decide +kernel
theorem dX4_mustRenew_0 : decode cX4_mustRenew 0 = .ok (.aload_n 1, 1) := by decide +kernel
theorem dX4_mustRenew_1 : decode cX4_mustRenew 1 = .ok (.getfield 230, 3) := by decide +kernel
theorem dX4_mustRenew_4 : decode cX4_mustRenew 4 = .ok (.ifnonnull 5, 3) := by decide +kernel
theorem dX4_mustRenew_7 : decode cX4_mustRenew 7 = .ok (.iconst 0, 1) := by decide +kernel
theorem dX4_mustRenew_8 : decode cX4_mustRenew 8 = .ok (.ireturn, 1) := by decide +kernel
theorem dX4_mustRenew_9 : decode cX4_mustRenew 9 = .ok (.aload_n 1, 1) := by decide +kernel
theorem dX4_mustRenew_10 : decode cX4_mustRenew 10 = .ok (.getfield 230, 3) := by decide +kernel
theorem dX4_mustRenew_13 : decode cX4_mustRenew 13 = .ok (.getfield 157, 3) := by decide +kernel
theorem dX4_mustRenew_16 : decode cX4_mustRenew 16 = .ok (.ifCond .ne 14, 3) := by decide +kernel
theorem dX4_mustRenew_19 : decode cX4_mustRenew 19 = .ok (.aload_n 0, 1) := by decide +kernel
theorem dX4_mustRenew_20 : decode cX4_mustRenew 20 = .ok (.aload_n 1, 1) := by decide +kernel
theorem dX4_mustRenew_21 : decode cX4_mustRenew 21 = .ok (.getfield 230, 3) := by decide +kernel
theorem dX4_mustRenew_24 : decode cX4_mustRenew 24 = .ok (.invokevirtual 199, 3) := by decide +kernel
theorem dX4_mustRenew_27 : decode cX4_mustRenew 27 = .ok (.ifCond .eq 5, 3) := by decide +kernel
theorem dX4_mustRenew_30 : decode cX4_mustRenew 30 = .ok (.iconst 1, 1) := by decide +kernel
theorem dX4_mustRenew_31 : decode cX4_mustRenew 31 = .ok (.ireturn, 1) := by decide +kernel
theorem dX4_mustRenew_32 : decode cX4_mustRenew 32 = .ok (.aload_n 0, 1) := by decide +kernel
theorem dX4_mustRenew_33 : decode cX4_mustRenew 33 = .ok (.aload_n 1, 1) := by decide +kernel
theorem dX4_mustRenew_34 : decode cX4_mustRenew 34 = .ok (.getfield 221, 3) := by decide +kernel
theorem dX4_mustRenew_37 : decode cX4_mustRenew 37 = .ok (.aload_n 1, 1) := by decide +kernel
theorem dX4_mustRenew_38 : decode cX4_mustRenew 38 = .ok (.getfield 224, 3) := by decide +kernel
theorem dX4_mustRenew_41 : decode cX4_mustRenew 41 = .ok (.aload_n 1, 1) := by decide +kernel
theorem dX4_mustRenew_42 : decode cX4_mustRenew 42 = .ok (.getfield 227, 3) := by decide +kernel
theorem dX4_mustRenew_45 : decode cX4_mustRenew 45 = .ok (.invokevirtual 204, 3) := by decide +kernel
theorem dX4_mustRenew_48 : decode cX4_mustRenew 48 = .ok (.astore_n 2, 1) := by decide +kernel
theorem dX4_mustRenew_49 : decode cX4_mustRenew 49 = .ok (.aload_n 2, 1) := by decide +kernel
theorem dX4_mustRenew_50 : decode cX4_mustRenew 50 = .ok (.ifnull 15, 3) := by decide +kernel
theorem dX4_mustRenew_53 : decode cX4_mustRenew 53 = .ok (.aload_n 2, 1) := by decide +kernel
theorem dX4_mustRenew_54 : decode cX4_mustRenew 54 = .ok (.aload_n 1, 1) := by decide +kernel
theorem dX4_mustRenew_55 : decode cX4_mustRenew 55 = .ok (.getfield 230, 3) := by decide +kernel
theorem dX4_mustRenew_58 : decode cX4_mustRenew 58 = .ok (.if_acmp .eq 7, 3) := by decide +kernel
theorem dX4_mustRenew_61 : decode cX4_mustRenew 61 = .ok (.iconst 1, 1) := by decide +kernel
theorem dX4_mustRenew_62 : decode cX4_mustRenew 62 = .ok (.goto 4, 3) := by decide +kernel
theorem dX4_mustRenew_65 : decode cX4_mustRenew 65 = .ok (.iconst 0, 1) := by decide +kernel
theorem dX4_mustRenew_66 : decode cX4_mustRenew 66 = .ok (.ireturn, 1) := by decide +kernel
theorem dX4_fillWaiting_0 : decode cX4_fillWaiting 0 = .ok (.iconst 0, 1) := by decide +kernel
theorem dX4_fillWaiting_1 : decode cX4_fillWaiting 1 = .ok (.istore_n 1, 1) := by decide +kernel
theorem dX4_fillWaiting_2 : decode cX4_fillWaiting 2 = .ok (.aload_n 0, 1) := by decide +kernel
theorem dX4_fillWaiting_3 : decode cX4_fillWaiting 3 = .ok (.getfield 37, 3) := by decide +kernel
theorem dX4_fillWaiting_6 : decode cX4_fillWaiting 6 = .ok (.astore_n 2, 1) := by decide +kernel
theorem dX4_fillWaiting_7 : decode cX4_fillWaiting 7 = .ok (.aload_n 2, 1) := by decide +kernel
theorem dX4_fillWaiting_8 : decode cX4_fillWaiting 8 = .ok (.arraylength, 1) := by decide +kernel
theorem dX4_fillWaiting_9 : decode cX4_fillWaiting 9 = .ok (.istore_n 3, 1) := by decide +kernel
theorem dX4_fillWaiting_10 : decode cX4_fillWaiting 10 = .ok (.iconst 0, 1) := by decide +kernel
theorem dX4_fillWaiting_11 : decode cX4_fillWaiting 11 = .ok (.istore 4, 2) := by decide +kernel
theorem dX4_fillWaiting_13 : decode cX4_fillWaiting 13 = .ok (.iload 4, 2) := by decide +kernel
theorem dX4_fillWaiting_15 : decode cX4_fillWaiting 15 = .ok (.iload_n 3, 1) := by decide +kernel
theorem dX4_fillWaiting_16 : decode cX4_fillWaiting 16 = .ok (.if_icmp .ge 39, 3) := by decide +kernel
theorem dX4_fillWaiting_19 : decode cX4_fillWaiting 19 = .ok (.aload_n 2, 1) := by decide +kernel
theorem dX4_fillWaiting_20 : decode cX4_fillWaiting 20 = .ok (.iload 4, 2) := by decide +kernel
theorem dX4_fillWaiting_22 : decode cX4_fillWaiting 22 = .ok (.aaload, 1) := by decide +kernel
theorem dX4_fillWaiting_23 : decode cX4_fillWaiting 23 = .ok (.astore 5, 2) := by decide +kernel
theorem dX4_fillWaiting_25 : decode cX4_fillWaiting 25 = .ok (.aload 5, 2) := by decide +kernel
theorem dX4_fillWaiting_27 : decode cX4_fillWaiting 27 = .ok (.ifnull 22, 3) := by decide +kernel
theorem dX4_fillWaiting_30 : decode cX4_fillWaiting 30 = .ok (.aload_n 0, 1) := by decide +kernel
theorem dX4_fillWaiting_31 : decode cX4_fillWaiting 31 = .ok (.aload 5, 2) := by decide +kernel
theorem dX4_fillWaiting_33 : decode cX4_fillWaiting 33 = .ok (.invokevirtual 307, 3) := by decide +kernel
theorem dX4_fillWaiting_36 : decode cX4_fillWaiting 36 = .ok (.ifCond .eq 13, 3) := by decide +kernel
theorem dX4_fillWaiting_39 : decode cX4_fillWaiting 39 = .ok (.aload_n 0, 1) := by decide +kernel
theorem dX4_fillWaiting_40 : decode cX4_fillWaiting 40 = .ok (.aload 5, 2) := by decide +kernel
theorem dX4_fillWaiting_42 : decode cX4_fillWaiting 42 = .ok (.iload_n 1, 1) := by decide +kernel
theorem dX4_fillWaiting_43 : decode cX4_fillWaiting 43 = .ok (.invokevirtual 311, 3) := by decide +kernel
theorem dX4_fillWaiting_46 : decode cX4_fillWaiting 46 = .ok (.iinc 1 1, 3) := by decide +kernel
theorem dX4_fillWaiting_49 : decode cX4_fillWaiting 49 = .ok (.iinc 4 1, 3) := by decide +kernel
theorem dX4_fillWaiting_52 : decode cX4_fillWaiting 52 = .ok (.goto (-39), 3) := by decide +kernel
theorem dX4_fillWaiting_55 : decode cX4_fillWaiting 55 = .ok (.iload_n 1, 1) := by decide +kernel
theorem dX4_fillWaiting_56 : decode cX4_fillWaiting 56 = .ok (.ireturn, 1) := by decide +kernel
theorem dX4_insertWaiting_0 : decode cX4_insertWaiting 0 = .ok (.iload_n 2, 1) := by decide +kernel
theorem dX4_insertWaiting_1 : decode cX4_insertWaiting 1 = .ok (.istore_n 3, 1) := by decide +kernel
theorem dX4_insertWaiting_2 : decode cX4_insertWaiting 2 = .ok (.iload_n 3, 1) := by decide +kernel
theorem dX4_insertWaiting_3 : decode cX4_insertWaiting 3 = .ok (.ifCond .le 50, 3) := by decide +kernel
theorem dX4_insertWaiting_6 : decode cX4_insertWaiting 6 = .ok (.iload_n 3, 1) := by decide +kernel
theorem dX4_insertWaiting_7 : decode cX4_insertWaiting 7 = .ok (.aload_n 0, 1) := by decide +kernel
theorem dX4_insertWaiting_8 : decode cX4_insertWaiting 8 = .ok (.getfield 53, 3) := by decide +kernel
theorem dX4_insertWaiting_11 : decode cX4_insertWaiting 11 = .ok (.arraylength, 1) := by decide +kernel
theorem dX4_insertWaiting_12 : decode cX4_insertWaiting 12 = .ok (.if_icmp .ge 41, 3) := by decide +kernel
theorem dX4_insertWaiting_15 : decode cX4_insertWaiting 15 = .ok (.aload_n 1, 1) := by decide +kernel
theorem dX4_insertWaiting_16 : decode cX4_insertWaiting 16 = .ok (.getfield 230, 3) := by decide +kernel
theorem dX4_insertWaiting_19 : decode cX4_insertWaiting 19 = .ok (.aload_n 0, 1) := by decide +kernel
theorem dX4_insertWaiting_20 : decode cX4_insertWaiting 20 = .ok (.getfield 53, 3) := by decide +kernel
theorem dX4_insertWaiting_23 : decode cX4_insertWaiting 23 = .ok (.iload_n 3, 1) := by decide +kernel
theorem dX4_insertWaiting_24 : decode cX4_insertWaiting 24 = .ok (.iconst 1, 1) := by decide +kernel
theorem dX4_insertWaiting_25 : decode cX4_insertWaiting 25 = .ok (.isub, 1) := by decide +kernel
theorem dX4_insertWaiting_26 : decode cX4_insertWaiting 26 = .ok (.aaload, 1) := by decide +kernel
theorem dX4_insertWaiting_27 : decode cX4_insertWaiting 27 = .ok (.invokestatic 315, 3) := by decide +kernel
theorem dX4_insertWaiting_30 : decode cX4_insertWaiting 30 = .ok (.ifCond .eq 23, 3) := by decide +kernel
theorem dX4_insertWaiting_33 : decode cX4_insertWaiting 33 = .ok (.aload_n 0, 1) := by decide +kernel
theorem dX4_insertWaiting_34 : decode cX4_insertWaiting 34 = .ok (.getfield 53, 3) := by decide +kernel
theorem dX4_insertWaiting_37 : decode cX4_insertWaiting 37 = .ok (.iload_n 3, 1) := by decide +kernel
theorem dX4_insertWaiting_38 : decode cX4_insertWaiting 38 = .ok (.aload_n 0, 1) := by decide +kernel
theorem dX4_insertWaiting_39 : decode cX4_insertWaiting 39 = .ok (.getfield 53, 3) := by decide +kernel
theorem dX4_insertWaiting_42 : decode cX4_insertWaiting 42 = .ok (.iload_n 3, 1) := by decide +kernel
theorem dX4_insertWaiting_43 : decode cX4_insertWaiting 43 = .ok (.iconst 1, 1) := by decide +kernel
theorem dX4_insertWaiting_44 : decode cX4_insertWaiting 44 = .ok (.isub, 1) := by decide +kernel
theorem dX4_insertWaiting_45 : decode cX4_insertWaiting 45 = .ok (.aaload, 1) := by decide +kernel
theorem dX4_insertWaiting_46 : decode cX4_insertWaiting 46 = .ok (.aastore, 1) := by decide +kernel
theorem dX4_insertWaiting_47 : decode cX4_insertWaiting 47 = .ok (.iinc 3 (-1), 3) := by decide +kernel
theorem dX4_insertWaiting_50 : decode cX4_insertWaiting 50 = .ok (.goto (-48), 3) := by decide +kernel
theorem dX4_insertWaiting_53 : decode cX4_insertWaiting 53 = .ok (.iload_n 3, 1) := by decide +kernel
theorem dX4_insertWaiting_54 : decode cX4_insertWaiting 54 = .ok (.ifCond .lt 19, 3) := by decide +kernel
theorem dX4_insertWaiting_57 : decode cX4_insertWaiting 57 = .ok (.iload_n 3, 1) := by decide +kernel
theorem dX4_insertWaiting_58 : decode cX4_insertWaiting 58 = .ok (.aload_n 0, 1) := by decide +kernel
theorem dX4_insertWaiting_59 : decode cX4_insertWaiting 59 = .ok (.getfield 53, 3) := by decide +kernel
theorem dX4_insertWaiting_62 : decode cX4_insertWaiting 62 = .ok (.arraylength, 1) := by decide +kernel
theorem dX4_insertWaiting_63 : decode cX4_insertWaiting 63 = .ok (.if_icmp .ge 10, 3) := by decide +kernel
theorem dX4_insertWaiting_66 : decode cX4_insertWaiting 66 = .ok (.aload_n 0, 1) := by decide +kernel
theorem dX4_insertWaiting_67 : decode cX4_insertWaiting 67 = .ok (.getfield 53, 3) := by decide +kernel
theorem dX4_insertWaiting_70 : decode cX4_insertWaiting 70 = .ok (.iload_n 3, 1) := by decide +kernel
theorem dX4_insertWaiting_71 : decode cX4_insertWaiting 71 = .ok (.aload_n 1, 1) := by decide +kernel
theorem dX4_insertWaiting_72 : decode cX4_insertWaiting 72 = .ok (.aastore, 1) := by decide +kernel
theorem dX4_insertWaiting_73 : decode cX4_insertWaiting 73 = .ok (.return_, 1) := by decide +kernel
theorem dX4_isAhead_0 : decode cX4_isAhead 0 = .ok (.aload_n 0, 1) := by decide +kernel
theorem dX4_isAhead_1 : decode cX4_isAhead 1 = .ok (.ifnull 14, 3) := by decide +kernel
theorem dX4_isAhead_4 : decode cX4_isAhead 4 = .ok (.aload_n 1, 1) := by decide +kernel
theorem dX4_isAhead_5 : decode cX4_isAhead 5 = .ok (.ifnull 10, 3) := by decide +kernel
theorem dX4_isAhead_8 : decode cX4_isAhead 8 = .ok (.aload_n 1, 1) := by decide +kernel
theorem dX4_isAhead_9 : decode cX4_isAhead 9 = .ok (.getfield 230, 3) := by decide +kernel
theorem dX4_isAhead_12 : decode cX4_isAhead 12 = .ok (.ifnonnull 5, 3) := by decide +kernel
theorem dX4_isAhead_15 : decode cX4_isAhead 15 = .ok (.iconst 0, 1) := by decide +kernel
theorem dX4_isAhead_16 : decode cX4_isAhead 16 = .ok (.ireturn, 1) := by decide +kernel
theorem dX4_isAhead_17 : decode cX4_isAhead 17 = .ok (.aload_n 0, 1) := by decide +kernel
theorem dX4_isAhead_18 : decode cX4_isAhead 18 = .ok (.getfield 157, 3) := by decide +kernel
theorem dX4_isAhead_21 : decode cX4_isAhead 21 = .ok (.aload_n 1, 1) := by decide +kernel
theorem dX4_isAhead_22 : decode cX4_isAhead 22 = .ok (.getfield 230, 3) := by decide +kernel
theorem dX4_isAhead_25 : decode cX4_isAhead 25 = .ok (.getfield 157, 3) := by decide +kernel
theorem dX4_isAhead_28 : decode cX4_isAhead 28 = .ok (.if_icmp .eq 8, 3) := by decide +kernel
theorem dX4_isAhead_31 : decode cX4_isAhead 31 = .ok (.aload_n 0, 1) := by decide +kernel
theorem dX4_isAhead_32 : decode cX4_isAhead 32 = .ok (.getfield 157, 3) := by decide +kernel
theorem dX4_isAhead_35 : decode cX4_isAhead 35 = .ok (.ireturn, 1) := by decide +kernel
theorem dX4_isAhead_36 : decode cX4_isAhead 36 = .ok (.aload_n 0, 1) := by decide +kernel
theorem dX4_isAhead_37 : decode cX4_isAhead 37 = .ok (.getfield 295, 3) := by decide +kernel
theorem dX4_isAhead_40 : decode cX4_isAhead 40 = .ok (.aload_n 1, 1) := by decide +kernel
theorem dX4_isAhead_41 : decode cX4_isAhead 41 = .ok (.getfield 230, 3) := by decide +kernel
theorem dX4_isAhead_44 : decode cX4_isAhead 44 = .ok (.getfield 295, 3) := by decide +kernel
theorem dX4_isAhead_47 : decode cX4_isAhead 47 = .ok (.if_icmp .ge 7, 3) := by decide +kernel
theorem dX4_isAhead_50 : decode cX4_isAhead 50 = .ok (.iconst 1, 1) := by decide +kernel
theorem dX4_isAhead_51 : decode cX4_isAhead 51 = .ok (.goto 4, 3) := by decide +kernel
theorem dX4_isAhead_54 : decode cX4_isAhead 54 = .ok (.iconst 0, 1) := by decide +kernel
theorem dX4_isAhead_55 : decode cX4_isAhead 55 = .ok (.ireturn, 1) := by decide +kernel
theorem dX4_at_0 : decode cX4_at 0 = .ok (.iload_n 1, 1) := by decide +kernel
theorem dX4_at_1 : decode cX4_at 1 = .ok (.ifCond .lt 15, 3) := by decide +kernel
theorem dX4_at_4 : decode cX4_at 4 = .ok (.iload_n 1, 1) := by decide +kernel
theorem dX4_at_5 : decode cX4_at 5 = .ok (.aload_n 0, 1) := by decide +kernel
theorem dX4_at_6 : decode cX4_at 6 = .ok (.arraylength, 1) := by decide +kernel
theorem dX4_at_7 : decode cX4_at 7 = .ok (.if_icmp .ge 9, 3) := by decide +kernel
theorem dX4_at_10 : decode cX4_at 10 = .ok (.aload_n 0, 1) := by decide +kernel
theorem dX4_at_11 : decode cX4_at 11 = .ok (.iload_n 1, 1) := by decide +kernel
theorem dX4_at_12 : decode cX4_at 12 = .ok (.iaload, 1) := by decide +kernel
theorem dX4_at_13 : decode cX4_at 13 = .ok (.goto 4, 3) := by decide +kernel
theorem dX4_at_16 : decode cX4_at 16 = .ok (.iconst (-1), 1) := by decide +kernel
theorem dX4_at_17 : decode cX4_at 17 = .ok (.ireturn, 1) := by decide +kernel
theorem dL_tried_0 : decode cL_tried 0 = .ok (.iload_n 1, 1) := by decide +kernel
theorem dL_tried_1 : decode cL_tried 1 = .ok (.ifCond .ne 11, 3) := by decide +kernel
theorem dL_tried_4 : decode cL_tried 4 = .ok (.aload_n 0, 1) := by decide +kernel
theorem dL_tried_5 : decode cL_tried 5 = .ok (.iload_n 2, 1) := by decide +kernel
theorem dL_tried_6 : decode cL_tried 6 = .ok (.invokevirtual 7, 3) := by decide +kernel
theorem dL_tried_9 : decode cL_tried 9 = .ok (.goto 77, 3) := by decide +kernel
theorem dL_tried_12 : decode cL_tried 12 = .ok (.iload_n 1, 1) := by decide +kernel
theorem dL_tried_13 : decode cL_tried 13 = .ok (.iconst 1, 1) := by decide +kernel
theorem dL_tried_14 : decode cL_tried 14 = .ok (.if_icmp .ne 11, 3) := by decide +kernel
theorem dL_tried_17 : decode cL_tried 17 = .ok (.aload_n 0, 1) := by decide +kernel
theorem dL_tried_18 : decode cL_tried 18 = .ok (.iload_n 2, 1) := by decide +kernel
theorem dL_tried_19 : decode cL_tried 19 = .ok (.invokevirtual 13, 3) := by decide +kernel
theorem dL_tried_22 : decode cL_tried 22 = .ok (.goto 64, 3) := by decide +kernel
theorem dL_tried_25 : decode cL_tried 25 = .ok (.iload_n 1, 1) := by decide +kernel
theorem dL_tried_26 : decode cL_tried 26 = .ok (.iconst 2, 1) := by decide +kernel
theorem dL_tried_27 : decode cL_tried 27 = .ok (.if_icmp .ne 11, 3) := by decide +kernel
theorem dL_tried_30 : decode cL_tried 30 = .ok (.aload_n 0, 1) := by decide +kernel
theorem dL_tried_31 : decode cL_tried 31 = .ok (.iload_n 2, 1) := by decide +kernel
theorem dL_tried_32 : decode cL_tried 32 = .ok (.invokevirtual 16, 3) := by decide +kernel
theorem dL_tried_35 : decode cL_tried 35 = .ok (.goto 51, 3) := by decide +kernel
theorem dL_tried_38 : decode cL_tried 38 = .ok (.iload_n 1, 1) := by decide +kernel
theorem dL_tried_39 : decode cL_tried 39 = .ok (.iconst 3, 1) := by decide +kernel
theorem dL_tried_40 : decode cL_tried 40 = .ok (.if_icmp .ne 12, 3) := by decide +kernel
theorem dL_tried_43 : decode cL_tried 43 = .ok (.aload_n 0, 1) := by decide +kernel
theorem dL_tried_44 : decode cL_tried 44 = .ok (.iload_n 2, 1) := by decide +kernel
theorem dL_tried_45 : decode cL_tried 45 = .ok (.iload_n 3, 1) := by decide +kernel
theorem dL_tried_46 : decode cL_tried 46 = .ok (.invokevirtual 19, 3) := by decide +kernel
theorem dL_tried_49 : decode cL_tried 49 = .ok (.goto 37, 3) := by decide +kernel
theorem dL_tried_52 : decode cL_tried 52 = .ok (.iload_n 1, 1) := by decide +kernel
theorem dL_tried_53 : decode cL_tried 53 = .ok (.iconst 4, 1) := by decide +kernel
theorem dL_tried_54 : decode cL_tried 54 = .ok (.if_icmp .ne 10, 3) := by decide +kernel
theorem dL_tried_57 : decode cL_tried 57 = .ok (.aload_n 0, 1) := by decide +kernel
theorem dL_tried_58 : decode cL_tried 58 = .ok (.invokevirtual 23, 3) := by decide +kernel
theorem dL_tried_61 : decode cL_tried 61 = .ok (.goto 25, 3) := by decide +kernel
theorem dL_tried_64 : decode cL_tried 64 = .ok (.aload_n 0, 1) := by decide +kernel
theorem dL_tried_65 : decode cL_tried 65 = .ok (.iload_n 2, 1) := by decide +kernel
theorem dL_tried_66 : decode cL_tried 66 = .ok (.iload_n 3, 1) := by decide +kernel
theorem dL_tried_67 : decode cL_tried 67 = .ok (.ifCond .le 7, 3) := by decide +kernel
theorem dL_tried_70 : decode cL_tried 70 = .ok (.iconst 1, 1) := by decide +kernel
theorem dL_tried_71 : decode cL_tried 71 = .ok (.goto 4, 3) := by decide +kernel
theorem dL_tried_74 : decode cL_tried 74 = .ok (.iconst 0, 1) := by decide +kernel
theorem dL_tried_75 : decode cL_tried 75 = .ok (.invokevirtual 27, 3) := by decide +kernel
theorem dL_tried_78 : decode cL_tried 78 = .ok (.ifCond .eq 7, 3) := by decide +kernel
theorem dL_tried_81 : decode cL_tried 81 = .ok (.iconst 1, 1) := by decide +kernel
theorem dL_tried_82 : decode cL_tried 82 = .ok (.goto 4, 3) := by decide +kernel
theorem dL_tried_85 : decode cL_tried 85 = .ok (.iconst 0, 1) := by decide +kernel
theorem dL_tried_86 : decode cL_tried 86 = .ok (.ireturn, 1) := by decide +kernel
theorem dL_tried_87 : decode cL_tried 87 = .ok (.astore 4, 2) := by decide +kernel
theorem dL_tried_89 : decode cL_tried 89 = .ok (.bipush (-3), 2) := by decide +kernel
theorem dL_tried_91 : decode cL_tried 91 = .ok (.ireturn, 1) := by decide +kernel
theorem dL_stepped_0 : decode cL_stepped 0 = .ok (.aload_n 0, 1) := by decide +kernel
theorem dL_stepped_1 : decode cL_stepped 1 = .ok (.iload_n 1, 1) := by decide +kernel
theorem dL_stepped_2 : decode cL_stepped 2 = .ok (.iload_n 2, 1) := by decide +kernel
theorem dL_stepped_3 : decode cL_stepped 3 = .ok (.invokevirtual 33, 3) := by decide +kernel
theorem dL_stepped_6 : decode cL_stepped 6 = .ok (.ireturn, 1) := by decide +kernel
theorem dL_stepped_7 : decode cL_stepped 7 = .ok (.astore_n 3, 1) := by decide +kernel
theorem dL_stepped_8 : decode cL_stepped 8 = .ok (.bipush (-3), 2) := by decide +kernel
theorem dL_stepped_10 : decode cL_stepped 10 = .ok (.ireturn, 1) := by decide +kernel
theorem dL_changed_0 : decode cL_changed 0 = .ok (.aload_n 0, 1) := by decide +kernel
theorem dL_changed_1 : decode cL_changed 1 = .ok (.iload_n 1, 1) := by decide +kernel
theorem dL_changed_2 : decode cL_changed 2 = .ok (.iload_n 2, 1) := by decide +kernel
theorem dL_changed_3 : decode cL_changed 3 = .ok (.invokevirtual 36, 3) := by decide +kernel
theorem dL_changed_6 : decode cL_changed 6 = .ok (.ireturn, 1) := by decide +kernel
theorem dL_changed_7 : decode cL_changed 7 = .ok (.astore_n 3, 1) := by decide +kernel
theorem dL_changed_8 : decode cL_changed 8 = .ok (.bipush (-2), 2) := by decide +kernel
theorem dL_changed_10 : decode cL_changed 10 = .ok (.ireturn, 1) := by decide +kernel
theorem dL_started_0 : decode cL_started 0 = .ok (.aload_n 0, 1) := by decide +kernel
theorem dL_started_1 : decode cL_started 1 = .ok (.iload_n 1, 1) := by decide +kernel
theorem dL_started_2 : decode cL_started 2 = .ok (.iload_n 2, 1) := by decide +kernel
theorem dL_started_3 : decode cL_started 3 = .ok (.iload_n 3, 1) := by decide +kernel
theorem dL_started_4 : decode cL_started 4 = .ok (.invokevirtual 41, 3) := by decide +kernel
theorem dL_started_7 : decode cL_started 7 = .ok (.ireturn, 1) := by decide +kernel
theorem dL_started_8 : decode cL_started 8 = .ok (.astore 4, 2) := by decide +kernel
theorem dL_started_10 : decode cL_started 10 = .ok (.bipush (-3), 2) := by decide +kernel
theorem dL_started_12 : decode cL_started 12 = .ok (.ireturn, 1) := by decide +kernel
theorem dL_renewed_0 : decode cL_renewed 0 = .ok (.aload_n 0, 1) := by decide +kernel
theorem dL_renewed_1 : decode cL_renewed 1 = .ok (.iload_n 1, 1) := by decide +kernel
theorem dL_renewed_2 : decode cL_renewed 2 = .ok (.invokevirtual 45, 3) := by decide +kernel
theorem dL_renewed_5 : decode cL_renewed 5 = .ok (.ireturn, 1) := by decide +kernel
theorem dL_renewed_6 : decode cL_renewed 6 = .ok (.astore_n 2, 1) := by decide +kernel
theorem dL_renewed_7 : decode cL_renewed 7 = .ok (.iconst (-1), 1) := by decide +kernel
theorem dL_renewed_8 : decode cL_renewed 8 = .ok (.ireturn, 1) := by decide +kernel
theorem dL_renewed_9 : decode cL_renewed 9 = .ok (.astore_n 2, 1) := by decide +kernel
theorem dL_renewed_10 : decode cL_renewed 10 = .ok (.bipush (-3), 2) := by decide +kernel
theorem dL_renewed_12 : decode cL_renewed 12 = .ok (.ireturn, 1) := by decide +kernel
theorem dL_stopped_0 : decode cL_stopped 0 = .ok (.aload_n 0, 1) := by decide +kernel
theorem dL_stopped_1 : decode cL_stopped 1 = .ok (.iload_n 1, 1) := by decide +kernel
theorem dL_stopped_2 : decode cL_stopped 2 = .ok (.invokevirtual 50, 3) := by decide +kernel
theorem dL_stopped_5 : decode cL_stopped 5 = .ok (.ireturn, 1) := by decide +kernel
theorem dL_stopped_6 : decode cL_stopped 6 = .ok (.astore_n 2, 1) := by decide +kernel
theorem dL_stopped_7 : decode cL_stopped 7 = .ok (.iconst (-1), 1) := by decide +kernel
theorem dL_stopped_8 : decode cL_stopped 8 = .ok (.ireturn, 1) := by decide +kernel
theorem dL_areImages_0 : decode cL_areImages 0 = .ok (.aload_n 0, 1) := by decide +kernel
theorem dL_areImages_1 : decode cL_areImages 1 = .ok (.invokevirtual 53, 3) := by decide +kernel
theorem dL_areImages_4 : decode cL_areImages 4 = .ok (.bipush 60, 2) := by decide +kernel
theorem dL_areImages_6 : decode cL_areImages 6 = .ok (.if_icmp .gt 7, 3) := by decide +kernel
theorem dL_areImages_9 : decode cL_areImages 9 = .ok (.iconst 1, 1) := by decide +kernel
theorem dL_areImages_10 : decode cL_areImages 10 = .ok (.goto 4, 3) := by decide +kernel
theorem dL_areImages_13 : decode cL_areImages 13 = .ok (.iconst 0, 1) := by decide +kernel
theorem dL_areImages_14 : decode cL_areImages 14 = .ok (.istore_n 3, 1) := by decide +kernel
theorem dL_areImages_15 : decode cL_areImages 15 = .ok (.iconst 0, 1) := by decide +kernel
theorem dL_areImages_16 : decode cL_areImages 16 = .ok (.istore 4, 2) := by decide +kernel
theorem dL_areImages_18 : decode cL_areImages 18 = .ok (.iload 4, 2) := by decide +kernel
theorem dL_areImages_20 : decode cL_areImages 20 = .ok (.iload_n 2, 1) := by decide +kernel
theorem dL_areImages_21 : decode cL_areImages 21 = .ok (.if_icmp .ge 89, 3) := by decide +kernel
theorem dL_areImages_24 : decode cL_areImages 24 = .ok (.iload_n 3, 1) := by decide +kernel
theorem dL_areImages_25 : decode cL_areImages 25 = .ok (.ifCond .eq 85, 3) := by decide +kernel
theorem dL_areImages_28 : decode cL_areImages 28 = .ok (.aload_n 0, 1) := by decide +kernel
theorem dL_areImages_29 : decode cL_areImages 29 = .ok (.iload 4, 2) := by decide +kernel
theorem dL_areImages_31 : decode cL_areImages 31 = .ok (.invokevirtual 56, 3) := by decide +kernel
theorem dL_areImages_34 : decode cL_areImages 34 = .ok (.istore 5, 2) := by decide +kernel
theorem dL_areImages_36 : decode cL_areImages 36 = .ok (.aload_n 0, 1) := by decide +kernel
theorem dL_areImages_37 : decode cL_areImages 37 = .ok (.iload 4, 2) := by decide +kernel
theorem dL_areImages_39 : decode cL_areImages 39 = .ok (.invokevirtual 59, 3) := by decide +kernel
theorem dL_areImages_42 : decode cL_areImages 42 = .ok (.istore 6, 2) := by decide +kernel
theorem dL_areImages_44 : decode cL_areImages 44 = .ok (.aload_n 0, 1) := by decide +kernel
theorem dL_areImages_45 : decode cL_areImages 45 = .ok (.iload 4, 2) := by decide +kernel
theorem dL_areImages_47 : decode cL_areImages 47 = .ok (.invokevirtual 63, 3) := by decide +kernel
theorem dL_areImages_50 : decode cL_areImages 50 = .ok (.iload 6, 2) := by decide +kernel
theorem dL_areImages_52 : decode cL_areImages 52 = .ok (.if_icmp .ne 50, 3) := by decide +kernel
theorem dL_areImages_55 : decode cL_areImages 55 = .ok (.iload 5, 2) := by decide +kernel
theorem dL_areImages_57 : decode cL_areImages 57 = .ok (.iconst (-1), 1) := by decide +kernel
theorem dL_areImages_58 : decode cL_areImages 58 = .ok (.if_icmp .lt 44, 3) := by decide +kernel
theorem dL_areImages_61 : decode cL_areImages 61 = .ok (.iload 5, 2) := by decide +kernel
theorem dL_areImages_63 : decode cL_areImages 63 = .ok (.aload_n 0, 1) := by decide +kernel
theorem dL_areImages_64 : decode cL_areImages 64 = .ok (.invokevirtual 53, 3) := by decide +kernel
theorem dL_areImages_67 : decode cL_areImages 67 = .ok (.if_icmp .ge 35, 3) := by decide +kernel
theorem dL_areImages_70 : decode cL_areImages 70 = .ok (.iload 6, 2) := by decide +kernel
theorem dL_areImages_72 : decode cL_areImages 72 = .ok (.ifCond .eq 26, 3) := by decide +kernel
theorem dL_areImages_75 : decode cL_areImages 75 = .ok (.iload 5, 2) := by decide +kernel
theorem dL_areImages_77 : decode cL_areImages 77 = .ok (.ifCond .lt 25, 3) := by decide +kernel
theorem dL_areImages_80 : decode cL_areImages 80 = .ok (.aload_n 1, 1) := by decide +kernel
theorem dL_areImages_81 : decode cL_areImages 81 = .ok (.iload 4, 2) := by decide +kernel
theorem dL_areImages_83 : decode cL_areImages 83 = .ok (.iaload, 1) := by decide +kernel
theorem dL_areImages_84 : decode cL_areImages 84 = .ok (.ifCond .lt 14, 3) := by decide +kernel
theorem dL_areImages_87 : decode cL_areImages 87 = .ok (.aload_n 0, 1) := by decide +kernel
theorem dL_areImages_88 : decode cL_areImages 88 = .ok (.aload_n 1, 1) := by decide +kernel
theorem dL_areImages_89 : decode cL_areImages 89 = .ok (.iload 4, 2) := by decide +kernel
theorem dL_areImages_91 : decode cL_areImages 91 = .ok (.iaload, 1) := by decide +kernel
theorem dL_areImages_92 : decode cL_areImages 92 = .ok (.invokevirtual 59, 3) := by decide +kernel
theorem dL_areImages_95 : decode cL_areImages 95 = .ok (.ifCond .eq 7, 3) := by decide +kernel
theorem dL_areImages_98 : decode cL_areImages 98 = .ok (.iconst 1, 1) := by decide +kernel
theorem dL_areImages_99 : decode cL_areImages 99 = .ok (.goto 4, 3) := by decide +kernel
theorem dL_areImages_102 : decode cL_areImages 102 = .ok (.iconst 0, 1) := by decide +kernel
theorem dL_areImages_103 : decode cL_areImages 103 = .ok (.istore_n 3, 1) := by decide +kernel
theorem dL_areImages_104 : decode cL_areImages 104 = .ok (.iinc 4 1, 3) := by decide +kernel
theorem dL_areImages_107 : decode cL_areImages 107 = .ok (.goto (-89), 3) := by decide +kernel
theorem dL_areImages_110 : decode cL_areImages 110 = .ok (.iconst 0, 1) := by decide +kernel
theorem dL_areImages_111 : decode cL_areImages 111 = .ok (.istore 4, 2) := by decide +kernel
theorem dL_areImages_113 : decode cL_areImages 113 = .ok (.iload 4, 2) := by decide +kernel
theorem dL_areImages_115 : decode cL_areImages 115 = .ok (.aload_n 0, 1) := by decide +kernel
theorem dL_areImages_116 : decode cL_areImages 116 = .ok (.invokevirtual 53, 3) := by decide +kernel
theorem dL_areImages_119 : decode cL_areImages 119 = .ok (.if_icmp .ge 71, 3) := by decide +kernel
theorem dL_areImages_122 : decode cL_areImages 122 = .ok (.iload_n 3, 1) := by decide +kernel
theorem dL_areImages_123 : decode cL_areImages 123 = .ok (.ifCond .eq 67, 3) := by decide +kernel
theorem dL_areImages_126 : decode cL_areImages 126 = .ok (.aload_n 0, 1) := by decide +kernel
theorem dL_areImages_127 : decode cL_areImages 127 = .ok (.iload 4, 2) := by decide +kernel
theorem dL_areImages_129 : decode cL_areImages 129 = .ok (.invokevirtual 66, 3) := by decide +kernel
theorem dL_areImages_132 : decode cL_areImages 132 = .ok (.istore 5, 2) := by decide +kernel
theorem dL_areImages_134 : decode cL_areImages 134 = .ok (.aload_n 0, 1) := by decide +kernel
theorem dL_areImages_135 : decode cL_areImages 135 = .ok (.iload 4, 2) := by decide +kernel
theorem dL_areImages_137 : decode cL_areImages 137 = .ok (.invokevirtual 69, 3) := by decide +kernel
theorem dL_areImages_140 : decode cL_areImages 140 = .ok (.iconst (-1), 1) := by decide +kernel
theorem dL_areImages_141 : decode cL_areImages 141 = .ok (.if_icmp .lt 41, 3) := by decide +kernel
theorem dL_areImages_144 : decode cL_areImages 144 = .ok (.aload_n 0, 1) := by decide +kernel
theorem dL_areImages_145 : decode cL_areImages 145 = .ok (.iload 4, 2) := by decide +kernel
theorem dL_areImages_147 : decode cL_areImages 147 = .ok (.invokevirtual 69, 3) := by decide +kernel
theorem dL_areImages_150 : decode cL_areImages 150 = .ok (.aload_n 0, 1) := by decide +kernel
theorem dL_areImages_151 : decode cL_areImages 151 = .ok (.invokevirtual 72, 3) := by decide +kernel
theorem dL_areImages_154 : decode cL_areImages 154 = .ok (.if_icmp .ge 28, 3) := by decide +kernel
theorem dL_areImages_157 : decode cL_areImages 157 = .ok (.iload 5, 2) := by decide +kernel
theorem dL_areImages_159 : decode cL_areImages 159 = .ok (.ifCond .lt 23, 3) := by decide +kernel
theorem dL_areImages_162 : decode cL_areImages 162 = .ok (.iload 5, 2) := by decide +kernel
theorem dL_areImages_164 : decode cL_areImages 164 = .ok (.bipush 10, 2) := by decide +kernel
theorem dL_areImages_166 : decode cL_areImages 166 = .ok (.irem, 1) := by decide +kernel
theorem dL_areImages_167 : decode cL_areImages 167 = .ok (.iconst 3, 1) := by decide +kernel
theorem dL_areImages_168 : decode cL_areImages 168 = .ok (.if_icmp .ge 14, 3) := by decide +kernel
theorem dL_areImages_171 : decode cL_areImages 171 = .ok (.iload 5, 2) := by decide +kernel
theorem dL_areImages_173 : decode cL_areImages 173 = .ok (.bipush 80, 2) := by decide +kernel
theorem dL_areImages_175 : decode cL_areImages 175 = .ok (.if_icmp .ge 7, 3) := by decide +kernel
theorem dL_areImages_178 : decode cL_areImages 178 = .ok (.iconst 1, 1) := by decide +kernel
theorem dL_areImages_179 : decode cL_areImages 179 = .ok (.goto 4, 3) := by decide +kernel
theorem dL_areImages_182 : decode cL_areImages 182 = .ok (.iconst 0, 1) := by decide +kernel
theorem dL_areImages_183 : decode cL_areImages 183 = .ok (.istore_n 3, 1) := by decide +kernel
theorem dL_areImages_184 : decode cL_areImages 184 = .ok (.iinc 4 1, 3) := by decide +kernel
theorem dL_areImages_187 : decode cL_areImages 187 = .ok (.goto (-74), 3) := by decide +kernel
theorem dL_areImages_190 : decode cL_areImages 190 = .ok (.iload_n 3, 1) := by decide +kernel
theorem dL_areImages_191 : decode cL_areImages 191 = .ok (.ireturn, 1) := by decide +kernel
theorem dL_areMachines_0 : decode cL_areMachines 0 = .ok (.aload_n 0, 1) := by decide +kernel
theorem dL_areMachines_1 : decode cL_areMachines 1 = .ok (.invokevirtual 75, 3) := by decide +kernel
theorem dL_areMachines_4 : decode cL_areMachines 4 = .ok (.istore_n 2, 1) := by decide +kernel
theorem dL_areMachines_5 : decode cL_areMachines 5 = .ok (.iconst 0, 1) := by decide +kernel
theorem dL_areMachines_6 : decode cL_areMachines 6 = .ok (.istore_n 3, 1) := by decide +kernel
theorem dL_areMachines_7 : decode cL_areMachines 7 = .ok (.iload_n 2, 1) := by decide +kernel
theorem dL_areMachines_8 : decode cL_areMachines 8 = .ok (.iload_n 1, 1) := by decide +kernel
theorem dL_areMachines_9 : decode cL_areMachines 9 = .ok (.if_icmp .gt 7, 3) := by decide +kernel
theorem dL_areMachines_12 : decode cL_areMachines 12 = .ok (.iconst 1, 1) := by decide +kernel
theorem dL_areMachines_13 : decode cL_areMachines 13 = .ok (.goto 4, 3) := by decide +kernel
theorem dL_areMachines_16 : decode cL_areMachines 16 = .ok (.iconst 0, 1) := by decide +kernel
theorem dL_areMachines_17 : decode cL_areMachines 17 = .ok (.istore 4, 2) := by decide +kernel
theorem dL_areMachines_19 : decode cL_areMachines 19 = .ok (.iconst 1, 1) := by decide +kernel
theorem dL_areMachines_20 : decode cL_areMachines 20 = .ok (.istore 5, 2) := by decide +kernel
theorem dL_areMachines_22 : decode cL_areMachines 22 = .ok (.iconst 0, 1) := by decide +kernel
theorem dL_areMachines_23 : decode cL_areMachines 23 = .ok (.istore 6, 2) := by decide +kernel
theorem dL_areMachines_25 : decode cL_areMachines 25 = .ok (.iload 6, 2) := by decide +kernel
theorem dL_areMachines_27 : decode cL_areMachines 27 = .ok (.iload_n 2, 1) := by decide +kernel
theorem dL_areMachines_28 : decode cL_areMachines 28 = .ok (.if_icmp .ge 109, 3) := by decide +kernel
theorem dL_areMachines_31 : decode cL_areMachines 31 = .ok (.iload 4, 2) := by decide +kernel
theorem dL_areMachines_33 : decode cL_areMachines 33 = .ok (.ifCond .eq 104, 3) := by decide +kernel
theorem dL_areMachines_36 : decode cL_areMachines 36 = .ok (.aload_n 0, 1) := by decide +kernel
theorem dL_areMachines_37 : decode cL_areMachines 37 = .ok (.iload 6, 2) := by decide +kernel
theorem dL_areMachines_39 : decode cL_areMachines 39 = .ok (.invokevirtual 78, 3) := by decide +kernel
theorem dL_areMachines_42 : decode cL_areMachines 42 = .ok (.istore 7, 2) := by decide +kernel
theorem dL_areMachines_44 : decode cL_areMachines 44 = .ok (.aload_n 0, 1) := by decide +kernel
theorem dL_areMachines_45 : decode cL_areMachines 45 = .ok (.aload_n 0, 1) := by decide +kernel
theorem dL_areMachines_46 : decode cL_areMachines 46 = .ok (.iload 7, 2) := by decide +kernel
theorem dL_areMachines_48 : decode cL_areMachines 48 = .ok (.invokevirtual 81, 3) := by decide +kernel
theorem dL_areMachines_51 : decode cL_areMachines 51 = .ok (.invokevirtual 66, 3) := by decide +kernel
theorem dL_areMachines_54 : decode cL_areMachines 54 = .ok (.bipush 10, 2) := by decide +kernel
theorem dL_areMachines_56 : decode cL_areMachines 56 = .ok (.idiv, 1) := by decide +kernel
theorem dL_areMachines_57 : decode cL_areMachines 57 = .ok (.iconst 2, 1) := by decide +kernel
theorem dL_areMachines_58 : decode cL_areMachines 58 = .ok (.irem, 1) := by decide +kernel
theorem dL_areMachines_59 : decode cL_areMachines 59 = .ok (.iconst 1, 1) := by decide +kernel
theorem dL_areMachines_60 : decode cL_areMachines 60 = .ok (.if_icmp .ne 7, 3) := by decide +kernel
theorem dL_areMachines_63 : decode cL_areMachines 63 = .ok (.iconst 1, 1) := by decide +kernel
theorem dL_areMachines_64 : decode cL_areMachines 64 = .ok (.goto 4, 3) := by decide +kernel
theorem dL_areMachines_67 : decode cL_areMachines 67 = .ok (.iconst 0, 1) := by decide +kernel
theorem dL_areMachines_68 : decode cL_areMachines 68 = .ok (.istore 8, 2) := by decide +kernel
theorem dL_areMachines_70 : decode cL_areMachines 70 = .ok (.iload_n 3, 1) := by decide +kernel
theorem dL_areMachines_71 : decode cL_areMachines 71 = .ok (.iload 7, 2) := by decide +kernel
theorem dL_areMachines_73 : decode cL_areMachines 73 = .ok (.ishr, 1) := by decide +kernel
theorem dL_areMachines_74 : decode cL_areMachines 74 = .ok (.iconst 1, 1) := by decide +kernel
theorem dL_areMachines_75 : decode cL_areMachines 75 = .ok (.iand, 1) := by decide +kernel
theorem dL_areMachines_76 : decode cL_areMachines 76 = .ok (.ifCond .ne 41, 3) := by decide +kernel
theorem dL_areMachines_79 : decode cL_areMachines 79 = .ok (.aload_n 0, 1) := by decide +kernel
theorem dL_areMachines_80 : decode cL_areMachines 80 = .ok (.iload 7, 2) := by decide +kernel
theorem dL_areMachines_82 : decode cL_areMachines 82 = .ok (.invokevirtual 81, 3) := by decide +kernel
theorem dL_areMachines_85 : decode cL_areMachines 85 = .ok (.ifCond .lt 32, 3) := by decide +kernel
theorem dL_areMachines_88 : decode cL_areMachines 88 = .ok (.iload 5, 2) := by decide +kernel
theorem dL_areMachines_90 : decode cL_areMachines 90 = .ok (.ifCond .ne 8, 3) := by decide +kernel
theorem dL_areMachines_93 : decode cL_areMachines 93 = .ok (.iload 8, 2) := by decide +kernel
theorem dL_areMachines_95 : decode cL_areMachines 95 = .ok (.ifCond .ne 22, 3) := by decide +kernel
theorem dL_areMachines_98 : decode cL_areMachines 98 = .ok (.aload_n 0, 1) := by decide +kernel
theorem dL_areMachines_99 : decode cL_areMachines 99 = .ok (.aload_n 0, 1) := by decide +kernel
theorem dL_areMachines_100 : decode cL_areMachines 100 = .ok (.iload 7, 2) := by decide +kernel
theorem dL_areMachines_102 : decode cL_areMachines 102 = .ok (.invokevirtual 81, 3) := by decide +kernel
theorem dL_areMachines_105 : decode cL_areMachines 105 = .ok (.invokevirtual 66, 3) := by decide +kernel
theorem dL_areMachines_108 : decode cL_areMachines 108 = .ok (.bipush 40, 2) := by decide +kernel
theorem dL_areMachines_110 : decode cL_areMachines 110 = .ok (.if_icmp .ge 7, 3) := by decide +kernel
theorem dL_areMachines_113 : decode cL_areMachines 113 = .ok (.iconst 1, 1) := by decide +kernel
theorem dL_areMachines_114 : decode cL_areMachines 114 = .ok (.goto 4, 3) := by decide +kernel
theorem dL_areMachines_117 : decode cL_areMachines 117 = .ok (.iconst 0, 1) := by decide +kernel
theorem dL_areMachines_118 : decode cL_areMachines 118 = .ok (.istore 4, 2) := by decide +kernel
theorem dL_areMachines_120 : decode cL_areMachines 120 = .ok (.iload_n 3, 1) := by decide +kernel
theorem dL_areMachines_121 : decode cL_areMachines 121 = .ok (.iconst 1, 1) := by decide +kernel
theorem dL_areMachines_122 : decode cL_areMachines 122 = .ok (.iload 7, 2) := by decide +kernel
theorem dL_areMachines_124 : decode cL_areMachines 124 = .ok (.ishl, 1) := by decide +kernel
theorem dL_areMachines_125 : decode cL_areMachines 125 = .ok (.ior, 1) := by decide +kernel
theorem dL_areMachines_126 : decode cL_areMachines 126 = .ok (.istore_n 3, 1) := by decide +kernel
theorem dL_areMachines_127 : decode cL_areMachines 127 = .ok (.iload 8, 2) := by decide +kernel
theorem dL_areMachines_129 : decode cL_areMachines 129 = .ok (.istore 5, 2) := by decide +kernel
theorem dL_areMachines_131 : decode cL_areMachines 131 = .ok (.iinc 6 1, 3) := by decide +kernel
theorem dL_areMachines_134 : decode cL_areMachines 134 = .ok (.goto (-109), 3) := by decide +kernel
theorem dL_areMachines_137 : decode cL_areMachines 137 = .ok (.iconst 0, 1) := by decide +kernel
theorem dL_areMachines_138 : decode cL_areMachines 138 = .ok (.istore 6, 2) := by decide +kernel
theorem dL_areMachines_140 : decode cL_areMachines 140 = .ok (.iload 6, 2) := by decide +kernel
theorem dL_areMachines_142 : decode cL_areMachines 142 = .ok (.iload_n 1, 1) := by decide +kernel
theorem dL_areMachines_143 : decode cL_areMachines 143 = .ok (.if_icmp .ge 91, 3) := by decide +kernel
theorem dL_areMachines_146 : decode cL_areMachines 146 = .ok (.iload 4, 2) := by decide +kernel
theorem dL_areMachines_148 : decode cL_areMachines 148 = .ok (.ifCond .eq 86, 3) := by decide +kernel
theorem dL_areMachines_151 : decode cL_areMachines 151 = .ok (.aload_n 0, 1) := by decide +kernel
theorem dL_areMachines_152 : decode cL_areMachines 152 = .ok (.iload 6, 2) := by decide +kernel
theorem dL_areMachines_154 : decode cL_areMachines 154 = .ok (.invokevirtual 81, 3) := by decide +kernel
theorem dL_areMachines_157 : decode cL_areMachines 157 = .ok (.istore 7, 2) := by decide +kernel
theorem dL_areMachines_159 : decode cL_areMachines 159 = .ok (.iload_n 3, 1) := by decide +kernel
theorem dL_areMachines_160 : decode cL_areMachines 160 = .ok (.iload 6, 2) := by decide +kernel
theorem dL_areMachines_162 : decode cL_areMachines 162 = .ok (.ishr, 1) := by decide +kernel
theorem dL_areMachines_163 : decode cL_areMachines 163 = .ok (.iconst 1, 1) := by decide +kernel
theorem dL_areMachines_164 : decode cL_areMachines 164 = .ok (.iand, 1) := by decide +kernel
theorem dL_areMachines_165 : decode cL_areMachines 165 = .ok (.iconst 1, 1) := by decide +kernel
theorem dL_areMachines_166 : decode cL_areMachines 166 = .ok (.if_icmp .ne 7, 3) := by decide +kernel
theorem dL_areMachines_169 : decode cL_areMachines 169 = .ok (.iconst 1, 1) := by decide +kernel
