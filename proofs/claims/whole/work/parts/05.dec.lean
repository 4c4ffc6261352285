/-! Decode rows. -/
theorem d_J_maxI_0 : decode b_J_maxI 0 = .ok (.iload_n 0, 1) := by decide +kernel
theorem d_J_maxI_1 : decode b_J_maxI 1 = .ok (.iload_n 1, 1) := by decide +kernel
theorem d_J_maxI_2 : decode b_J_maxI 2 = .ok (.if_icmp .lt 7, 3) := by decide +kernel
theorem d_J_maxI_5 : decode b_J_maxI 5 = .ok (.iload_n 0, 1) := by decide +kernel
theorem d_J_maxI_6 : decode b_J_maxI 6 = .ok (.goto 4, 3) := by decide +kernel
theorem d_J_maxI_9 : decode b_J_maxI 9 = .ok (.iload_n 1, 1) := by decide +kernel
theorem d_J_maxI_10 : decode b_J_maxI 10 = .ok (.ireturn, 1) := by decide +kernel
theorem d_J_minI_0 : decode b_J_minI 0 = .ok (.iload_n 0, 1) := by decide +kernel
theorem d_J_minI_1 : decode b_J_minI 1 = .ok (.iload_n 1, 1) := by decide +kernel
theorem d_J_minI_2 : decode b_J_minI 2 = .ok (.if_icmp .gt 7, 3) := by decide +kernel
theorem d_J_minI_5 : decode b_J_minI 5 = .ok (.iload_n 0, 1) := by decide +kernel
theorem d_J_minI_6 : decode b_J_minI 6 = .ok (.goto 4, 3) := by decide +kernel
theorem d_J_minI_9 : decode b_J_minI 9 = .ok (.iload_n 1, 1) := by decide +kernel
theorem d_J_minI_10 : decode b_J_minI 10 = .ok (.ireturn, 1) := by decide +kernel
theorem d_J_minJ_0 : decode b_J_minJ 0 = .ok (.lload_n 0, 1) := by decide +kernel
theorem d_J_minJ_1 : decode b_J_minJ 1 = .ok (.lload_n 2, 1) := by decide +kernel
theorem d_J_minJ_2 : decode b_J_minJ 2 = .ok (.lcmp, 1) := by decide +kernel
theorem d_J_minJ_3 : decode b_J_minJ 3 = .ok (.ifCond .gt 7, 3) := by decide +kernel
theorem d_J_minJ_6 : decode b_J_minJ 6 = .ok (.lload_n 0, 1) := by decide +kernel
theorem d_J_minJ_7 : decode b_J_minJ 7 = .ok (.goto 4, 3) := by decide +kernel
theorem d_J_minJ_10 : decode b_J_minJ 10 = .ok (.lload_n 2, 1) := by decide +kernel
theorem d_J_minJ_11 : decode b_J_minJ 11 = .ok (.lreturn, 1) := by decide +kernel
theorem d_J_fill_0 : decode b_J_fill 0 = .ok (.iconst 0, 1) := by decide +kernel
theorem d_J_fill_1 : decode b_J_fill 1 = .ok (.istore_n 2, 1) := by decide +kernel
theorem d_J_fill_2 : decode b_J_fill 2 = .ok (.aload_n 0, 1) := by decide +kernel
theorem d_J_fill_3 : decode b_J_fill 3 = .ok (.arraylength, 1) := by decide +kernel
theorem d_J_fill_4 : decode b_J_fill 4 = .ok (.istore_n 3, 1) := by decide +kernel
theorem d_J_fill_5 : decode b_J_fill 5 = .ok (.iload_n 2, 1) := by decide +kernel
theorem d_J_fill_6 : decode b_J_fill 6 = .ok (.iload_n 3, 1) := by decide +kernel
theorem d_J_fill_7 : decode b_J_fill 7 = .ok (.if_icmp .ge 13, 3) := by decide +kernel
theorem d_J_fill_10 : decode b_J_fill 10 = .ok (.aload_n 0, 1) := by decide +kernel
theorem d_J_fill_11 : decode b_J_fill 11 = .ok (.iload_n 2, 1) := by decide +kernel
theorem d_J_fill_12 : decode b_J_fill 12 = .ok (.iload_n 1, 1) := by decide +kernel
theorem d_J_fill_13 : decode b_J_fill 13 = .ok (.iastore, 1) := by decide +kernel
theorem d_J_fill_14 : decode b_J_fill 14 = .ok (.iinc 2 1, 3) := by decide +kernel
theorem d_J_fill_17 : decode b_J_fill 17 = .ok (.goto (-12), 3) := by decide +kernel
theorem d_J_fill_20 : decode b_J_fill 20 = .ok (.return_, 1) := by decide +kernel
theorem d_A_init_0 : decode b_A_init 0 = .ok (.aload_n 0, 1) := by decide +kernel
theorem d_A_init_1 : decode b_A_init 1 = .ok (.invokespecial 3, 3) := by decide +kernel
theorem d_A_init_4 : decode b_A_init 4 = .ok (.aload_n 0, 1) := by decide +kernel
theorem d_A_init_5 : decode b_A_init 5 = .ok (.iconst 3, 1) := by decide +kernel
theorem d_A_init_6 : decode b_A_init 6 = .ok (.bipush 21, 2) := by decide +kernel
theorem d_A_init_8 : decode b_A_init 8 = .ok (.multianewarray 9 2, 4) := by decide +kernel
theorem d_A_init_12 : decode b_A_init 12 = .ok (.putfield 11, 3) := by decide +kernel
theorem d_A_init_15 : decode b_A_init 15 = .ok (.aload_n 0, 1) := by decide +kernel
theorem d_A_init_16 : decode b_A_init 16 = .ok (.bipush 21, 2) := by decide +kernel
theorem d_A_init_18 : decode b_A_init 18 = .ok (.newarray .int, 2) := by decide +kernel
theorem d_A_init_20 : decode b_A_init 20 = .ok (.putfield 16, 3) := by decide +kernel
theorem d_A_init_23 : decode b_A_init 23 = .ok (.aload_n 0, 1) := by decide +kernel
theorem d_A_init_24 : decode b_A_init 24 = .ok (.bipush 20, 2) := by decide +kernel
theorem d_A_init_26 : decode b_A_init 26 = .ok (.newarray .int, 2) := by decide +kernel
theorem d_A_init_28 : decode b_A_init 28 = .ok (.putfield 20, 3) := by decide +kernel
theorem d_A_init_31 : decode b_A_init 31 = .ok (.aload_n 0, 1) := by decide +kernel
theorem d_A_init_32 : decode b_A_init 32 = .ok (.bipush 21, 2) := by decide +kernel
theorem d_A_init_34 : decode b_A_init 34 = .ok (.newarray .int, 2) := by decide +kernel
theorem d_A_init_36 : decode b_A_init 36 = .ok (.putfield 23, 3) := by decide +kernel
theorem d_A_init_39 : decode b_A_init 39 = .ok (.aload_n 0, 1) := by decide +kernel
theorem d_A_init_40 : decode b_A_init 40 = .ok (.iconst 0, 1) := by decide +kernel
theorem d_A_init_41 : decode b_A_init 41 = .ok (.putfield 26, 3) := by decide +kernel
theorem d_A_init_44 : decode b_A_init 44 = .ok (.return_, 1) := by decide +kernel
theorem d_A_addTenant_0 : decode b_A_addTenant 0 = .ok (.aload_n 0, 1) := by decide +kernel
theorem d_A_addTenant_1 : decode b_A_addTenant 1 = .ok (.getfield 26, 3) := by decide +kernel
theorem d_A_addTenant_4 : decode b_A_addTenant 4 = .ok (.istore_n 1, 1) := by decide +kernel
theorem d_A_addTenant_5 : decode b_A_addTenant 5 = .ok (.aload_n 0, 1) := by decide +kernel
theorem d_A_addTenant_6 : decode b_A_addTenant 6 = .ok (.dup, 1) := by decide +kernel
theorem d_A_addTenant_7 : decode b_A_addTenant 7 = .ok (.getfield 26, 3) := by decide +kernel
theorem d_A_addTenant_10 : decode b_A_addTenant 10 = .ok (.iconst 1, 1) := by decide +kernel
theorem d_A_addTenant_11 : decode b_A_addTenant 11 = .ok (.iadd, 1) := by decide +kernel
theorem d_A_addTenant_12 : decode b_A_addTenant 12 = .ok (.putfield 26, 3) := by decide +kernel
theorem d_A_addTenant_15 : decode b_A_addTenant 15 = .ok (.iload_n 1, 1) := by decide +kernel
theorem d_A_addTenant_16 : decode b_A_addTenant 16 = .ok (.ireturn, 1) := by decide +kernel
theorem d_A_clearOwed_0 : decode b_A_clearOwed 0 = .ok (.iconst 0, 1) := by decide +kernel
theorem d_A_clearOwed_1 : decode b_A_clearOwed 1 = .ok (.istore_n 1, 1) := by decide +kernel
theorem d_A_clearOwed_2 : decode b_A_clearOwed 2 = .ok (.iload_n 1, 1) := by decide +kernel
theorem d_A_clearOwed_3 : decode b_A_clearOwed 3 = .ok (.iconst 3, 1) := by decide +kernel
theorem d_A_clearOwed_4 : decode b_A_clearOwed 4 = .ok (.if_icmp .ge 19, 3) := by decide +kernel
theorem d_A_clearOwed_7 : decode b_A_clearOwed 7 = .ok (.aload_n 0, 1) := by decide +kernel
theorem d_A_clearOwed_8 : decode b_A_clearOwed 8 = .ok (.getfield 11, 3) := by decide +kernel
theorem d_A_clearOwed_11 : decode b_A_clearOwed 11 = .ok (.iload_n 1, 1) := by decide +kernel
theorem d_A_clearOwed_12 : decode b_A_clearOwed 12 = .ok (.aaload, 1) := by decide +kernel
theorem d_A_clearOwed_13 : decode b_A_clearOwed 13 = .ok (.iconst 0, 1) := by decide +kernel
theorem d_A_clearOwed_14 : decode b_A_clearOwed 14 = .ok (.invokestatic 30, 3) := by decide +kernel
theorem d_A_clearOwed_17 : decode b_A_clearOwed 17 = .ok (.iinc 1 1, 3) := by decide +kernel
theorem d_A_clearOwed_20 : decode b_A_clearOwed 20 = .ok (.goto (-18), 3) := by decide +kernel
theorem d_A_clearOwed_23 : decode b_A_clearOwed 23 = .ok (.return_, 1) := by decide +kernel
theorem d_A_owedInAll_0 : decode b_A_owedInAll 0 = .ok (.iload_n 1, 1) := by decide +kernel
theorem d_A_owedInAll_1 : decode b_A_owedInAll 1 = .ok (.iconst 1, 1) := by decide +kernel
theorem d_A_owedInAll_2 : decode b_A_owedInAll 2 = .ok (.iadd, 1) := by decide +kernel
theorem d_A_owedInAll_3 : decode b_A_owedInAll 3 = .ok (.istore_n 2, 1) := by decide +kernel
theorem d_A_owedInAll_4 : decode b_A_owedInAll 4 = .ok (.aload_n 0, 1) := by decide +kernel
theorem d_A_owedInAll_5 : decode b_A_owedInAll 5 = .ok (.getfield 11, 3) := by decide +kernel
theorem d_A_owedInAll_8 : decode b_A_owedInAll 8 = .ok (.iconst 0, 1) := by decide +kernel
theorem d_A_owedInAll_9 : decode b_A_owedInAll 9 = .ok (.aaload, 1) := by decide +kernel
theorem d_A_owedInAll_10 : decode b_A_owedInAll 10 = .ok (.iload_n 2, 1) := by decide +kernel
theorem d_A_owedInAll_11 : decode b_A_owedInAll 11 = .ok (.iaload, 1) := by decide +kernel
theorem d_A_owedInAll_12 : decode b_A_owedInAll 12 = .ok (.aload_n 0, 1) := by decide +kernel
theorem d_A_owedInAll_13 : decode b_A_owedInAll 13 = .ok (.getfield 11, 3) := by decide +kernel
theorem d_A_owedInAll_16 : decode b_A_owedInAll 16 = .ok (.iconst 1, 1) := by decide +kernel
theorem d_A_owedInAll_17 : decode b_A_owedInAll 17 = .ok (.aaload, 1) := by decide +kernel
theorem d_A_owedInAll_18 : decode b_A_owedInAll 18 = .ok (.iload_n 2, 1) := by decide +kernel
theorem d_A_owedInAll_19 : decode b_A_owedInAll 19 = .ok (.iaload, 1) := by decide +kernel
theorem d_A_owedInAll_20 : decode b_A_owedInAll 20 = .ok (.iadd, 1) := by decide +kernel
theorem d_A_owedInAll_21 : decode b_A_owedInAll 21 = .ok (.aload_n 0, 1) := by decide +kernel
theorem d_A_owedInAll_22 : decode b_A_owedInAll 22 = .ok (.getfield 11, 3) := by decide +kernel
theorem d_A_owedInAll_25 : decode b_A_owedInAll 25 = .ok (.iconst 2, 1) := by decide +kernel
theorem d_A_owedInAll_26 : decode b_A_owedInAll 26 = .ok (.aaload, 1) := by decide +kernel
theorem d_A_owedInAll_27 : decode b_A_owedInAll 27 = .ok (.iload_n 2, 1) := by decide +kernel
theorem d_A_owedInAll_28 : decode b_A_owedInAll 28 = .ok (.iaload, 1) := by decide +kernel
theorem d_A_owedInAll_29 : decode b_A_owedInAll 29 = .ok (.iadd, 1) := by decide +kernel
theorem d_A_owedInAll_30 : decode b_A_owedInAll 30 = .ok (.ireturn, 1) := by decide +kernel
theorem d_A_post_0 : decode b_A_post 0 = .ok (.iconst 0, 1) := by decide +kernel
theorem d_A_post_1 : decode b_A_post 1 = .ok (.istore_n 1, 1) := by decide +kernel
theorem d_A_post_2 : decode b_A_post 2 = .ok (.iconst (-1), 1) := by decide +kernel
theorem d_A_post_3 : decode b_A_post 3 = .ok (.istore_n 2, 1) := by decide +kernel
theorem d_A_post_4 : decode b_A_post 4 = .ok (.iload_n 2, 1) := by decide +kernel
theorem d_A_post_5 : decode b_A_post 5 = .ok (.aload_n 0, 1) := by decide +kernel
theorem d_A_post_6 : decode b_A_post 6 = .ok (.getfield 26, 3) := by decide +kernel
theorem d_A_post_9 : decode b_A_post 9 = .ok (.if_icmp .ge 58, 3) := by decide +kernel
theorem d_A_post_12 : decode b_A_post 12 = .ok (.iload_n 2, 1) := by decide +kernel
theorem d_A_post_13 : decode b_A_post 13 = .ok (.iconst 1, 1) := by decide +kernel
theorem d_A_post_14 : decode b_A_post 14 = .ok (.iadd, 1) := by decide +kernel
theorem d_A_post_15 : decode b_A_post 15 = .ok (.istore_n 3, 1) := by decide +kernel
theorem d_A_post_16 : decode b_A_post 16 = .ok (.aload_n 0, 1) := by decide +kernel
theorem d_A_post_17 : decode b_A_post 17 = .ok (.getfield 16, 3) := by decide +kernel
theorem d_A_post_20 : decode b_A_post 20 = .ok (.iload_n 3, 1) := by decide +kernel
theorem d_A_post_21 : decode b_A_post 21 = .ok (.aload_n 0, 1) := by decide +kernel
theorem d_A_post_22 : decode b_A_post 22 = .ok (.iload_n 2, 1) := by decide +kernel
theorem d_A_post_23 : decode b_A_post 23 = .ok (.invokevirtual 36, 3) := by decide +kernel
theorem d_A_post_26 : decode b_A_post 26 = .ok (.aload_n 0, 1) := by decide +kernel
theorem d_A_post_27 : decode b_A_post 27 = .ok (.getfield 23, 3) := by decide +kernel
theorem d_A_post_30 : decode b_A_post 30 = .ok (.iload_n 3, 1) := by decide +kernel
theorem d_A_post_31 : decode b_A_post 31 = .ok (.iaload, 1) := by decide +kernel
theorem d_A_post_32 : decode b_A_post 32 = .ok (.isub, 1) := by decide +kernel
theorem d_A_post_33 : decode b_A_post 33 = .ok (.iastore, 1) := by decide +kernel
theorem d_A_post_34 : decode b_A_post 34 = .ok (.aload_n 0, 1) := by decide +kernel
theorem d_A_post_35 : decode b_A_post 35 = .ok (.getfield 23, 3) := by decide +kernel
theorem d_A_post_38 : decode b_A_post 38 = .ok (.iload_n 3, 1) := by decide +kernel
theorem d_A_post_39 : decode b_A_post 39 = .ok (.dup2, 1) := by decide +kernel
theorem d_A_post_40 : decode b_A_post 40 = .ok (.iaload, 1) := by decide +kernel
theorem d_A_post_41 : decode b_A_post 41 = .ok (.aload_n 0, 1) := by decide +kernel
theorem d_A_post_42 : decode b_A_post 42 = .ok (.getfield 16, 3) := by decide +kernel
theorem d_A_post_45 : decode b_A_post 45 = .ok (.iload_n 3, 1) := by decide +kernel
theorem d_A_post_46 : decode b_A_post 46 = .ok (.iaload, 1) := by decide +kernel
theorem d_A_post_47 : decode b_A_post 47 = .ok (.iadd, 1) := by decide +kernel
theorem d_A_post_48 : decode b_A_post 48 = .ok (.iastore, 1) := by decide +kernel
theorem d_A_post_49 : decode b_A_post 49 = .ok (.aload_n 0, 1) := by decide +kernel
theorem d_A_post_50 : decode b_A_post 50 = .ok (.getfield 16, 3) := by decide +kernel
theorem d_A_post_53 : decode b_A_post 53 = .ok (.iload_n 3, 1) := by decide +kernel
theorem d_A_post_54 : decode b_A_post 54 = .ok (.iaload, 1) := by decide +kernel
theorem d_A_post_55 : decode b_A_post 55 = .ok (.ifCond .eq 6, 3) := by decide +kernel
theorem d_A_post_58 : decode b_A_post 58 = .ok (.iinc 1 1, 3) := by decide +kernel
theorem d_A_post_61 : decode b_A_post 61 = .ok (.iinc 2 1, 3) := by decide +kernel
theorem d_A_post_64 : decode b_A_post 64 = .ok (.goto (-60), 3) := by decide +kernel
theorem d_A_post_67 : decode b_A_post 67 = .ok (.iload_n 1, 1) := by decide +kernel
theorem d_A_post_68 : decode b_A_post 68 = .ok (.ireturn, 1) := by decide +kernel
theorem d_A_startYear_0 : decode b_A_startYear 0 = .ok (.aload_n 0, 1) := by decide +kernel
theorem d_A_startYear_1 : decode b_A_startYear 1 = .ok (.getfield 16, 3) := by decide +kernel
theorem d_A_startYear_4 : decode b_A_startYear 4 = .ok (.iconst 0, 1) := by decide +kernel
theorem d_A_startYear_5 : decode b_A_startYear 5 = .ok (.invokestatic 30, 3) := by decide +kernel
theorem d_A_startYear_8 : decode b_A_startYear 8 = .ok (.aload_n 0, 1) := by decide +kernel
theorem d_A_startYear_9 : decode b_A_startYear 9 = .ok (.getfield 23, 3) := by decide +kernel
theorem d_A_startYear_12 : decode b_A_startYear 12 = .ok (.iconst 0, 1) := by decide +kernel
theorem d_A_startYear_13 : decode b_A_startYear 13 = .ok (.invokestatic 30, 3) := by decide +kernel
theorem d_A_startYear_16 : decode b_A_startYear 16 = .ok (.aload_n 0, 1) := by decide +kernel
theorem d_A_startYear_17 : decode b_A_startYear 17 = .ok (.getfield 20, 3) := by decide +kernel
theorem d_A_startYear_20 : decode b_A_startYear 20 = .ok (.iconst 0, 1) := by decide +kernel
theorem d_A_startYear_21 : decode b_A_startYear 21 = .ok (.invokestatic 30, 3) := by decide +kernel
theorem d_A_startYear_24 : decode b_A_startYear 24 = .ok (.return_, 1) := by decide +kernel
theorem d_F_init_0 : decode b_F_init 0 = .ok (.aload_n 0, 1) := by decide +kernel
theorem d_F_init_1 : decode b_F_init 1 = .ok (.invokespecial 3, 3) := by decide +kernel
theorem d_F_init_4 : decode b_F_init 4 = .ok (.aload_n 0, 1) := by decide +kernel
theorem d_F_init_5 : decode b_F_init 5 = .ok (.iconst 0, 1) := by decide +kernel
theorem d_F_init_6 : decode b_F_init 6 = .ok (.putfield 9, 3) := by decide +kernel
theorem d_F_init_9 : decode b_F_init 9 = .ok (.aload_n 0, 1) := by decide +kernel
theorem d_F_init_10 : decode b_F_init 10 = .ok (.iconst 0, 1) := by decide +kernel
theorem d_F_init_11 : decode b_F_init 11 = .ok (.putfield 15, 3) := by decide +kernel
theorem d_F_init_14 : decode b_F_init 14 = .ok (.aload_n 0, 1) := by decide +kernel
theorem d_F_init_15 : decode b_F_init 15 = .ok (.iconst 1, 1) := by decide +kernel
theorem d_F_init_16 : decode b_F_init 16 = .ok (.putfield 18, 3) := by decide +kernel
theorem d_F_init_19 : decode b_F_init 19 = .ok (.aload_n 0, 1) := by decide +kernel
theorem d_F_init_20 : decode b_F_init 20 = .ok (.iconst (-1), 1) := by decide +kernel
theorem d_F_init_21 : decode b_F_init 21 = .ok (.putfield 21, 3) := by decide +kernel
theorem d_F_init_24 : decode b_F_init 24 = .ok (.aload_n 0, 1) := by decide +kernel
theorem d_F_init_25 : decode b_F_init 25 = .ok (.iconst (-1), 1) := by decide +kernel
theorem d_F_init_26 : decode b_F_init 26 = .ok (.putfield 24, 3) := by decide +kernel
theorem d_F_init_29 : decode b_F_init 29 = .ok (.aload_n 0, 1) := by decide +kernel
theorem d_F_init_30 : decode b_F_init 30 = .ok (.bipush 13, 2) := by decide +kernel
theorem d_F_init_32 : decode b_F_init 32 = .ok (.newarray .int, 2) := by decide +kernel
theorem d_F_init_34 : decode b_F_init 34 = .ok (.putfield 27, 3) := by decide +kernel
theorem d_F_init_37 : decode b_F_init 37 = .ok (.aload_n 0, 1) := by decide +kernel
theorem d_F_init_38 : decode b_F_init 38 = .ok (.bipush 12, 2) := by decide +kernel
theorem d_F_init_40 : decode b_F_init 40 = .ok (.newarray .int, 2) := by decide +kernel
theorem d_F_init_42 : decode b_F_init 42 = .ok (.putfield 31, 3) := by decide +kernel
theorem d_F_init_45 : decode b_F_init 45 = .ok (.aload_n 0, 1) := by decide +kernel
theorem d_F_init_46 : decode b_F_init 46 = .ok (.getfield 27, 3) := by decide +kernel
theorem d_F_init_49 : decode b_F_init 49 = .ok (.iconst (-1), 1) := by decide +kernel
theorem d_F_init_50 : decode b_F_init 50 = .ok (.invokestatic 34, 3) := by decide +kernel
theorem d_F_init_53 : decode b_F_init 53 = .ok (.aload_n 0, 1) := by decide +kernel
theorem d_F_init_54 : decode b_F_init 54 = .ok (.getfield 31, 3) := by decide +kernel
theorem d_F_init_57 : decode b_F_init 57 = .ok (.bipush (-2), 2) := by decide +kernel
theorem d_F_init_59 : decode b_F_init 59 = .ok (.invokestatic 34, 3) := by decide +kernel
theorem d_F_init_62 : decode b_F_init 62 = .ok (.return_, 1) := by decide +kernel
theorem d_F_hasChange_0 : decode b_F_hasChange 0 = .ok (.aload_n 0, 1) := by decide +kernel
theorem d_F_hasChange_1 : decode b_F_hasChange 1 = .ok (.getfield 31, 3) := by decide +kernel
theorem d_F_hasChange_4 : decode b_F_hasChange 4 = .ok (.iload_n 1, 1) := by decide +kernel
theorem d_F_hasChange_5 : decode b_F_hasChange 5 = .ok (.iaload, 1) := by decide +kernel
theorem d_F_hasChange_6 : decode b_F_hasChange 6 = .ok (.bipush (-2), 2) := by decide +kernel
theorem d_F_hasChange_8 : decode b_F_hasChange 8 = .ok (.if_icmp .eq 7, 3) := by decide +kernel
theorem d_F_hasChange_11 : decode b_F_hasChange 11 = .ok (.iconst 1, 1) := by decide +kernel
theorem d_F_hasChange_12 : decode b_F_hasChange 12 = .ok (.goto 4, 3) := by decide +kernel
theorem d_F_hasChange_15 : decode b_F_hasChange 15 = .ok (.iconst 0, 1) := by decide +kernel
theorem d_F_hasChange_16 : decode b_F_hasChange 16 = .ok (.ireturn, 1) := by decide +kernel
theorem d_F_isMeterRead_0 : decode b_F_isMeterRead 0 = .ok (.aload_n 0, 1) := by decide +kernel
theorem d_F_isMeterRead_1 : decode b_F_isMeterRead 1 = .ok (.getfield 27, 3) := by decide +kernel
theorem d_F_isMeterRead_4 : decode b_F_isMeterRead 4 = .ok (.iconst 0, 1) := by decide +kernel
theorem d_F_isMeterRead_5 : decode b_F_isMeterRead 5 = .ok (.iaload, 1) := by decide +kernel
theorem d_F_isMeterRead_6 : decode b_F_isMeterRead 6 = .ok (.iconst (-1), 1) := by decide +kernel
theorem d_F_isMeterRead_7 : decode b_F_isMeterRead 7 = .ok (.if_icmp .eq 14, 3) := by decide +kernel
theorem d_F_isMeterRead_10 : decode b_F_isMeterRead 10 = .ok (.aload_n 0, 1) := by decide +kernel
theorem d_F_isMeterRead_11 : decode b_F_isMeterRead 11 = .ok (.getfield 27, 3) := by decide +kernel
theorem d_F_isMeterRead_14 : decode b_F_isMeterRead 14 = .ok (.bipush 12, 2) := by decide +kernel
theorem d_F_isMeterRead_16 : decode b_F_isMeterRead 16 = .ok (.iaload, 1) := by decide +kernel
theorem d_F_isMeterRead_17 : decode b_F_isMeterRead 17 = .ok (.iconst (-1), 1) := by decide +kernel
theorem d_F_isMeterRead_18 : decode b_F_isMeterRead 18 = .ok (.if_icmp .ne 5, 3) := by decide +kernel
theorem d_F_isMeterRead_21 : decode b_F_isMeterRead 21 = .ok (.iconst 0, 1) := by decide +kernel
theorem d_F_isMeterRead_22 : decode b_F_isMeterRead 22 = .ok (.ireturn, 1) := by decide +kernel
theorem d_F_isMeterRead_23 : decode b_F_isMeterRead 23 = .ok (.aload_n 0, 1) := by decide +kernel
theorem d_F_isMeterRead_24 : decode b_F_isMeterRead 24 = .ok (.getfield 27, 3) := by decide +kernel
theorem d_F_isMeterRead_27 : decode b_F_isMeterRead 27 = .ok (.iconst 0, 1) := by decide +kernel
theorem d_F_isMeterRead_28 : decode b_F_isMeterRead 28 = .ok (.iaload, 1) := by decide +kernel
theorem d_F_isMeterRead_29 : decode b_F_isMeterRead 29 = .ok (.istore_n 1, 1) := by decide +kernel
theorem d_F_isMeterRead_30 : decode b_F_isMeterRead 30 = .ok (.iconst 1, 1) := by decide +kernel
theorem d_F_isMeterRead_31 : decode b_F_isMeterRead 31 = .ok (.istore_n 2, 1) := by decide +kernel
theorem d_F_isMeterRead_32 : decode b_F_isMeterRead 32 = .ok (.iload_n 2, 1) := by decide +kernel
theorem d_F_isMeterRead_33 : decode b_F_isMeterRead 33 = .ok (.bipush 12, 2) := by decide +kernel
theorem d_F_isMeterRead_35 : decode b_F_isMeterRead 35 = .ok (.if_icmp .gt 38, 3) := by decide +kernel
theorem d_F_isMeterRead_38 : decode b_F_isMeterRead 38 = .ok (.aload_n 0, 1) := by decide +kernel
theorem d_F_isMeterRead_39 : decode b_F_isMeterRead 39 = .ok (.getfield 27, 3) := by decide +kernel
theorem d_F_isMeterRead_42 : decode b_F_isMeterRead 42 = .ok (.iload_n 2, 1) := by decide +kernel
theorem d_F_isMeterRead_43 : decode b_F_isMeterRead 43 = .ok (.iaload, 1) := by decide +kernel
theorem d_F_isMeterRead_44 : decode b_F_isMeterRead 44 = .ok (.iconst (-1), 1) := by decide +kernel
theorem d_F_isMeterRead_45 : decode b_F_isMeterRead 45 = .ok (.if_icmp .eq 22, 3) := by decide +kernel
theorem d_F_isMeterRead_48 : decode b_F_isMeterRead 48 = .ok (.aload_n 0, 1) := by decide +kernel
theorem d_F_isMeterRead_49 : decode b_F_isMeterRead 49 = .ok (.getfield 27, 3) := by decide +kernel
theorem d_F_isMeterRead_52 : decode b_F_isMeterRead 52 = .ok (.iload_n 2, 1) := by decide +kernel
theorem d_F_isMeterRead_53 : decode b_F_isMeterRead 53 = .ok (.iaload, 1) := by decide +kernel
theorem d_F_isMeterRead_54 : decode b_F_isMeterRead 54 = .ok (.iload_n 1, 1) := by decide +kernel
theorem d_F_isMeterRead_55 : decode b_F_isMeterRead 55 = .ok (.if_icmp .ge 5, 3) := by decide +kernel
theorem d_F_isMeterRead_58 : decode b_F_isMeterRead 58 = .ok (.iconst 0, 1) := by decide +kernel
theorem d_F_isMeterRead_59 : decode b_F_isMeterRead 59 = .ok (.ireturn, 1) := by decide +kernel
theorem d_F_isMeterRead_60 : decode b_F_isMeterRead 60 = .ok (.aload_n 0, 1) := by decide +kernel
theorem d_F_isMeterRead_61 : decode b_F_isMeterRead 61 = .ok (.getfield 27, 3) := by decide +kernel
theorem d_F_isMeterRead_64 : decode b_F_isMeterRead 64 = .ok (.iload_n 2, 1) := by decide +kernel
theorem d_F_isMeterRead_65 : decode b_F_isMeterRead 65 = .ok (.iaload, 1) := by decide +kernel
theorem d_F_isMeterRead_66 : decode b_F_isMeterRead 66 = .ok (.istore_n 1, 1) := by decide +kernel
theorem d_F_isMeterRead_67 : decode b_F_isMeterRead 67 = .ok (.iinc 2 1, 3) := by decide +kernel
theorem d_F_isMeterRead_70 : decode b_F_isMeterRead 70 = .ok (.goto (-38), 3) := by decide +kernel
theorem d_F_isMeterRead_73 : decode b_F_isMeterRead 73 = .ok (.iconst 1, 1) := by decide +kernel
theorem d_F_isMeterRead_74 : decode b_F_isMeterRead 74 = .ok (.ireturn, 1) := by decide +kernel
theorem d_F_unitsBetween_0 : decode b_F_unitsBetween 0 = .ok (.aload_n 0, 1) := by decide +kernel
theorem d_F_unitsBetween_1 : decode b_F_unitsBetween 1 = .ok (.getfield 27, 3) := by decide +kernel
theorem d_F_unitsBetween_4 : decode b_F_unitsBetween 4 = .ok (.iload_n 2, 1) := by decide +kernel
theorem d_F_unitsBetween_5 : decode b_F_unitsBetween 5 = .ok (.iaload, 1) := by decide +kernel
theorem d_F_unitsBetween_6 : decode b_F_unitsBetween 6 = .ok (.aload_n 0, 1) := by decide +kernel
theorem d_F_unitsBetween_7 : decode b_F_unitsBetween 7 = .ok (.getfield 27, 3) := by decide +kernel
theorem d_F_unitsBetween_10 : decode b_F_unitsBetween 10 = .ok (.iload_n 1, 1) := by decide +kernel
theorem d_F_unitsBetween_11 : decode b_F_unitsBetween 11 = .ok (.iaload, 1) := by decide +kernel
theorem d_F_unitsBetween_12 : decode b_F_unitsBetween 12 = .ok (.isub, 1) := by decide +kernel
theorem d_F_unitsBetween_13 : decode b_F_unitsBetween 13 = .ok (.aload_n 0, 1) := by decide +kernel
theorem d_F_unitsBetween_14 : decode b_F_unitsBetween 14 = .ok (.getfield 18, 3) := by decide +kernel
theorem d_F_unitsBetween_17 : decode b_F_unitsBetween 17 = .ok (.imul, 1) := by decide +kernel
theorem d_F_unitsBetween_18 : decode b_F_unitsBetween 18 = .ok (.ireturn, 1) := by decide +kernel
theorem d_F_unitsOfYear_0 : decode b_F_unitsOfYear 0 = .ok (.aload_n 0, 1) := by decide +kernel
theorem d_F_unitsOfYear_1 : decode b_F_unitsOfYear 1 = .ok (.iconst 0, 1) := by decide +kernel
theorem d_F_unitsOfYear_2 : decode b_F_unitsOfYear 2 = .ok (.bipush 12, 2) := by decide +kernel
theorem d_F_unitsOfYear_4 : decode b_F_unitsOfYear 4 = .ok (.invokevirtual 40, 3) := by decide +kernel
theorem d_F_unitsOfYear_7 : decode b_F_unitsOfYear 7 = .ok (.ireturn, 1) := by decide +kernel
theorem d_F_holderAtEnd_0 : decode b_F_holderAtEnd 0 = .ok (.aload_n 0, 1) := by decide +kernel
theorem d_F_holderAtEnd_1 : decode b_F_holderAtEnd 1 = .ok (.getfield 21, 3) := by decide +kernel
theorem d_F_holderAtEnd_4 : decode b_F_holderAtEnd 4 = .ok (.istore_n 1, 1) := by decide +kernel
theorem d_F_holderAtEnd_5 : decode b_F_holderAtEnd 5 = .ok (.iconst 0, 1) := by decide +kernel
theorem d_F_holderAtEnd_6 : decode b_F_holderAtEnd 6 = .ok (.istore_n 2, 1) := by decide +kernel
theorem d_F_holderAtEnd_7 : decode b_F_holderAtEnd 7 = .ok (.iload_n 2, 1) := by decide +kernel
theorem d_F_holderAtEnd_8 : decode b_F_holderAtEnd 8 = .ok (.bipush 12, 2) := by decide +kernel
theorem d_F_holderAtEnd_10 : decode b_F_holderAtEnd 10 = .ok (.if_icmp .ge 24, 3) := by decide +kernel
theorem d_F_holderAtEnd_13 : decode b_F_holderAtEnd 13 = .ok (.aload_n 0, 1) := by decide +kernel
theorem d_F_holderAtEnd_14 : decode b_F_holderAtEnd 14 = .ok (.iload_n 2, 1) := by decide +kernel
theorem d_F_holderAtEnd_15 : decode b_F_holderAtEnd 15 = .ok (.invokevirtual 44, 3) := by decide +kernel
theorem d_F_holderAtEnd_18 : decode b_F_holderAtEnd 18 = .ok (.ifCond .eq 10, 3) := by decide +kernel
theorem d_F_holderAtEnd_21 : decode b_F_holderAtEnd 21 = .ok (.aload_n 0, 1) := by decide +kernel
theorem d_F_holderAtEnd_22 : decode b_F_holderAtEnd 22 = .ok (.getfield 31, 3) := by decide +kernel
theorem d_F_holderAtEnd_25 : decode b_F_holderAtEnd 25 = .ok (.iload_n 2, 1) := by decide +kernel
theorem d_F_holderAtEnd_26 : decode b_F_holderAtEnd 26 = .ok (.iaload, 1) := by decide +kernel
theorem d_F_holderAtEnd_27 : decode b_F_holderAtEnd 27 = .ok (.istore_n 1, 1) := by decide +kernel
theorem d_F_holderAtEnd_28 : decode b_F_holderAtEnd 28 = .ok (.iinc 2 1, 3) := by decide +kernel
theorem d_F_holderAtEnd_31 : decode b_F_holderAtEnd 31 = .ok (.goto (-24), 3) := by decide +kernel
theorem d_F_holderAtEnd_34 : decode b_F_holderAtEnd 34 = .ok (.iload_n 1, 1) := by decide +kernel
theorem d_F_holderAtEnd_35 : decode b_F_holderAtEnd 35 = .ok (.ireturn, 1) := by decide +kernel
theorem d_F_startYear_0 : decode b_F_startYear 0 = .ok (.aload_n 0, 1) := by decide +kernel
theorem d_F_startYear_1 : decode b_F_startYear 1 = .ok (.aload_n 0, 1) := by decide +kernel
theorem d_F_startYear_2 : decode b_F_startYear 2 = .ok (.invokevirtual 48, 3) := by decide +kernel
theorem d_F_startYear_5 : decode b_F_startYear 5 = .ok (.putfield 21, 3) := by decide +kernel
theorem d_F_startYear_8 : decode b_F_startYear 8 = .ok (.aload_n 0, 1) := by decide +kernel
theorem d_F_startYear_9 : decode b_F_startYear 9 = .ok (.iload_n 1, 1) := by decide +kernel
theorem d_F_startYear_10 : decode b_F_startYear 10 = .ok (.putfield 24, 3) := by decide +kernel
theorem d_F_startYear_13 : decode b_F_startYear 13 = .ok (.aload_n 0, 1) := by decide +kernel
theorem d_F_startYear_14 : decode b_F_startYear 14 = .ok (.getfield 27, 3) := by decide +kernel
theorem d_F_startYear_17 : decode b_F_startYear 17 = .ok (.bipush 12, 2) := by decide +kernel
theorem d_F_startYear_19 : decode b_F_startYear 19 = .ok (.iaload, 1) := by decide +kernel
theorem d_F_startYear_20 : decode b_F_startYear 20 = .ok (.istore_n 2, 1) := by decide +kernel
theorem d_F_startYear_21 : decode b_F_startYear 21 = .ok (.aload_n 0, 1) := by decide +kernel
theorem d_F_startYear_22 : decode b_F_startYear 22 = .ok (.getfield 27, 3) := by decide +kernel
theorem d_F_startYear_25 : decode b_F_startYear 25 = .ok (.iconst (-1), 1) := by decide +kernel
theorem d_F_startYear_26 : decode b_F_startYear 26 = .ok (.invokestatic 34, 3) := by decide +kernel
theorem d_F_startYear_29 : decode b_F_startYear 29 = .ok (.aload_n 0, 1) := by decide +kernel
theorem d_F_startYear_30 : decode b_F_startYear 30 = .ok (.getfield 27, 3) := by decide +kernel
theorem d_F_startYear_33 : decode b_F_startYear 33 = .ok (.iconst 0, 1) := by decide +kernel
theorem d_F_startYear_34 : decode b_F_startYear 34 = .ok (.iload_n 2, 1) := by decide +kernel
theorem d_F_startYear_35 : decode b_F_startYear 35 = .ok (.iastore, 1) := by decide +kernel
theorem d_F_startYear_36 : decode b_F_startYear 36 = .ok (.aload_n 0, 1) := by decide +kernel
theorem d_F_startYear_37 : decode b_F_startYear 37 = .ok (.getfield 31, 3) := by decide +kernel
theorem d_F_startYear_40 : decode b_F_startYear 40 = .ok (.bipush (-2), 2) := by decide +kernel
theorem d_F_startYear_42 : decode b_F_startYear 42 = .ok (.invokestatic 34, 3) := by decide +kernel
theorem d_F_startYear_45 : decode b_F_startYear 45 = .ok (.return_, 1) := by decide +kernel
theorem d_U_init_0 : decode b_U_init 0 = .ok (.aload_n 0, 1) := by decide +kernel
theorem d_U_init_1 : decode b_U_init 1 = .ok (.invokespecial 3, 3) := by decide +kernel
theorem d_U_init_4 : decode b_U_init 4 = .ok (.aload_n 0, 1) := by decide +kernel
theorem d_U_init_5 : decode b_U_init 5 = .ok (.bipush 12, 2) := by decide +kernel
theorem d_U_init_7 : decode b_U_init 7 = .ok (.newarray .int, 2) := by decide +kernel
theorem d_U_init_9 : decode b_U_init 9 = .ok (.putfield 9, 3) := by decide +kernel
theorem d_U_init_12 : decode b_U_init 12 = .ok (.aload_n 0, 1) := by decide +kernel
theorem d_U_init_13 : decode b_U_init 13 = .ok (.bipush 12, 2) := by decide +kernel
theorem d_U_init_15 : decode b_U_init 15 = .ok (.newarray .int, 2) := by decide +kernel
theorem d_U_init_17 : decode b_U_init 17 = .ok (.putfield 15, 3) := by decide +kernel
theorem d_U_init_20 : decode b_U_init 20 = .ok (.aload_n 0, 1) := by decide +kernel
theorem d_U_init_21 : decode b_U_init 21 = .ok (.iconst 0, 1) := by decide +kernel
theorem d_U_init_22 : decode b_U_init 22 = .ok (.putfield 18, 3) := by decide +kernel
theorem d_U_init_25 : decode b_U_init 25 = .ok (.aload_n 0, 1) := by decide +kernel
theorem d_U_init_26 : decode b_U_init 26 = .ok (.iconst (-1), 1) := by decide +kernel
theorem d_U_init_27 : decode b_U_init 27 = .ok (.putfield 22, 3) := by decide +kernel
theorem d_U_init_30 : decode b_U_init 30 = .ok (.return_, 1) := by decide +kernel
theorem d_U_addLayer_0 : decode b_U_addLayer 0 = .ok (.aload_n 0, 1) := by decide +kernel
theorem d_U_addLayer_1 : decode b_U_addLayer 1 = .ok (.getfield 9, 3) := by decide +kernel
theorem d_U_addLayer_4 : decode b_U_addLayer 4 = .ok (.aload_n 0, 1) := by decide +kernel
theorem d_U_addLayer_5 : decode b_U_addLayer 5 = .ok (.getfield 18, 3) := by decide +kernel
theorem d_U_addLayer_8 : decode b_U_addLayer 8 = .ok (.iload_n 1, 1) := by decide +kernel
theorem d_U_addLayer_9 : decode b_U_addLayer 9 = .ok (.iastore, 1) := by decide +kernel
theorem d_U_addLayer_10 : decode b_U_addLayer 10 = .ok (.aload_n 0, 1) := by decide +kernel
theorem d_U_addLayer_11 : decode b_U_addLayer 11 = .ok (.getfield 15, 3) := by decide +kernel
theorem d_U_addLayer_14 : decode b_U_addLayer 14 = .ok (.aload_n 0, 1) := by decide +kernel
theorem d_U_addLayer_15 : decode b_U_addLayer 15 = .ok (.getfield 18, 3) := by decide +kernel
theorem d_U_addLayer_18 : decode b_U_addLayer 18 = .ok (.iload_n 2, 1) := by decide +kernel
theorem d_U_addLayer_19 : decode b_U_addLayer 19 = .ok (.iastore, 1) := by decide +kernel
theorem d_U_addLayer_20 : decode b_U_addLayer 20 = .ok (.aload_n 0, 1) := by decide +kernel
theorem d_U_addLayer_21 : decode b_U_addLayer 21 = .ok (.dup, 1) := by decide +kernel
theorem d_U_addLayer_22 : decode b_U_addLayer 22 = .ok (.getfield 18, 3) := by decide +kernel
theorem d_U_addLayer_25 : decode b_U_addLayer 25 = .ok (.iconst 1, 1) := by decide +kernel
theorem d_U_addLayer_26 : decode b_U_addLayer 26 = .ok (.iadd, 1) := by decide +kernel
theorem d_U_addLayer_27 : decode b_U_addLayer 27 = .ok (.putfield 18, 3) := by decide +kernel
theorem d_U_addLayer_30 : decode b_U_addLayer 30 = .ok (.return_, 1) := by decide +kernel
theorem d_U_allUnits_0 : decode b_U_allUnits 0 = .ok (.iconst 0, 1) := by decide +kernel
theorem d_U_allUnits_1 : decode b_U_allUnits 1 = .ok (.istore_n 1, 1) := by decide +kernel
theorem d_U_allUnits_2 : decode b_U_allUnits 2 = .ok (.iconst 0, 1) := by decide +kernel
theorem d_U_allUnits_3 : decode b_U_allUnits 3 = .ok (.istore_n 2, 1) := by decide +kernel
theorem d_U_allUnits_4 : decode b_U_allUnits 4 = .ok (.iload_n 2, 1) := by decide +kernel
theorem d_U_allUnits_5 : decode b_U_allUnits 5 = .ok (.aload_n 0, 1) := by decide +kernel
theorem d_U_allUnits_6 : decode b_U_allUnits 6 = .ok (.getfield 18, 3) := by decide +kernel
theorem d_U_allUnits_9 : decode b_U_allUnits 9 = .ok (.if_icmp .ge 18, 3) := by decide +kernel
theorem d_U_allUnits_12 : decode b_U_allUnits 12 = .ok (.iload_n 1, 1) := by decide +kernel
theorem d_U_allUnits_13 : decode b_U_allUnits 13 = .ok (.aload_n 0, 1) := by decide +kernel
theorem d_U_allUnits_14 : decode b_U_allUnits 14 = .ok (.getfield 9, 3) := by decide +kernel
theorem d_U_allUnits_17 : decode b_U_allUnits 17 = .ok (.iload_n 2, 1) := by decide +kernel
theorem d_U_allUnits_18 : decode b_U_allUnits 18 = .ok (.iaload, 1) := by decide +kernel
theorem d_U_allUnits_19 : decode b_U_allUnits 19 = .ok (.iadd, 1) := by decide +kernel
theorem d_U_allUnits_20 : decode b_U_allUnits 20 = .ok (.istore_n 1, 1) := by decide +kernel
theorem d_U_allUnits_21 : decode b_U_allUnits 21 = .ok (.iinc 2 1, 3) := by decide +kernel
theorem d_U_allUnits_24 : decode b_U_allUnits 24 = .ok (.goto (-20), 3) := by decide +kernel
theorem d_U_allUnits_27 : decode b_U_allUnits 27 = .ok (.iload_n 1, 1) := by decide +kernel
theorem d_U_allUnits_28 : decode b_U_allUnits 28 = .ok (.ireturn, 1) := by decide +kernel
theorem d_U_isBurned_0 : decode b_U_isBurned 0 = .ok (.aload_n 0, 1) := by decide +kernel
theorem d_U_isBurned_1 : decode b_U_isBurned 1 = .ok (.getfield 22, 3) := by decide +kernel
theorem d_U_isBurned_4 : decode b_U_isBurned 4 = .ok (.iconst (-1), 1) := by decide +kernel
theorem d_U_isBurned_5 : decode b_U_isBurned 5 = .ok (.if_icmp .eq 14, 3) := by decide +kernel
theorem d_U_isBurned_8 : decode b_U_isBurned 8 = .ok (.aload_n 0, 1) := by decide +kernel
theorem d_U_isBurned_9 : decode b_U_isBurned 9 = .ok (.invokevirtual 25, 3) := by decide +kernel
theorem d_U_isBurned_12 : decode b_U_isBurned 12 = .ok (.ifCond .le 7, 3) := by decide +kernel
theorem d_U_isBurned_15 : decode b_U_isBurned 15 = .ok (.iconst 1, 1) := by decide +kernel
theorem d_U_isBurned_16 : decode b_U_isBurned 16 = .ok (.goto 4, 3) := by decide +kernel
theorem d_U_isBurned_19 : decode b_U_isBurned 19 = .ok (.iconst 0, 1) := by decide +kernel
theorem d_U_isBurned_20 : decode b_U_isBurned 20 = .ok (.ireturn, 1) := by decide +kernel
theorem d_U_burnedUnits_0 : decode b_U_burnedUnits 0 = .ok (.aload_n 0, 1) := by decide +kernel
theorem d_U_burnedUnits_1 : decode b_U_burnedUnits 1 = .ok (.invokevirtual 29, 3) := by decide +kernel
theorem d_U_burnedUnits_4 : decode b_U_burnedUnits 4 = .ok (.aload_n 0, 1) := by decide +kernel
theorem d_U_burnedUnits_5 : decode b_U_burnedUnits 5 = .ok (.getfield 22, 3) := by decide +kernel
theorem d_U_burnedUnits_8 : decode b_U_burnedUnits 8 = .ok (.isub, 1) := by decide +kernel
theorem d_U_burnedUnits_9 : decode b_U_burnedUnits 9 = .ok (.ireturn, 1) := by decide +kernel
theorem d_U_burnedCents_0 : decode b_U_burnedCents 0 = .ok (.iconst 0, 1) := by decide +kernel
theorem d_U_burnedCents_1 : decode b_U_burnedCents 1 = .ok (.istore_n 1, 1) := by decide +kernel
theorem d_U_burnedCents_2 : decode b_U_burnedCents 2 = .ok (.iconst 0, 1) := by decide +kernel
theorem d_U_burnedCents_3 : decode b_U_burnedCents 3 = .ok (.istore_n 2, 1) := by decide +kernel
theorem d_U_burnedCents_4 : decode b_U_burnedCents 4 = .ok (.iload_n 2, 1) := by decide +kernel
theorem d_U_burnedCents_5 : decode b_U_burnedCents 5 = .ok (.aload_n 0, 1) := by decide +kernel
theorem d_U_burnedCents_6 : decode b_U_burnedCents 6 = .ok (.getfield 18, 3) := by decide +kernel
theorem d_U_burnedCents_9 : decode b_U_burnedCents 9 = .ok (.if_icmp .ge 24, 3) := by decide +kernel
theorem d_U_burnedCents_12 : decode b_U_burnedCents 12 = .ok (.iload_n 1, 1) := by decide +kernel
theorem d_U_burnedCents_13 : decode b_U_burnedCents 13 = .ok (.aload_n 0, 1) := by decide +kernel
theorem d_U_burnedCents_14 : decode b_U_burnedCents 14 = .ok (.getfield 15, 3) := by decide +kernel
theorem d_U_burnedCents_17 : decode b_U_burnedCents 17 = .ok (.iload_n 2, 1) := by decide +kernel
theorem d_U_burnedCents_18 : decode b_U_burnedCents 18 = .ok (.iaload, 1) := by decide +kernel
theorem d_U_burnedCents_19 : decode b_U_burnedCents 19 = .ok (.aload_n 0, 1) := by decide +kernel
theorem d_U_burnedCents_20 : decode b_U_burnedCents 20 = .ok (.iload_n 2, 1) := by decide +kernel
theorem d_U_burnedCents_21 : decode b_U_burnedCents 21 = .ok (.invokevirtual 32, 3) := by decide +kernel
theorem d_U_burnedCents_24 : decode b_U_burnedCents 24 = .ok (.isub, 1) := by decide +kernel
theorem d_U_burnedCents_25 : decode b_U_burnedCents 25 = .ok (.iadd, 1) := by decide +kernel
theorem d_U_burnedCents_26 : decode b_U_burnedCents 26 = .ok (.istore_n 1, 1) := by decide +kernel
theorem d_U_burnedCents_27 : decode b_U_burnedCents 27 = .ok (.iinc 2 1, 3) := by decide +kernel
theorem d_U_burnedCents_30 : decode b_U_burnedCents 30 = .ok (.goto (-26), 3) := by decide +kernel
theorem d_U_burnedCents_33 : decode b_U_burnedCents 33 = .ok (.iload_n 1, 1) := by decide +kernel
theorem d_U_burnedCents_34 : decode b_U_burnedCents 34 = .ok (.ireturn, 1) := by decide +kernel
theorem d_U_stockUnits_0 : decode b_U_stockUnits 0 = .ok (.aload_n 0, 1) := by decide +kernel
theorem d_U_stockUnits_1 : decode b_U_stockUnits 1 = .ok (.getfield 22, 3) := by decide +kernel
theorem d_U_stockUnits_4 : decode b_U_stockUnits 4 = .ok (.istore_n 2, 1) := by decide +kernel
theorem d_U_stockUnits_5 : decode b_U_stockUnits 5 = .ok (.aload_n 0, 1) := by decide +kernel
theorem d_U_stockUnits_6 : decode b_U_stockUnits 6 = .ok (.getfield 18, 3) := by decide +kernel
theorem d_U_stockUnits_9 : decode b_U_stockUnits 9 = .ok (.iconst 1, 1) := by decide +kernel
theorem d_U_stockUnits_10 : decode b_U_stockUnits 10 = .ok (.isub, 1) := by decide +kernel
theorem d_U_stockUnits_11 : decode b_U_stockUnits 11 = .ok (.istore_n 3, 1) := by decide +kernel
theorem d_U_stockUnits_12 : decode b_U_stockUnits 12 = .ok (.iload_n 3, 1) := by decide +kernel
theorem d_U_stockUnits_13 : decode b_U_stockUnits 13 = .ok (.iload_n 1, 1) := by decide +kernel
theorem d_U_stockUnits_14 : decode b_U_stockUnits 14 = .ok (.if_icmp .le 18, 3) := by decide +kernel
theorem d_U_stockUnits_17 : decode b_U_stockUnits 17 = .ok (.iload_n 2, 1) := by decide +kernel
theorem d_U_stockUnits_18 : decode b_U_stockUnits 18 = .ok (.aload_n 0, 1) := by decide +kernel
theorem d_U_stockUnits_19 : decode b_U_stockUnits 19 = .ok (.getfield 9, 3) := by decide +kernel
theorem d_U_stockUnits_22 : decode b_U_stockUnits 22 = .ok (.iload_n 3, 1) := by decide +kernel
theorem d_U_stockUnits_23 : decode b_U_stockUnits 23 = .ok (.iaload, 1) := by decide +kernel
theorem d_U_stockUnits_24 : decode b_U_stockUnits 24 = .ok (.isub, 1) := by decide +kernel
theorem d_U_stockUnits_25 : decode b_U_stockUnits 25 = .ok (.istore_n 2, 1) := by decide +kernel
theorem d_U_stockUnits_26 : decode b_U_stockUnits 26 = .ok (.iinc 3 (-1), 3) := by decide +kernel
theorem d_U_stockUnits_29 : decode b_U_stockUnits 29 = .ok (.goto (-17), 3) := by decide +kernel
theorem d_U_stockUnits_32 : decode b_U_stockUnits 32 = .ok (.iconst 0, 1) := by decide +kernel
theorem d_U_stockUnits_33 : decode b_U_stockUnits 33 = .ok (.aload_n 0, 1) := by decide +kernel
theorem d_U_stockUnits_34 : decode b_U_stockUnits 34 = .ok (.getfield 9, 3) := by decide +kernel
theorem d_U_stockUnits_37 : decode b_U_stockUnits 37 = .ok (.iload_n 1, 1) := by decide +kernel
theorem d_U_stockUnits_38 : decode b_U_stockUnits 38 = .ok (.iaload, 1) := by decide +kernel
theorem d_U_stockUnits_39 : decode b_U_stockUnits 39 = .ok (.iload_n 2, 1) := by decide +kernel
theorem d_U_stockUnits_40 : decode b_U_stockUnits 40 = .ok (.invokestatic 36, 3) := by decide +kernel
theorem d_U_stockUnits_43 : decode b_U_stockUnits 43 = .ok (.invokestatic 42, 3) := by decide +kernel
theorem d_U_stockUnits_46 : decode b_U_stockUnits 46 = .ok (.ireturn, 1) := by decide +kernel
theorem d_U_stockCents_0 : decode b_U_stockCents 0 = .ok (.aload_n 0, 1) := by decide +kernel
theorem d_U_stockCents_1 : decode b_U_stockCents 1 = .ok (.iload_n 1, 1) := by decide +kernel
theorem d_U_stockCents_2 : decode b_U_stockCents 2 = .ok (.invokevirtual 45, 3) := by decide +kernel
theorem d_U_stockCents_5 : decode b_U_stockCents 5 = .ok (.istore_n 2, 1) := by decide +kernel
theorem d_U_stockCents_6 : decode b_U_stockCents 6 = .ok (.iload_n 2, 1) := by decide +kernel
theorem d_U_stockCents_7 : decode b_U_stockCents 7 = .ok (.ifCond .gt 5, 3) := by decide +kernel
theorem d_U_stockCents_10 : decode b_U_stockCents 10 = .ok (.iconst 0, 1) := by decide +kernel
theorem d_U_stockCents_11 : decode b_U_stockCents 11 = .ok (.ireturn, 1) := by decide +kernel
theorem d_U_stockCents_12 : decode b_U_stockCents 12 = .ok (.iload_n 2, 1) := by decide +kernel
theorem d_U_stockCents_13 : decode b_U_stockCents 13 = .ok (.aload_n 0, 1) := by decide +kernel
theorem d_U_stockCents_14 : decode b_U_stockCents 14 = .ok (.getfield 9, 3) := by decide +kernel
theorem d_U_stockCents_17 : decode b_U_stockCents 17 = .ok (.iload_n 1, 1) := by decide +kernel
theorem d_U_stockCents_18 : decode b_U_stockCents 18 = .ok (.iaload, 1) := by decide +kernel
theorem d_U_stockCents_19 : decode b_U_stockCents 19 = .ok (.if_icmp .lt 10, 3) := by decide +kernel
theorem d_U_stockCents_22 : decode b_U_stockCents 22 = .ok (.aload_n 0, 1) := by decide +kernel
theorem d_U_stockCents_23 : decode b_U_stockCents 23 = .ok (.getfield 15, 3) := by decide +kernel
theorem d_U_stockCents_26 : decode b_U_stockCents 26 = .ok (.iload_n 1, 1) := by decide +kernel
theorem d_U_stockCents_27 : decode b_U_stockCents 27 = .ok (.iaload, 1) := by decide +kernel
theorem d_U_stockCents_28 : decode b_U_stockCents 28 = .ok (.ireturn, 1) := by decide +kernel
theorem d_U_stockCents_29 : decode b_U_stockCents 29 = .ok (.aload_n 0, 1) := by decide +kernel
theorem d_U_stockCents_30 : decode b_U_stockCents 30 = .ok (.getfield 15, 3) := by decide +kernel
theorem d_U_stockCents_33 : decode b_U_stockCents 33 = .ok (.iload_n 1, 1) := by decide +kernel
theorem d_U_stockCents_34 : decode b_U_stockCents 34 = .ok (.iaload, 1) := by decide +kernel
theorem d_U_stockCents_35 : decode b_U_stockCents 35 = .ok (.iload_n 2, 1) := by decide +kernel
theorem d_U_stockCents_36 : decode b_U_stockCents 36 = .ok (.imul, 1) := by decide +kernel
theorem d_U_stockCents_37 : decode b_U_stockCents 37 = .ok (.aload_n 0, 1) := by decide +kernel
theorem d_U_stockCents_38 : decode b_U_stockCents 38 = .ok (.getfield 9, 3) := by decide +kernel
theorem d_U_stockCents_41 : decode b_U_stockCents 41 = .ok (.iload_n 1, 1) := by decide +kernel
theorem d_U_stockCents_42 : decode b_U_stockCents 42 = .ok (.iaload, 1) := by decide +kernel
theorem d_U_stockCents_43 : decode b_U_stockCents 43 = .ok (.idiv, 1) := by decide +kernel
theorem d_U_stockCents_44 : decode b_U_stockCents 44 = .ok (.ireturn, 1) := by decide +kernel
theorem d_U_keepStock_0 : decode b_U_keepStock 0 = .ok (.iconst 0, 1) := by decide +kernel
theorem d_U_keepStock_1 : decode b_U_keepStock 1 = .ok (.istore_n 1, 1) := by decide +kernel
theorem d_U_keepStock_2 : decode b_U_keepStock 2 = .ok (.iconst 0, 1) := by decide +kernel
theorem d_U_keepStock_3 : decode b_U_keepStock 3 = .ok (.istore_n 2, 1) := by decide +kernel
theorem d_U_keepStock_4 : decode b_U_keepStock 4 = .ok (.iload_n 2, 1) := by decide +kernel
theorem d_U_keepStock_5 : decode b_U_keepStock 5 = .ok (.aload_n 0, 1) := by decide +kernel
theorem d_U_keepStock_6 : decode b_U_keepStock 6 = .ok (.getfield 18, 3) := by decide +kernel
theorem d_U_keepStock_9 : decode b_U_keepStock 9 = .ok (.if_icmp .ge 40, 3) := by decide +kernel
theorem d_U_keepStock_12 : decode b_U_keepStock 12 = .ok (.aload_n 0, 1) := by decide +kernel
theorem d_U_keepStock_13 : decode b_U_keepStock 13 = .ok (.iload_n 2, 1) := by decide +kernel
theorem d_U_keepStock_14 : decode b_U_keepStock 14 = .ok (.invokevirtual 45, 3) := by decide +kernel
theorem d_U_keepStock_17 : decode b_U_keepStock 17 = .ok (.istore_n 3, 1) := by decide +kernel
theorem d_U_keepStock_18 : decode b_U_keepStock 18 = .ok (.iload_n 3, 1) := by decide +kernel
theorem d_U_keepStock_19 : decode b_U_keepStock 19 = .ok (.ifCond .le 24, 3) := by decide +kernel
theorem d_U_keepStock_22 : decode b_U_keepStock 22 = .ok (.aload_n 0, 1) := by decide +kernel
theorem d_U_keepStock_23 : decode b_U_keepStock 23 = .ok (.getfield 15, 3) := by decide +kernel
theorem d_U_keepStock_26 : decode b_U_keepStock 26 = .ok (.iload_n 1, 1) := by decide +kernel
theorem d_U_keepStock_27 : decode b_U_keepStock 27 = .ok (.aload_n 0, 1) := by decide +kernel
theorem d_U_keepStock_28 : decode b_U_keepStock 28 = .ok (.iload_n 2, 1) := by decide +kernel
theorem d_U_keepStock_29 : decode b_U_keepStock 29 = .ok (.invokevirtual 32, 3) := by decide +kernel
theorem d_U_keepStock_32 : decode b_U_keepStock 32 = .ok (.iastore, 1) := by decide +kernel
theorem d_U_keepStock_33 : decode b_U_keepStock 33 = .ok (.aload_n 0, 1) := by decide +kernel
theorem d_U_keepStock_34 : decode b_U_keepStock 34 = .ok (.getfield 9, 3) := by decide +kernel
theorem d_U_keepStock_37 : decode b_U_keepStock 37 = .ok (.iload_n 1, 1) := by decide +kernel
theorem d_U_keepStock_38 : decode b_U_keepStock 38 = .ok (.iload_n 3, 1) := by decide +kernel
theorem d_U_keepStock_39 : decode b_U_keepStock 39 = .ok (.iastore, 1) := by decide +kernel
theorem d_U_keepStock_40 : decode b_U_keepStock 40 = .ok (.iinc 1 1, 3) := by decide +kernel
theorem d_U_keepStock_43 : decode b_U_keepStock 43 = .ok (.iinc 2 1, 3) := by decide +kernel
theorem d_U_keepStock_46 : decode b_U_keepStock 46 = .ok (.goto (-42), 3) := by decide +kernel
theorem d_U_keepStock_49 : decode b_U_keepStock 49 = .ok (.aload_n 0, 1) := by decide +kernel
theorem d_U_keepStock_50 : decode b_U_keepStock 50 = .ok (.iload_n 1, 1) := by decide +kernel
theorem d_U_keepStock_51 : decode b_U_keepStock 51 = .ok (.putfield 18, 3) := by decide +kernel
theorem d_U_keepStock_54 : decode b_U_keepStock 54 = .ok (.aload_n 0, 1) := by decide +kernel
theorem d_U_keepStock_55 : decode b_U_keepStock 55 = .ok (.iconst (-1), 1) := by decide +kernel
theorem d_U_keepStock_56 : decode b_U_keepStock 56 = .ok (.putfield 22, 3) := by decide +kernel
theorem d_U_keepStock_59 : decode b_U_keepStock 59 = .ok (.return_, 1) := by decide +kernel
theorem d_O_init_0 : decode b_O_init 0 = .ok (.aload_n 0, 1) := by decide +kernel
theorem d_O_init_1 : decode b_O_init 1 = .ok (.invokespecial 3, 3) := by decide +kernel
theorem d_O_init_4 : decode b_O_init 4 = .ok (.aload_n 0, 1) := by decide +kernel
theorem d_O_init_5 : decode b_O_init 5 = .ok (.bipush 6, 2) := by decide +kernel
theorem d_O_init_7 : decode b_O_init 7 = .ok (.anewarray 9, 3) := by decide +kernel
theorem d_O_init_10 : decode b_O_init 10 = .ok (.putfield 11, 3) := by decide +kernel
theorem d_O_init_13 : decode b_O_init 13 = .ok (.aload_n 0, 1) := by decide +kernel
theorem d_O_init_14 : decode b_O_init 14 = .ok (.iconst 0, 1) := by decide +kernel
theorem d_O_init_15 : decode b_O_init 15 = .ok (.putfield 17, 3) := by decide +kernel
theorem d_O_init_18 : decode b_O_init 18 = .ok (.iconst 0, 1) := by decide +kernel
theorem d_O_init_19 : decode b_O_init 19 = .ok (.istore_n 1, 1) := by decide +kernel
theorem d_O_init_20 : decode b_O_init 20 = .ok (.iload_n 1, 1) := by decide +kernel
theorem d_O_init_21 : decode b_O_init 21 = .ok (.bipush 6, 2) := by decide +kernel
theorem d_O_init_23 : decode b_O_init 23 = .ok (.if_icmp .ge 22, 3) := by decide +kernel
theorem d_O_init_26 : decode b_O_init 26 = .ok (.aload_n 0, 1) := by decide +kernel
theorem d_O_init_27 : decode b_O_init 27 = .ok (.getfield 11, 3) := by decide +kernel
theorem d_O_init_30 : decode b_O_init 30 = .ok (.iload_n 1, 1) := by decide +kernel
theorem d_O_init_31 : decode b_O_init 31 = .ok (.new 9, 3) := by decide +kernel
theorem d_O_init_34 : decode b_O_init 34 = .ok (.dup, 1) := by decide +kernel
theorem d_O_init_35 : decode b_O_init 35 = .ok (.invokespecial 21, 3) := by decide +kernel
theorem d_O_init_38 : decode b_O_init 38 = .ok (.aastore, 1) := by decide +kernel
theorem d_O_init_39 : decode b_O_init 39 = .ok (.iinc 1 1, 3) := by decide +kernel
theorem d_O_init_42 : decode b_O_init 42 = .ok (.goto (-22), 3) := by decide +kernel
theorem d_O_init_45 : decode b_O_init 45 = .ok (.return_, 1) := by decide +kernel
theorem d_O_addFlat_0 : decode b_O_addFlat 0 = .ok (.aload_n 0, 1) := by decide +kernel
theorem d_O_addFlat_1 : decode b_O_addFlat 1 = .ok (.getfield 17, 3) := by decide +kernel
theorem d_O_addFlat_4 : decode b_O_addFlat 4 = .ok (.istore 4, 2) := by decide +kernel
theorem d_O_addFlat_6 : decode b_O_addFlat 6 = .ok (.aload_n 0, 1) := by decide +kernel
theorem d_O_addFlat_7 : decode b_O_addFlat 7 = .ok (.getfield 11, 3) := by decide +kernel
theorem d_O_addFlat_10 : decode b_O_addFlat 10 = .ok (.iload 4, 2) := by decide +kernel
theorem d_O_addFlat_12 : decode b_O_addFlat 12 = .ok (.aaload, 1) := by decide +kernel
theorem d_O_addFlat_13 : decode b_O_addFlat 13 = .ok (.astore 5, 2) := by decide +kernel
theorem d_O_addFlat_15 : decode b_O_addFlat 15 = .ok (.aload 5, 2) := by decide +kernel
theorem d_O_addFlat_17 : decode b_O_addFlat 17 = .ok (.iload_n 1, 1) := by decide +kernel
theorem d_O_addFlat_18 : decode b_O_addFlat 18 = .ok (.putfield 22, 3) := by decide +kernel
theorem d_O_addFlat_21 : decode b_O_addFlat 21 = .ok (.aload 5, 2) := by decide +kernel
theorem d_O_addFlat_23 : decode b_O_addFlat 23 = .ok (.iload_n 2, 1) := by decide +kernel
theorem d_O_addFlat_24 : decode b_O_addFlat 24 = .ok (.putfield 25, 3) := by decide +kernel
theorem d_O_addFlat_27 : decode b_O_addFlat 27 = .ok (.aload 5, 2) := by decide +kernel
theorem d_O_addFlat_29 : decode b_O_addFlat 29 = .ok (.iload_n 3, 1) := by decide +kernel
theorem d_O_addFlat_30 : decode b_O_addFlat 30 = .ok (.putfield 28, 3) := by decide +kernel
theorem d_O_addFlat_33 : decode b_O_addFlat 33 = .ok (.aload_n 0, 1) := by decide +kernel
theorem d_O_addFlat_34 : decode b_O_addFlat 34 = .ok (.dup, 1) := by decide +kernel
theorem d_O_addFlat_35 : decode b_O_addFlat 35 = .ok (.getfield 17, 3) := by decide +kernel
theorem d_O_addFlat_38 : decode b_O_addFlat 38 = .ok (.iconst 1, 1) := by decide +kernel
theorem d_O_addFlat_39 : decode b_O_addFlat 39 = .ok (.iadd, 1) := by decide +kernel
theorem d_O_addFlat_40 : decode b_O_addFlat 40 = .ok (.putfield 17, 3) := by decide +kernel
theorem d_O_addFlat_43 : decode b_O_addFlat 43 = .ok (.iload 4, 2) := by decide +kernel
theorem d_O_addFlat_45 : decode b_O_addFlat 45 = .ok (.ireturn, 1) := by decide +kernel
theorem d_O_allArea_0 : decode b_O_allArea 0 = .ok (.iconst 0, 1) := by decide +kernel
theorem d_O_allArea_1 : decode b_O_allArea 1 = .ok (.istore_n 1, 1) := by decide +kernel
theorem d_O_allArea_2 : decode b_O_allArea 2 = .ok (.iconst 0, 1) := by decide +kernel
theorem d_O_allArea_3 : decode b_O_allArea 3 = .ok (.istore_n 2, 1) := by decide +kernel
theorem d_O_allArea_4 : decode b_O_allArea 4 = .ok (.iload_n 2, 1) := by decide +kernel
theorem d_O_allArea_5 : decode b_O_allArea 5 = .ok (.aload_n 0, 1) := by decide +kernel
theorem d_O_allArea_6 : decode b_O_allArea 6 = .ok (.getfield 17, 3) := by decide +kernel
theorem d_O_allArea_9 : decode b_O_allArea 9 = .ok (.if_icmp .ge 21, 3) := by decide +kernel
theorem d_O_allArea_12 : decode b_O_allArea 12 = .ok (.iload_n 1, 1) := by decide +kernel
theorem d_O_allArea_13 : decode b_O_allArea 13 = .ok (.aload_n 0, 1) := by decide +kernel
theorem d_O_allArea_14 : decode b_O_allArea 14 = .ok (.getfield 11, 3) := by decide +kernel
theorem d_O_allArea_17 : decode b_O_allArea 17 = .ok (.iload_n 2, 1) := by decide +kernel
theorem d_O_allArea_18 : decode b_O_allArea 18 = .ok (.aaload, 1) := by decide +kernel
theorem d_O_allArea_19 : decode b_O_allArea 19 = .ok (.getfield 22, 3) := by decide +kernel
theorem d_O_allArea_22 : decode b_O_allArea 22 = .ok (.iadd, 1) := by decide +kernel
theorem d_O_allArea_23 : decode b_O_allArea 23 = .ok (.istore_n 1, 1) := by decide +kernel
theorem d_O_allArea_24 : decode b_O_allArea 24 = .ok (.iinc 2 1, 3) := by decide +kernel
theorem d_O_allArea_27 : decode b_O_allArea 27 = .ok (.goto (-23), 3) := by decide +kernel
theorem d_O_allArea_30 : decode b_O_allArea 30 = .ok (.iload_n 1, 1) := by decide +kernel
theorem d_O_allArea_31 : decode b_O_allArea 31 = .ok (.ireturn, 1) := by decide +kernel
theorem d_O_hasWaterArea_0 : decode b_O_hasWaterArea 0 = .ok (.iconst 0, 1) := by decide +kernel
theorem d_O_hasWaterArea_1 : decode b_O_hasWaterArea 1 = .ok (.istore_n 1, 1) := by decide +kernel
theorem d_O_hasWaterArea_2 : decode b_O_hasWaterArea 2 = .ok (.iload_n 1, 1) := by decide +kernel
theorem d_O_hasWaterArea_3 : decode b_O_hasWaterArea 3 = .ok (.aload_n 0, 1) := by decide +kernel
theorem d_O_hasWaterArea_4 : decode b_O_hasWaterArea 4 = .ok (.getfield 17, 3) := by decide +kernel
theorem d_O_hasWaterArea_7 : decode b_O_hasWaterArea 7 = .ok (.if_icmp .ge 23, 3) := by decide +kernel
theorem d_O_hasWaterArea_10 : decode b_O_hasWaterArea 10 = .ok (.aload_n 0, 1) := by decide +kernel
theorem d_O_hasWaterArea_11 : decode b_O_hasWaterArea 11 = .ok (.getfield 11, 3) := by decide +kernel
theorem d_O_hasWaterArea_14 : decode b_O_hasWaterArea 14 = .ok (.iload_n 1, 1) := by decide +kernel
theorem d_O_hasWaterArea_15 : decode b_O_hasWaterArea 15 = .ok (.aaload, 1) := by decide +kernel
theorem d_O_hasWaterArea_16 : decode b_O_hasWaterArea 16 = .ok (.getfield 25, 3) := by decide +kernel
theorem d_O_hasWaterArea_19 : decode b_O_hasWaterArea 19 = .ok (.ifCond .le 5, 3) := by decide +kernel
theorem d_O_hasWaterArea_22 : decode b_O_hasWaterArea 22 = .ok (.iconst 1, 1) := by decide +kernel
theorem d_O_hasWaterArea_23 : decode b_O_hasWaterArea 23 = .ok (.ireturn, 1) := by decide +kernel
theorem d_O_hasWaterArea_24 : decode b_O_hasWaterArea 24 = .ok (.iinc 1 1, 3) := by decide +kernel
theorem d_O_hasWaterArea_27 : decode b_O_hasWaterArea 27 = .ok (.goto (-25), 3) := by decide +kernel
theorem d_O_hasWaterArea_30 : decode b_O_hasWaterArea 30 = .ok (.iconst 0, 1) := by decide +kernel
theorem d_O_hasWaterArea_31 : decode b_O_hasWaterArea 31 = .ok (.ireturn, 1) := by decide +kernel
