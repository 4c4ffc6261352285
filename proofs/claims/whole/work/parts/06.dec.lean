/-! Decode rows. -/
theorem d_M_init_0 : decode b_M_init 0 = .ok (.aload_n 0, 1) := by decide +kernel
theorem d_M_init_1 : decode b_M_init 1 = .ok (.invokespecial 3, 3) := by decide +kernel
theorem d_M_init_4 : decode b_M_init 4 = .ok (.aload_n 0, 1) := by decide +kernel
theorem d_M_init_5 : decode b_M_init 5 = .ok (.bipush 6, 2) := by decide +kernel
theorem d_M_init_7 : decode b_M_init 7 = .ok (.newarray .int, 2) := by decide +kernel
theorem d_M_init_9 : decode b_M_init 9 = .ok (.putfield 9, 3) := by decide +kernel
theorem d_M_init_12 : decode b_M_init 12 = .ok (.aload_n 0, 1) := by decide +kernel
theorem d_M_init_13 : decode b_M_init 13 = .ok (.bipush 6, 2) := by decide +kernel
theorem d_M_init_15 : decode b_M_init 15 = .ok (.newarray .long, 2) := by decide +kernel
theorem d_M_init_17 : decode b_M_init 17 = .ok (.putfield 15, 3) := by decide +kernel
theorem d_M_init_20 : decode b_M_init 20 = .ok (.aload_n 0, 1) := by decide +kernel
theorem d_M_init_21 : decode b_M_init 21 = .ok (.lconst 1, 1) := by decide +kernel
theorem d_M_init_22 : decode b_M_init 22 = .ok (.putfield 19, 3) := by decide +kernel
theorem d_M_init_25 : decode b_M_init 25 = .ok (.aload_n 0, 1) := by decide +kernel
theorem d_M_init_26 : decode b_M_init 26 = .ok (.lconst 0, 1) := by decide +kernel
theorem d_M_init_27 : decode b_M_init 27 = .ok (.putfield 23, 3) := by decide +kernel
theorem d_M_init_30 : decode b_M_init 30 = .ok (.aload_n 0, 1) := by decide +kernel
theorem d_M_init_31 : decode b_M_init 31 = .ok (.iconst 0, 1) := by decide +kernel
theorem d_M_init_32 : decode b_M_init 32 = .ok (.putfield 26, 3) := by decide +kernel
theorem d_M_init_35 : decode b_M_init 35 = .ok (.aload_n 0, 1) := by decide +kernel
theorem d_M_init_36 : decode b_M_init 36 = .ok (.iconst 0, 1) := by decide +kernel
theorem d_M_init_37 : decode b_M_init 37 = .ok (.putfield 30, 3) := by decide +kernel
theorem d_M_init_40 : decode b_M_init 40 = .ok (.aload_n 0, 1) := by decide +kernel
theorem d_M_init_41 : decode b_M_init 41 = .ok (.iconst 0, 1) := by decide +kernel
theorem d_M_init_42 : decode b_M_init 42 = .ok (.putfield 33, 3) := by decide +kernel
theorem d_M_init_45 : decode b_M_init 45 = .ok (.aload_n 0, 1) := by decide +kernel
theorem d_M_init_46 : decode b_M_init 46 = .ok (.iconst 0, 1) := by decide +kernel
theorem d_M_init_47 : decode b_M_init 47 = .ok (.putfield 36, 3) := by decide +kernel
theorem d_M_init_50 : decode b_M_init 50 = .ok (.return_, 1) := by decide +kernel
theorem d_M_look_0 : decode b_M_look 0 = .ok (.aload_n 0, 1) := by decide +kernel
theorem d_M_look_1 : decode b_M_look 1 = .ok (.aload_n 1, 1) := by decide +kernel
theorem d_M_look_2 : decode b_M_look 2 = .ok (.invokevirtual 39, 3) := by decide +kernel
theorem d_M_look_5 : decode b_M_look 5 = .ok (.aload_n 0, 1) := by decide +kernel
theorem d_M_look_6 : decode b_M_look 6 = .ok (.getfield 36, 3) := by decide +kernel
theorem d_M_look_9 : decode b_M_look 9 = .ok (.ifCond .le 11, 3) := by decide +kernel
theorem d_M_look_12 : decode b_M_look 12 = .ok (.aload_n 0, 1) := by decide +kernel
theorem d_M_look_13 : decode b_M_look 13 = .ok (.getfield 36, 3) := by decide +kernel
theorem d_M_look_16 : decode b_M_look 16 = .ok (.i2l, 1) := by decide +kernel
theorem d_M_look_17 : decode b_M_look 17 = .ok (.goto 4, 3) := by decide +kernel
theorem d_M_look_20 : decode b_M_look 20 = .ok (.lconst 1, 1) := by decide +kernel
theorem d_M_look_21 : decode b_M_look 21 = .ok (.lstore_n 2, 1) := by decide +kernel
theorem d_M_look_22 : decode b_M_look 22 = .ok (.aload_n 0, 1) := by decide +kernel
theorem d_M_look_23 : decode b_M_look 23 = .ok (.getfield 30, 3) := by decide +kernel
theorem d_M_look_26 : decode b_M_look 26 = .ok (.ifCond .le 11, 3) := by decide +kernel
theorem d_M_look_29 : decode b_M_look 29 = .ok (.aload_n 0, 1) := by decide +kernel
theorem d_M_look_30 : decode b_M_look 30 = .ok (.getfield 30, 3) := by decide +kernel
theorem d_M_look_33 : decode b_M_look 33 = .ok (.i2l, 1) := by decide +kernel
theorem d_M_look_34 : decode b_M_look 34 = .ok (.goto 4, 3) := by decide +kernel
theorem d_M_look_37 : decode b_M_look 37 = .ok (.lconst 1, 1) := by decide +kernel
theorem d_M_look_38 : decode b_M_look 38 = .ok (.lstore 4, 2) := by decide +kernel
theorem d_M_look_40 : decode b_M_look 40 = .ok (.aload_n 0, 1) := by decide +kernel
theorem d_M_look_41 : decode b_M_look 41 = .ok (.lload_n 2, 1) := by decide +kernel
theorem d_M_look_42 : decode b_M_look 42 = .ok (.lload 4, 2) := by decide +kernel
theorem d_M_look_44 : decode b_M_look 44 = .ok (.lmul, 1) := by decide +kernel
theorem d_M_look_45 : decode b_M_look 45 = .ok (.putfield 19, 3) := by decide +kernel
theorem d_M_look_48 : decode b_M_look 48 = .ok (.aload_n 0, 1) := by decide +kernel
theorem d_M_look_49 : decode b_M_look 49 = .ok (.lconst 0, 1) := by decide +kernel
theorem d_M_look_50 : decode b_M_look 50 = .ok (.putfield 23, 3) := by decide +kernel
theorem d_M_look_53 : decode b_M_look 53 = .ok (.iconst 0, 1) := by decide +kernel
theorem d_M_look_54 : decode b_M_look 54 = .ok (.istore 6, 2) := by decide +kernel
theorem d_M_look_56 : decode b_M_look 56 = .ok (.iload 6, 2) := by decide +kernel
theorem d_M_look_58 : decode b_M_look 58 = .ok (.aload_n 1, 1) := by decide +kernel
theorem d_M_look_59 : decode b_M_look 59 = .ok (.getfield 43, 3) := by decide +kernel
theorem d_M_look_62 : decode b_M_look 62 = .ok (.if_icmp .ge 70, 3) := by decide +kernel
theorem d_M_look_65 : decode b_M_look 65 = .ok (.aload_n 1, 1) := by decide +kernel
theorem d_M_look_66 : decode b_M_look 66 = .ok (.getfield 48, 3) := by decide +kernel
theorem d_M_look_69 : decode b_M_look 69 = .ok (.iload 6, 2) := by decide +kernel
theorem d_M_look_71 : decode b_M_look 71 = .ok (.aaload, 1) := by decide +kernel
theorem d_M_look_72 : decode b_M_look 72 = .ok (.astore 7, 2) := by decide +kernel
theorem d_M_look_74 : decode b_M_look 74 = .ok (.aload_n 0, 1) := by decide +kernel
theorem d_M_look_75 : decode b_M_look 75 = .ok (.getfield 9, 3) := by decide +kernel
theorem d_M_look_78 : decode b_M_look 78 = .ok (.iload 6, 2) := by decide +kernel
theorem d_M_look_80 : decode b_M_look 80 = .ok (.aload_n 0, 1) := by decide +kernel
theorem d_M_look_81 : decode b_M_look 81 = .ok (.aload 7, 2) := by decide +kernel
theorem d_M_look_83 : decode b_M_look 83 = .ok (.invokevirtual 52, 3) := by decide +kernel
theorem d_M_look_86 : decode b_M_look 86 = .ok (.iastore, 1) := by decide +kernel
theorem d_M_look_87 : decode b_M_look 87 = .ok (.aload_n 0, 1) := by decide +kernel
theorem d_M_look_88 : decode b_M_look 88 = .ok (.getfield 15, 3) := by decide +kernel
theorem d_M_look_91 : decode b_M_look 91 = .ok (.iload 6, 2) := by decide +kernel
theorem d_M_look_93 : decode b_M_look 93 = .ok (.aload_n 0, 1) := by decide +kernel
theorem d_M_look_94 : decode b_M_look 94 = .ok (.aload 7, 2) := by decide +kernel
theorem d_M_look_96 : decode b_M_look 96 = .ok (.aload_n 0, 1) := by decide +kernel
theorem d_M_look_97 : decode b_M_look 97 = .ok (.getfield 9, 3) := by decide +kernel
theorem d_M_look_100 : decode b_M_look 100 = .ok (.iload 6, 2) := by decide +kernel
theorem d_M_look_102 : decode b_M_look 102 = .ok (.iaload, 1) := by decide +kernel
theorem d_M_look_103 : decode b_M_look 103 = .ok (.lload_n 2, 1) := by decide +kernel
theorem d_M_look_104 : decode b_M_look 104 = .ok (.lload 4, 2) := by decide +kernel
theorem d_M_look_106 : decode b_M_look 106 = .ok (.invokevirtual 56, 3) := by decide +kernel
theorem d_M_look_109 : decode b_M_look 109 = .ok (.lastore, 1) := by decide +kernel
theorem d_M_look_110 : decode b_M_look 110 = .ok (.aload_n 0, 1) := by decide +kernel
theorem d_M_look_111 : decode b_M_look 111 = .ok (.dup, 1) := by decide +kernel
theorem d_M_look_112 : decode b_M_look 112 = .ok (.getfield 23, 3) := by decide +kernel
theorem d_M_look_115 : decode b_M_look 115 = .ok (.aload_n 0, 1) := by decide +kernel
theorem d_M_look_116 : decode b_M_look 116 = .ok (.getfield 15, 3) := by decide +kernel
theorem d_M_look_119 : decode b_M_look 119 = .ok (.iload 6, 2) := by decide +kernel
theorem d_M_look_121 : decode b_M_look 121 = .ok (.laload, 1) := by decide +kernel
theorem d_M_look_122 : decode b_M_look 122 = .ok (.ladd, 1) := by decide +kernel
theorem d_M_look_123 : decode b_M_look 123 = .ok (.putfield 23, 3) := by decide +kernel
theorem d_M_look_126 : decode b_M_look 126 = .ok (.iinc 6 1, 3) := by decide +kernel
theorem d_M_look_129 : decode b_M_look 129 = .ok (.goto (-73), 3) := by decide +kernel
theorem d_M_look_132 : decode b_M_look 132 = .ok (.return_, 1) := by decide +kernel
theorem d_M_sumRead_0 : decode b_M_sumRead 0 = .ok (.aload_n 0, 1) := by decide +kernel
theorem d_M_sumRead_1 : decode b_M_sumRead 1 = .ok (.iconst 0, 1) := by decide +kernel
theorem d_M_sumRead_2 : decode b_M_sumRead 2 = .ok (.putfield 26, 3) := by decide +kernel
theorem d_M_sumRead_5 : decode b_M_sumRead 5 = .ok (.aload_n 0, 1) := by decide +kernel
theorem d_M_sumRead_6 : decode b_M_sumRead 6 = .ok (.iconst 0, 1) := by decide +kernel
theorem d_M_sumRead_7 : decode b_M_sumRead 7 = .ok (.putfield 30, 3) := by decide +kernel
theorem d_M_sumRead_10 : decode b_M_sumRead 10 = .ok (.aload_n 0, 1) := by decide +kernel
theorem d_M_sumRead_11 : decode b_M_sumRead 11 = .ok (.iconst 0, 1) := by decide +kernel
theorem d_M_sumRead_12 : decode b_M_sumRead 12 = .ok (.putfield 33, 3) := by decide +kernel
theorem d_M_sumRead_15 : decode b_M_sumRead 15 = .ok (.aload_n 0, 1) := by decide +kernel
theorem d_M_sumRead_16 : decode b_M_sumRead 16 = .ok (.iconst 0, 1) := by decide +kernel
theorem d_M_sumRead_17 : decode b_M_sumRead 17 = .ok (.putfield 36, 3) := by decide +kernel
theorem d_M_sumRead_20 : decode b_M_sumRead 20 = .ok (.iconst 0, 1) := by decide +kernel
theorem d_M_sumRead_21 : decode b_M_sumRead 21 = .ok (.istore_n 2, 1) := by decide +kernel
theorem d_M_sumRead_22 : decode b_M_sumRead 22 = .ok (.iload_n 2, 1) := by decide +kernel
theorem d_M_sumRead_23 : decode b_M_sumRead 23 = .ok (.aload_n 1, 1) := by decide +kernel
theorem d_M_sumRead_24 : decode b_M_sumRead 24 = .ok (.getfield 43, 3) := by decide +kernel
theorem d_M_sumRead_27 : decode b_M_sumRead 27 = .ok (.if_icmp .ge 83, 3) := by decide +kernel
theorem d_M_sumRead_30 : decode b_M_sumRead 30 = .ok (.aload_n 1, 1) := by decide +kernel
theorem d_M_sumRead_31 : decode b_M_sumRead 31 = .ok (.getfield 48, 3) := by decide +kernel
theorem d_M_sumRead_34 : decode b_M_sumRead 34 = .ok (.iload_n 2, 1) := by decide +kernel
theorem d_M_sumRead_35 : decode b_M_sumRead 35 = .ok (.aaload, 1) := by decide +kernel
theorem d_M_sumRead_36 : decode b_M_sumRead 36 = .ok (.astore_n 3, 1) := by decide +kernel
theorem d_M_sumRead_37 : decode b_M_sumRead 37 = .ok (.aload_n 3, 1) := by decide +kernel
theorem d_M_sumRead_38 : decode b_M_sumRead 38 = .ok (.invokevirtual 60, 3) := by decide +kernel
theorem d_M_sumRead_41 : decode b_M_sumRead 41 = .ok (.ifCond .eq 63, 3) := by decide +kernel
theorem d_M_sumRead_44 : decode b_M_sumRead 44 = .ok (.aload_n 0, 1) := by decide +kernel
theorem d_M_sumRead_45 : decode b_M_sumRead 45 = .ok (.dup, 1) := by decide +kernel
theorem d_M_sumRead_46 : decode b_M_sumRead 46 = .ok (.getfield 26, 3) := by decide +kernel
theorem d_M_sumRead_49 : decode b_M_sumRead 49 = .ok (.aload_n 3, 1) := by decide +kernel
theorem d_M_sumRead_50 : decode b_M_sumRead 50 = .ok (.invokevirtual 66, 3) := by decide +kernel
theorem d_M_sumRead_53 : decode b_M_sumRead 53 = .ok (.iadd, 1) := by decide +kernel
theorem d_M_sumRead_54 : decode b_M_sumRead 54 = .ok (.putfield 26, 3) := by decide +kernel
theorem d_M_sumRead_57 : decode b_M_sumRead 57 = .ok (.aload_n 0, 1) := by decide +kernel
theorem d_M_sumRead_58 : decode b_M_sumRead 58 = .ok (.dup, 1) := by decide +kernel
theorem d_M_sumRead_59 : decode b_M_sumRead 59 = .ok (.getfield 30, 3) := by decide +kernel
theorem d_M_sumRead_62 : decode b_M_sumRead 62 = .ok (.aload_n 3, 1) := by decide +kernel
theorem d_M_sumRead_63 : decode b_M_sumRead 63 = .ok (.getfield 70, 3) := by decide +kernel
theorem d_M_sumRead_66 : decode b_M_sumRead 66 = .ok (.iadd, 1) := by decide +kernel
theorem d_M_sumRead_67 : decode b_M_sumRead 67 = .ok (.putfield 30, 3) := by decide +kernel
theorem d_M_sumRead_70 : decode b_M_sumRead 70 = .ok (.aload_n 3, 1) := by decide +kernel
theorem d_M_sumRead_71 : decode b_M_sumRead 71 = .ok (.getfield 73, 3) := by decide +kernel
theorem d_M_sumRead_74 : decode b_M_sumRead 74 = .ok (.iconst (-1), 1) := by decide +kernel
theorem d_M_sumRead_75 : decode b_M_sumRead 75 = .ok (.if_icmp .eq 29, 3) := by decide +kernel
theorem d_M_sumRead_78 : decode b_M_sumRead 78 = .ok (.aload_n 0, 1) := by decide +kernel
theorem d_M_sumRead_79 : decode b_M_sumRead 79 = .ok (.dup, 1) := by decide +kernel
theorem d_M_sumRead_80 : decode b_M_sumRead 80 = .ok (.getfield 33, 3) := by decide +kernel
theorem d_M_sumRead_83 : decode b_M_sumRead 83 = .ok (.aload_n 3, 1) := by decide +kernel
theorem d_M_sumRead_84 : decode b_M_sumRead 84 = .ok (.invokevirtual 66, 3) := by decide +kernel
theorem d_M_sumRead_87 : decode b_M_sumRead 87 = .ok (.iadd, 1) := by decide +kernel
theorem d_M_sumRead_88 : decode b_M_sumRead 88 = .ok (.putfield 33, 3) := by decide +kernel
theorem d_M_sumRead_91 : decode b_M_sumRead 91 = .ok (.aload_n 0, 1) := by decide +kernel
theorem d_M_sumRead_92 : decode b_M_sumRead 92 = .ok (.dup, 1) := by decide +kernel
theorem d_M_sumRead_93 : decode b_M_sumRead 93 = .ok (.getfield 36, 3) := by decide +kernel
theorem d_M_sumRead_96 : decode b_M_sumRead 96 = .ok (.aload_n 3, 1) := by decide +kernel
theorem d_M_sumRead_97 : decode b_M_sumRead 97 = .ok (.getfield 73, 3) := by decide +kernel
theorem d_M_sumRead_100 : decode b_M_sumRead 100 = .ok (.iadd, 1) := by decide +kernel
theorem d_M_sumRead_101 : decode b_M_sumRead 101 = .ok (.putfield 36, 3) := by decide +kernel
theorem d_M_sumRead_104 : decode b_M_sumRead 104 = .ok (.iinc 2 1, 3) := by decide +kernel
theorem d_M_sumRead_107 : decode b_M_sumRead 107 = .ok (.goto (-85), 3) := by decide +kernel
theorem d_M_sumRead_110 : decode b_M_sumRead 110 = .ok (.return_, 1) := by decide +kernel
theorem d_M_kindOf_0 : decode b_M_kindOf 0 = .ok (.aload_n 1, 1) := by decide +kernel
theorem d_M_kindOf_1 : decode b_M_kindOf 1 = .ok (.invokevirtual 60, 3) := by decide +kernel
theorem d_M_kindOf_4 : decode b_M_kindOf 4 = .ok (.ifCond .eq 5, 3) := by decide +kernel
theorem d_M_kindOf_7 : decode b_M_kindOf 7 = .ok (.iconst 0, 1) := by decide +kernel
theorem d_M_kindOf_8 : decode b_M_kindOf 8 = .ok (.ireturn, 1) := by decide +kernel
theorem d_M_kindOf_9 : decode b_M_kindOf 9 = .ok (.aload_n 1, 1) := by decide +kernel
theorem d_M_kindOf_10 : decode b_M_kindOf 10 = .ok (.getfield 73, 3) := by decide +kernel
theorem d_M_kindOf_13 : decode b_M_kindOf 13 = .ok (.iconst (-1), 1) := by decide +kernel
theorem d_M_kindOf_14 : decode b_M_kindOf 14 = .ok (.if_icmp .eq 19, 3) := by decide +kernel
theorem d_M_kindOf_17 : decode b_M_kindOf 17 = .ok (.aload_n 0, 1) := by decide +kernel
theorem d_M_kindOf_18 : decode b_M_kindOf 18 = .ok (.getfield 33, 3) := by decide +kernel
theorem d_M_kindOf_21 : decode b_M_kindOf 21 = .ok (.ifCond .le 12, 3) := by decide +kernel
theorem d_M_kindOf_24 : decode b_M_kindOf 24 = .ok (.aload_n 0, 1) := by decide +kernel
theorem d_M_kindOf_25 : decode b_M_kindOf 25 = .ok (.getfield 36, 3) := by decide +kernel
theorem d_M_kindOf_28 : decode b_M_kindOf 28 = .ok (.ifCond .le 5, 3) := by decide +kernel
theorem d_M_kindOf_31 : decode b_M_kindOf 31 = .ok (.iconst 1, 1) := by decide +kernel
theorem d_M_kindOf_32 : decode b_M_kindOf 32 = .ok (.ireturn, 1) := by decide +kernel
theorem d_M_kindOf_33 : decode b_M_kindOf 33 = .ok (.aload_n 0, 1) := by decide +kernel
theorem d_M_kindOf_34 : decode b_M_kindOf 34 = .ok (.getfield 30, 3) := by decide +kernel
theorem d_M_kindOf_37 : decode b_M_kindOf 37 = .ok (.ifCond .le 7, 3) := by decide +kernel
theorem d_M_kindOf_40 : decode b_M_kindOf 40 = .ok (.iconst 2, 1) := by decide +kernel
theorem d_M_kindOf_41 : decode b_M_kindOf 41 = .ok (.goto 4, 3) := by decide +kernel
theorem d_M_kindOf_44 : decode b_M_kindOf 44 = .ok (.iconst 3, 1) := by decide +kernel
theorem d_M_kindOf_45 : decode b_M_kindOf 45 = .ok (.ireturn, 1) := by decide +kernel
theorem d_M_scaledUnits_0 : decode b_M_scaledUnits 0 = .ok (.ldc2_w 76, 3) := by decide +kernel
theorem d_M_scaledUnits_3 : decode b_M_scaledUnits 3 = .ok (.aload_n 0, 1) := by decide +kernel
theorem d_M_scaledUnits_4 : decode b_M_scaledUnits 4 = .ok (.getfield 19, 3) := by decide +kernel
theorem d_M_scaledUnits_7 : decode b_M_scaledUnits 7 = .ok (.lmul, 1) := by decide +kernel
theorem d_M_scaledUnits_8 : decode b_M_scaledUnits 8 = .ok (.lstore 7, 2) := by decide +kernel
theorem d_M_scaledUnits_10 : decode b_M_scaledUnits 10 = .ok (.iload_n 2, 1) := by decide +kernel
theorem d_M_scaledUnits_11 : decode b_M_scaledUnits 11 = .ok (.tableswitch 75 0 2 #[25, 36, 56], 25) := by decide +kernel
theorem d_M_scaledUnits_36 : decode b_M_scaledUnits 36 = .ok (.aload_n 1, 1) := by decide +kernel
theorem d_M_scaledUnits_37 : decode b_M_scaledUnits 37 = .ok (.invokevirtual 66, 3) := by decide +kernel
theorem d_M_scaledUnits_40 : decode b_M_scaledUnits 40 = .ok (.i2l, 1) := by decide +kernel
theorem d_M_scaledUnits_41 : decode b_M_scaledUnits 41 = .ok (.aload_n 0, 1) := by decide +kernel
theorem d_M_scaledUnits_42 : decode b_M_scaledUnits 42 = .ok (.getfield 19, 3) := by decide +kernel
theorem d_M_scaledUnits_45 : decode b_M_scaledUnits 45 = .ok (.lmul, 1) := by decide +kernel
theorem d_M_scaledUnits_46 : decode b_M_scaledUnits 46 = .ok (.lreturn, 1) := by decide +kernel
theorem d_M_scaledUnits_47 : decode b_M_scaledUnits 47 = .ok (.lload 7, 2) := by decide +kernel
theorem d_M_scaledUnits_49 : decode b_M_scaledUnits 49 = .ok (.aload_n 1, 1) := by decide +kernel
theorem d_M_scaledUnits_50 : decode b_M_scaledUnits 50 = .ok (.getfield 73, 3) := by decide +kernel
theorem d_M_scaledUnits_53 : decode b_M_scaledUnits 53 = .ok (.i2l, 1) := by decide +kernel
theorem d_M_scaledUnits_54 : decode b_M_scaledUnits 54 = .ok (.aload_n 0, 1) := by decide +kernel
theorem d_M_scaledUnits_55 : decode b_M_scaledUnits 55 = .ok (.getfield 33, 3) := by decide +kernel
theorem d_M_scaledUnits_58 : decode b_M_scaledUnits 58 = .ok (.i2l, 1) := by decide +kernel
theorem d_M_scaledUnits_59 : decode b_M_scaledUnits 59 = .ok (.lmul, 1) := by decide +kernel
theorem d_M_scaledUnits_60 : decode b_M_scaledUnits 60 = .ok (.lload 5, 2) := by decide +kernel
theorem d_M_scaledUnits_62 : decode b_M_scaledUnits 62 = .ok (.lmul, 1) := by decide +kernel
theorem d_M_scaledUnits_63 : decode b_M_scaledUnits 63 = .ok (.invokestatic 78, 3) := by decide +kernel
theorem d_M_scaledUnits_66 : decode b_M_scaledUnits 66 = .ok (.lreturn, 1) := by decide +kernel
theorem d_M_scaledUnits_67 : decode b_M_scaledUnits 67 = .ok (.lload 7, 2) := by decide +kernel
theorem d_M_scaledUnits_69 : decode b_M_scaledUnits 69 = .ok (.aload_n 1, 1) := by decide +kernel
theorem d_M_scaledUnits_70 : decode b_M_scaledUnits 70 = .ok (.getfield 70, 3) := by decide +kernel
theorem d_M_scaledUnits_73 : decode b_M_scaledUnits 73 = .ok (.i2l, 1) := by decide +kernel
theorem d_M_scaledUnits_74 : decode b_M_scaledUnits 74 = .ok (.aload_n 0, 1) := by decide +kernel
theorem d_M_scaledUnits_75 : decode b_M_scaledUnits 75 = .ok (.getfield 26, 3) := by decide +kernel
theorem d_M_scaledUnits_78 : decode b_M_scaledUnits 78 = .ok (.i2l, 1) := by decide +kernel
theorem d_M_scaledUnits_79 : decode b_M_scaledUnits 79 = .ok (.lmul, 1) := by decide +kernel
theorem d_M_scaledUnits_80 : decode b_M_scaledUnits 80 = .ok (.lload_n 3, 1) := by decide +kernel
theorem d_M_scaledUnits_81 : decode b_M_scaledUnits 81 = .ok (.lmul, 1) := by decide +kernel
theorem d_M_scaledUnits_82 : decode b_M_scaledUnits 82 = .ok (.invokestatic 78, 3) := by decide +kernel
theorem d_M_scaledUnits_85 : decode b_M_scaledUnits 85 = .ok (.lreturn, 1) := by decide +kernel
theorem d_M_scaledUnits_86 : decode b_M_scaledUnits 86 = .ok (.lconst 0, 1) := by decide +kernel
theorem d_M_scaledUnits_87 : decode b_M_scaledUnits 87 = .ok (.lreturn, 1) := by decide +kernel
theorem d_M_areFitFor_0 : decode b_M_areFitFor 0 = .ok (.iconst 0, 1) := by decide +kernel
theorem d_M_areFitFor_1 : decode b_M_areFitFor 1 = .ok (.istore_n 2, 1) := by decide +kernel
theorem d_M_areFitFor_2 : decode b_M_areFitFor 2 = .ok (.iconst 0, 1) := by decide +kernel
theorem d_M_areFitFor_3 : decode b_M_areFitFor 3 = .ok (.istore_n 3, 1) := by decide +kernel
theorem d_M_areFitFor_4 : decode b_M_areFitFor 4 = .ok (.iload_n 3, 1) := by decide +kernel
theorem d_M_areFitFor_5 : decode b_M_areFitFor 5 = .ok (.aload_n 1, 1) := by decide +kernel
theorem d_M_areFitFor_6 : decode b_M_areFitFor 6 = .ok (.getfield 43, 3) := by decide +kernel
theorem d_M_areFitFor_9 : decode b_M_areFitFor 9 = .ok (.if_icmp .ge 42, 3) := by decide +kernel
theorem d_M_areFitFor_12 : decode b_M_areFitFor 12 = .ok (.aload_n 0, 1) := by decide +kernel
theorem d_M_areFitFor_13 : decode b_M_areFitFor 13 = .ok (.getfield 9, 3) := by decide +kernel
theorem d_M_areFitFor_16 : decode b_M_areFitFor 16 = .ok (.iload_n 3, 1) := by decide +kernel
theorem d_M_areFitFor_17 : decode b_M_areFitFor 17 = .ok (.iaload, 1) := by decide +kernel
theorem d_M_areFitFor_18 : decode b_M_areFitFor 18 = .ok (.iconst 3, 1) := by decide +kernel
theorem d_M_areFitFor_19 : decode b_M_areFitFor 19 = .ok (.if_icmp .ne 5, 3) := by decide +kernel
theorem d_M_areFitFor_22 : decode b_M_areFitFor 22 = .ok (.iconst 0, 1) := by decide +kernel
theorem d_M_areFitFor_23 : decode b_M_areFitFor 23 = .ok (.ireturn, 1) := by decide +kernel
theorem d_M_areFitFor_24 : decode b_M_areFitFor 24 = .ok (.aload_n 0, 1) := by decide +kernel
theorem d_M_areFitFor_25 : decode b_M_areFitFor 25 = .ok (.getfield 9, 3) := by decide +kernel
theorem d_M_areFitFor_28 : decode b_M_areFitFor 28 = .ok (.iload_n 3, 1) := by decide +kernel
theorem d_M_areFitFor_29 : decode b_M_areFitFor 29 = .ok (.iaload, 1) := by decide +kernel
theorem d_M_areFitFor_30 : decode b_M_areFitFor 30 = .ok (.ifCond .eq 15, 3) := by decide +kernel
theorem d_M_areFitFor_33 : decode b_M_areFitFor 33 = .ok (.iload_n 2, 1) := by decide +kernel
theorem d_M_areFitFor_34 : decode b_M_areFitFor 34 = .ok (.aload_n 1, 1) := by decide +kernel
theorem d_M_areFitFor_35 : decode b_M_areFitFor 35 = .ok (.getfield 48, 3) := by decide +kernel
theorem d_M_areFitFor_38 : decode b_M_areFitFor 38 = .ok (.iload_n 3, 1) := by decide +kernel
theorem d_M_areFitFor_39 : decode b_M_areFitFor 39 = .ok (.aaload, 1) := by decide +kernel
theorem d_M_areFitFor_40 : decode b_M_areFitFor 40 = .ok (.getfield 70, 3) := by decide +kernel
theorem d_M_areFitFor_43 : decode b_M_areFitFor 43 = .ok (.iadd, 1) := by decide +kernel
theorem d_M_areFitFor_44 : decode b_M_areFitFor 44 = .ok (.istore_n 2, 1) := by decide +kernel
theorem d_M_areFitFor_45 : decode b_M_areFitFor 45 = .ok (.iinc 3 1, 3) := by decide +kernel
theorem d_M_areFitFor_48 : decode b_M_areFitFor 48 = .ok (.goto (-44), 3) := by decide +kernel
theorem d_M_areFitFor_51 : decode b_M_areFitFor 51 = .ok (.iconst 4, 1) := by decide +kernel
theorem d_M_areFitFor_52 : decode b_M_areFitFor 52 = .ok (.iload_n 2, 1) := by decide +kernel
theorem d_M_areFitFor_53 : decode b_M_areFitFor 53 = .ok (.imul, 1) := by decide +kernel
theorem d_M_areFitFor_54 : decode b_M_areFitFor 54 = .ok (.aload_n 1, 1) := by decide +kernel
theorem d_M_areFitFor_55 : decode b_M_areFitFor 55 = .ok (.invokevirtual 84, 3) := by decide +kernel
theorem d_M_areFitFor_58 : decode b_M_areFitFor 58 = .ok (.if_icmp .gt 16, 3) := by decide +kernel
theorem d_M_areFitFor_61 : decode b_M_areFitFor 61 = .ok (.aload_n 0, 1) := by decide +kernel
theorem d_M_areFitFor_62 : decode b_M_areFitFor 62 = .ok (.getfield 23, 3) := by decide +kernel
theorem d_M_areFitFor_65 : decode b_M_areFitFor 65 = .ok (.lconst 0, 1) := by decide +kernel
theorem d_M_areFitFor_66 : decode b_M_areFitFor 66 = .ok (.lcmp, 1) := by decide +kernel
theorem d_M_areFitFor_67 : decode b_M_areFitFor 67 = .ok (.ifCond .le 7, 3) := by decide +kernel
theorem d_M_areFitFor_70 : decode b_M_areFitFor 70 = .ok (.iconst 1, 1) := by decide +kernel
theorem d_M_areFitFor_71 : decode b_M_areFitFor 71 = .ok (.goto 4, 3) := by decide +kernel
theorem d_M_areFitFor_74 : decode b_M_areFitFor 74 = .ok (.iconst 0, 1) := by decide +kernel
theorem d_M_areFitFor_75 : decode b_M_areFitFor 75 = .ok (.ireturn, 1) := by decide +kernel
theorem d_M_wholeUnits_0 : decode b_M_wholeUnits 0 = .ok (.aload_n 0, 1) := by decide +kernel
theorem d_M_wholeUnits_1 : decode b_M_wholeUnits 1 = .ok (.getfield 19, 3) := by decide +kernel
theorem d_M_wholeUnits_4 : decode b_M_wholeUnits 4 = .ok (.lconst 0, 1) := by decide +kernel
theorem d_M_wholeUnits_5 : decode b_M_wholeUnits 5 = .ok (.lcmp, 1) := by decide +kernel
theorem d_M_wholeUnits_6 : decode b_M_wholeUnits 6 = .ok (.ifCond .le 17, 3) := by decide +kernel
theorem d_M_wholeUnits_9 : decode b_M_wholeUnits 9 = .ok (.aload_n 0, 1) := by decide +kernel
theorem d_M_wholeUnits_10 : decode b_M_wholeUnits 10 = .ok (.getfield 15, 3) := by decide +kernel
theorem d_M_wholeUnits_13 : decode b_M_wholeUnits 13 = .ok (.iload_n 1, 1) := by decide +kernel
theorem d_M_wholeUnits_14 : decode b_M_wholeUnits 14 = .ok (.laload, 1) := by decide +kernel
theorem d_M_wholeUnits_15 : decode b_M_wholeUnits 15 = .ok (.aload_n 0, 1) := by decide +kernel
theorem d_M_wholeUnits_16 : decode b_M_wholeUnits 16 = .ok (.getfield 19, 3) := by decide +kernel
theorem d_M_wholeUnits_19 : decode b_M_wholeUnits 19 = .ok (.ldiv, 1) := by decide +kernel
theorem d_M_wholeUnits_20 : decode b_M_wholeUnits 20 = .ok (.goto 4, 3) := by decide +kernel
theorem d_M_wholeUnits_23 : decode b_M_wholeUnits 23 = .ok (.lconst 0, 1) := by decide +kernel
theorem d_M_wholeUnits_24 : decode b_M_wholeUnits 24 = .ok (.lstore_n 2, 1) := by decide +kernel
theorem d_M_wholeUnits_25 : decode b_M_wholeUnits 25 = .ok (.lload_n 2, 1) := by decide +kernel
theorem d_M_wholeUnits_26 : decode b_M_wholeUnits 26 = .ok (.lconst 0, 1) := by decide +kernel
theorem d_M_wholeUnits_27 : decode b_M_wholeUnits 27 = .ok (.lcmp, 1) := by decide +kernel
theorem d_M_wholeUnits_28 : decode b_M_wholeUnits 28 = .ok (.ifCond .le 8, 3) := by decide +kernel
theorem d_M_wholeUnits_31 : decode b_M_wholeUnits 31 = .ok (.lload_n 2, 1) := by decide +kernel
theorem d_M_wholeUnits_32 : decode b_M_wholeUnits 32 = .ok (.l2i, 1) := by decide +kernel
theorem d_M_wholeUnits_33 : decode b_M_wholeUnits 33 = .ok (.goto 4, 3) := by decide +kernel
theorem d_M_wholeUnits_36 : decode b_M_wholeUnits 36 = .ok (.iconst (-1), 1) := by decide +kernel
theorem d_M_wholeUnits_37 : decode b_M_wholeUnits 37 = .ok (.ireturn, 1) := by decide +kernel
theorem d_M_endsStretch_0 : decode b_M_endsStretch 0 = .ok (.iload_n 3, 1) := by decide +kernel
theorem d_M_endsStretch_1 : decode b_M_endsStretch 1 = .ok (.bipush 12, 2) := by decide +kernel
theorem d_M_endsStretch_3 : decode b_M_endsStretch 3 = .ok (.if_icmp .eq 22, 3) := by decide +kernel
theorem d_M_endsStretch_6 : decode b_M_endsStretch 6 = .ok (.aload_n 0, 1) := by decide +kernel
theorem d_M_endsStretch_7 : decode b_M_endsStretch 7 = .ok (.getfield 9, 3) := by decide +kernel
theorem d_M_endsStretch_10 : decode b_M_endsStretch 10 = .ok (.iload_n 2, 1) := by decide +kernel
theorem d_M_endsStretch_11 : decode b_M_endsStretch 11 = .ok (.iaload, 1) := by decide +kernel
theorem d_M_endsStretch_12 : decode b_M_endsStretch 12 = .ok (.ifCond .ne 17, 3) := by decide +kernel
theorem d_M_endsStretch_15 : decode b_M_endsStretch 15 = .ok (.aload_n 1, 1) := by decide +kernel
theorem d_M_endsStretch_16 : decode b_M_endsStretch 16 = .ok (.getfield 87, 3) := by decide +kernel
theorem d_M_endsStretch_19 : decode b_M_endsStretch 19 = .ok (.iload_n 3, 1) := by decide +kernel
theorem d_M_endsStretch_20 : decode b_M_endsStretch 20 = .ok (.iaload, 1) := by decide +kernel
theorem d_M_endsStretch_21 : decode b_M_endsStretch 21 = .ok (.iconst (-1), 1) := by decide +kernel
theorem d_M_endsStretch_22 : decode b_M_endsStretch 22 = .ok (.if_icmp .eq 7, 3) := by decide +kernel
theorem d_M_endsStretch_25 : decode b_M_endsStretch 25 = .ok (.iconst 1, 1) := by decide +kernel
theorem d_M_endsStretch_26 : decode b_M_endsStretch 26 = .ok (.goto 4, 3) := by decide +kernel
theorem d_M_endsStretch_29 : decode b_M_endsStretch 29 = .ok (.iconst 0, 1) := by decide +kernel
theorem d_M_endsStretch_30 : decode b_M_endsStretch 30 = .ok (.ireturn, 1) := by decide +kernel
theorem d_M_stretchUnits_0 : decode b_M_stretchUnits 0 = .ok (.aload_n 0, 1) := by decide +kernel
theorem d_M_stretchUnits_1 : decode b_M_stretchUnits 1 = .ok (.getfield 9, 3) := by decide +kernel
theorem d_M_stretchUnits_4 : decode b_M_stretchUnits 4 = .ok (.iload_n 2, 1) := by decide +kernel
theorem d_M_stretchUnits_5 : decode b_M_stretchUnits 5 = .ok (.iaload, 1) := by decide +kernel
theorem d_M_stretchUnits_6 : decode b_M_stretchUnits 6 = .ok (.ifCond .ne 19, 3) := by decide +kernel
theorem d_M_stretchUnits_9 : decode b_M_stretchUnits 9 = .ok (.aload_n 1, 1) := by decide +kernel
theorem d_M_stretchUnits_10 : decode b_M_stretchUnits 10 = .ok (.iload_n 3, 1) := by decide +kernel
theorem d_M_stretchUnits_11 : decode b_M_stretchUnits 11 = .ok (.iload 4, 2) := by decide +kernel
theorem d_M_stretchUnits_13 : decode b_M_stretchUnits 13 = .ok (.invokevirtual 90, 3) := by decide +kernel
theorem d_M_stretchUnits_16 : decode b_M_stretchUnits 16 = .ok (.i2l, 1) := by decide +kernel
theorem d_M_stretchUnits_17 : decode b_M_stretchUnits 17 = .ok (.aload_n 0, 1) := by decide +kernel
theorem d_M_stretchUnits_18 : decode b_M_stretchUnits 18 = .ok (.getfield 19, 3) := by decide +kernel
theorem d_M_stretchUnits_21 : decode b_M_stretchUnits 21 = .ok (.lmul, 1) := by decide +kernel
theorem d_M_stretchUnits_22 : decode b_M_stretchUnits 22 = .ok (.goto 9, 3) := by decide +kernel
theorem d_M_stretchUnits_25 : decode b_M_stretchUnits 25 = .ok (.aload_n 0, 1) := by decide +kernel
theorem d_M_stretchUnits_26 : decode b_M_stretchUnits 26 = .ok (.getfield 15, 3) := by decide +kernel
theorem d_M_stretchUnits_29 : decode b_M_stretchUnits 29 = .ok (.iload_n 2, 1) := by decide +kernel
theorem d_M_stretchUnits_30 : decode b_M_stretchUnits 30 = .ok (.laload, 1) := by decide +kernel
theorem d_M_stretchUnits_31 : decode b_M_stretchUnits 31 = .ok (.lreturn, 1) := by decide +kernel
theorem d_S_init_0 : decode b_S_init 0 = .ok (.aload_n 0, 1) := by decide +kernel
theorem d_S_init_1 : decode b_S_init 1 = .ok (.invokespecial 3, 3) := by decide +kernel
theorem d_S_init_4 : decode b_S_init 4 = .ok (.aload_n 0, 1) := by decide +kernel
theorem d_S_init_5 : decode b_S_init 5 = .ok (.bipush 72, 2) := by decide +kernel
theorem d_S_init_7 : decode b_S_init 7 = .ok (.newarray .int, 2) := by decide +kernel
theorem d_S_init_9 : decode b_S_init 9 = .ok (.putfield 9, 3) := by decide +kernel
theorem d_S_init_12 : decode b_S_init 12 = .ok (.aload_n 0, 1) := by decide +kernel
theorem d_S_init_13 : decode b_S_init 13 = .ok (.bipush 72, 2) := by decide +kernel
theorem d_S_init_15 : decode b_S_init 15 = .ok (.newarray .long, 2) := by decide +kernel
theorem d_S_init_17 : decode b_S_init 17 = .ok (.putfield 15, 3) := by decide +kernel
theorem d_S_init_20 : decode b_S_init 20 = .ok (.aload_n 0, 1) := by decide +kernel
theorem d_S_init_21 : decode b_S_init 21 = .ok (.bipush 72, 2) := by decide +kernel
theorem d_S_init_23 : decode b_S_init 23 = .ok (.newarray .long, 2) := by decide +kernel
theorem d_S_init_25 : decode b_S_init 25 = .ok (.putfield 19, 3) := by decide +kernel
theorem d_S_init_28 : decode b_S_init 28 = .ok (.aload_n 0, 1) := by decide +kernel
theorem d_S_init_29 : decode b_S_init 29 = .ok (.bipush 72, 2) := by decide +kernel
theorem d_S_init_31 : decode b_S_init 31 = .ok (.newarray .long, 2) := by decide +kernel
theorem d_S_init_33 : decode b_S_init 33 = .ok (.putfield 22, 3) := by decide +kernel
theorem d_S_init_36 : decode b_S_init 36 = .ok (.aload_n 0, 1) := by decide +kernel
theorem d_S_init_37 : decode b_S_init 37 = .ok (.lconst 0, 1) := by decide +kernel
theorem d_S_init_38 : decode b_S_init 38 = .ok (.putfield 25, 3) := by decide +kernel
theorem d_S_init_41 : decode b_S_init 41 = .ok (.return_, 1) := by decide +kernel
theorem d_S_weighByArea_0 : decode b_S_weighByArea 0 = .ok (.aload_n 0, 1) := by decide +kernel
theorem d_S_weighByArea_1 : decode b_S_weighByArea 1 = .ok (.lconst 0, 1) := by decide +kernel
theorem d_S_weighByArea_2 : decode b_S_weighByArea 2 = .ok (.putfield 25, 3) := by decide +kernel
theorem d_S_weighByArea_5 : decode b_S_weighByArea 5 = .ok (.iconst 0, 1) := by decide +kernel
theorem d_S_weighByArea_6 : decode b_S_weighByArea 6 = .ok (.istore_n 3, 1) := by decide +kernel
theorem d_S_weighByArea_7 : decode b_S_weighByArea 7 = .ok (.iload_n 3, 1) := by decide +kernel
theorem d_S_weighByArea_8 : decode b_S_weighByArea 8 = .ok (.aload_n 2, 1) := by decide +kernel
theorem d_S_weighByArea_9 : decode b_S_weighByArea 9 = .ok (.getfield 29, 3) := by decide +kernel
theorem d_S_weighByArea_12 : decode b_S_weighByArea 12 = .ok (.if_icmp .ge 34, 3) := by decide +kernel
theorem d_S_weighByArea_15 : decode b_S_weighByArea 15 = .ok (.aload_n 0, 1) := by decide +kernel
theorem d_S_weighByArea_16 : decode b_S_weighByArea 16 = .ok (.iload_n 3, 1) := by decide +kernel
theorem d_S_weighByArea_17 : decode b_S_weighByArea 17 = .ok (.aload_n 1, 1) := by decide +kernel
theorem d_S_weighByArea_18 : decode b_S_weighByArea 18 = .ok (.getfield 35, 3) := by decide +kernel
theorem d_S_weighByArea_21 : decode b_S_weighByArea 21 = .ok (.aload_n 2, 1) := by decide +kernel
theorem d_S_weighByArea_22 : decode b_S_weighByArea 22 = .ok (.getfield 41, 3) := by decide +kernel
theorem d_S_weighByArea_25 : decode b_S_weighByArea 25 = .ok (.iload_n 3, 1) := by decide +kernel
theorem d_S_weighByArea_26 : decode b_S_weighByArea 26 = .ok (.iaload, 1) := by decide +kernel
theorem d_S_weighByArea_27 : decode b_S_weighByArea 27 = .ok (.aaload, 1) := by decide +kernel
theorem d_S_weighByArea_28 : decode b_S_weighByArea 28 = .ok (.getfield 44, 3) := by decide +kernel
theorem d_S_weighByArea_31 : decode b_S_weighByArea 31 = .ok (.aload_n 2, 1) := by decide +kernel
theorem d_S_weighByArea_32 : decode b_S_weighByArea 32 = .ok (.iload_n 3, 1) := by decide +kernel
theorem d_S_weighByArea_33 : decode b_S_weighByArea 33 = .ok (.invokevirtual 49, 3) := by decide +kernel
theorem d_S_weighByArea_36 : decode b_S_weighByArea 36 = .ok (.imul, 1) := by decide +kernel
theorem d_S_weighByArea_37 : decode b_S_weighByArea 37 = .ok (.invokevirtual 53, 3) := by decide +kernel
theorem d_S_weighByArea_40 : decode b_S_weighByArea 40 = .ok (.iinc 3 1, 3) := by decide +kernel
theorem d_S_weighByArea_43 : decode b_S_weighByArea 43 = .ok (.goto (-36), 3) := by decide +kernel
theorem d_S_weighByArea_46 : decode b_S_weighByArea 46 = .ok (.return_, 1) := by decide +kernel
theorem d_S_weighByWaterArea_0 : decode b_S_weighByWaterArea 0 = .ok (.aload_n 0, 1) := by decide +kernel
theorem d_S_weighByWaterArea_1 : decode b_S_weighByWaterArea 1 = .ok (.lconst 0, 1) := by decide +kernel
theorem d_S_weighByWaterArea_2 : decode b_S_weighByWaterArea 2 = .ok (.putfield 25, 3) := by decide +kernel
theorem d_S_weighByWaterArea_5 : decode b_S_weighByWaterArea 5 = .ok (.iconst 0, 1) := by decide +kernel
theorem d_S_weighByWaterArea_6 : decode b_S_weighByWaterArea 6 = .ok (.istore_n 3, 1) := by decide +kernel
theorem d_S_weighByWaterArea_7 : decode b_S_weighByWaterArea 7 = .ok (.iload_n 3, 1) := by decide +kernel
theorem d_S_weighByWaterArea_8 : decode b_S_weighByWaterArea 8 = .ok (.aload_n 2, 1) := by decide +kernel
theorem d_S_weighByWaterArea_9 : decode b_S_weighByWaterArea 9 = .ok (.getfield 29, 3) := by decide +kernel
theorem d_S_weighByWaterArea_12 : decode b_S_weighByWaterArea 12 = .ok (.if_icmp .ge 34, 3) := by decide +kernel
theorem d_S_weighByWaterArea_15 : decode b_S_weighByWaterArea 15 = .ok (.aload_n 0, 1) := by decide +kernel
theorem d_S_weighByWaterArea_16 : decode b_S_weighByWaterArea 16 = .ok (.iload_n 3, 1) := by decide +kernel
theorem d_S_weighByWaterArea_17 : decode b_S_weighByWaterArea 17 = .ok (.aload_n 1, 1) := by decide +kernel
theorem d_S_weighByWaterArea_18 : decode b_S_weighByWaterArea 18 = .ok (.getfield 35, 3) := by decide +kernel
theorem d_S_weighByWaterArea_21 : decode b_S_weighByWaterArea 21 = .ok (.aload_n 2, 1) := by decide +kernel
theorem d_S_weighByWaterArea_22 : decode b_S_weighByWaterArea 22 = .ok (.getfield 41, 3) := by decide +kernel
theorem d_S_weighByWaterArea_25 : decode b_S_weighByWaterArea 25 = .ok (.iload_n 3, 1) := by decide +kernel
theorem d_S_weighByWaterArea_26 : decode b_S_weighByWaterArea 26 = .ok (.iaload, 1) := by decide +kernel
theorem d_S_weighByWaterArea_27 : decode b_S_weighByWaterArea 27 = .ok (.aaload, 1) := by decide +kernel
theorem d_S_weighByWaterArea_28 : decode b_S_weighByWaterArea 28 = .ok (.getfield 57, 3) := by decide +kernel
theorem d_S_weighByWaterArea_31 : decode b_S_weighByWaterArea 31 = .ok (.aload_n 2, 1) := by decide +kernel
theorem d_S_weighByWaterArea_32 : decode b_S_weighByWaterArea 32 = .ok (.iload_n 3, 1) := by decide +kernel
theorem d_S_weighByWaterArea_33 : decode b_S_weighByWaterArea 33 = .ok (.invokevirtual 49, 3) := by decide +kernel
theorem d_S_weighByWaterArea_36 : decode b_S_weighByWaterArea 36 = .ok (.imul, 1) := by decide +kernel
theorem d_S_weighByWaterArea_37 : decode b_S_weighByWaterArea 37 = .ok (.invokevirtual 53, 3) := by decide +kernel
theorem d_S_weighByWaterArea_40 : decode b_S_weighByWaterArea 40 = .ok (.iinc 3 1, 3) := by decide +kernel
theorem d_S_weighByWaterArea_43 : decode b_S_weighByWaterArea 43 = .ok (.goto (-36), 3) := by decide +kernel
theorem d_S_weighByWaterArea_46 : decode b_S_weighByWaterArea 46 = .ok (.return_, 1) := by decide +kernel
theorem d_S_setWhole_0 : decode b_S_setWhole 0 = .ok (.aload_n 0, 1) := by decide +kernel
theorem d_S_setWhole_1 : decode b_S_setWhole 1 = .ok (.getfield 15, 3) := by decide +kernel
theorem d_S_setWhole_4 : decode b_S_setWhole 4 = .ok (.iload_n 1, 1) := by decide +kernel
theorem d_S_setWhole_5 : decode b_S_setWhole 5 = .ok (.iload_n 2, 1) := by decide +kernel
theorem d_S_setWhole_6 : decode b_S_setWhole 6 = .ok (.i2l, 1) := by decide +kernel
theorem d_S_setWhole_7 : decode b_S_setWhole 7 = .ok (.lastore, 1) := by decide +kernel
theorem d_S_setWhole_8 : decode b_S_setWhole 8 = .ok (.aload_n 0, 1) := by decide +kernel
theorem d_S_setWhole_9 : decode b_S_setWhole 9 = .ok (.getfield 19, 3) := by decide +kernel
theorem d_S_setWhole_12 : decode b_S_setWhole 12 = .ok (.iload_n 1, 1) := by decide +kernel
theorem d_S_setWhole_13 : decode b_S_setWhole 13 = .ok (.lconst 1, 1) := by decide +kernel
theorem d_S_setWhole_14 : decode b_S_setWhole 14 = .ok (.lastore, 1) := by decide +kernel
theorem d_S_setWhole_15 : decode b_S_setWhole 15 = .ok (.aload_n 0, 1) := by decide +kernel
theorem d_S_setWhole_16 : decode b_S_setWhole 16 = .ok (.dup, 1) := by decide +kernel
theorem d_S_setWhole_17 : decode b_S_setWhole 17 = .ok (.getfield 25, 3) := by decide +kernel
theorem d_S_setWhole_20 : decode b_S_setWhole 20 = .ok (.iload_n 2, 1) := by decide +kernel
theorem d_S_setWhole_21 : decode b_S_setWhole 21 = .ok (.i2l, 1) := by decide +kernel
theorem d_S_setWhole_22 : decode b_S_setWhole 22 = .ok (.ladd, 1) := by decide +kernel
theorem d_S_setWhole_23 : decode b_S_setWhole 23 = .ok (.putfield 25, 3) := by decide +kernel
theorem d_S_setWhole_26 : decode b_S_setWhole 26 = .ok (.return_, 1) := by decide +kernel
theorem d_S_weighByMeters_0 : decode b_S_weighByMeters 0 = .ok (.aload_n 0, 1) := by decide +kernel
theorem d_S_weighByMeters_1 : decode b_S_weighByMeters 1 = .ok (.aload_n 3, 1) := by decide +kernel
theorem d_S_weighByMeters_2 : decode b_S_weighByMeters 2 = .ok (.getfield 60, 3) := by decide +kernel
theorem d_S_weighByMeters_5 : decode b_S_weighByMeters 5 = .ok (.putfield 25, 3) := by decide +kernel
theorem d_S_weighByMeters_8 : decode b_S_weighByMeters 8 = .ok (.iconst 0, 1) := by decide +kernel
theorem d_S_weighByMeters_9 : decode b_S_weighByMeters 9 = .ok (.istore 5, 2) := by decide +kernel
theorem d_S_weighByMeters_11 : decode b_S_weighByMeters 11 = .ok (.iload 5, 2) := by decide +kernel
theorem d_S_weighByMeters_13 : decode b_S_weighByMeters 13 = .ok (.aload_n 2, 1) := by decide +kernel
theorem d_S_weighByMeters_14 : decode b_S_weighByMeters 14 = .ok (.getfield 29, 3) := by decide +kernel
theorem d_S_weighByMeters_17 : decode b_S_weighByMeters 17 = .ok (.if_icmp .ge 108, 3) := by decide +kernel
theorem d_S_weighByMeters_20 : decode b_S_weighByMeters 20 = .ok (.aload_n 0, 1) := by decide +kernel
theorem d_S_weighByMeters_21 : decode b_S_weighByMeters 21 = .ok (.getfield 15, 3) := by decide +kernel
theorem d_S_weighByMeters_24 : decode b_S_weighByMeters 24 = .ok (.iload 5, 2) := by decide +kernel
theorem d_S_weighByMeters_26 : decode b_S_weighByMeters 26 = .ok (.lconst 0, 1) := by decide +kernel
theorem d_S_weighByMeters_27 : decode b_S_weighByMeters 27 = .ok (.lastore, 1) := by decide +kernel
theorem d_S_weighByMeters_28 : decode b_S_weighByMeters 28 = .ok (.aload_n 0, 1) := by decide +kernel
theorem d_S_weighByMeters_29 : decode b_S_weighByMeters 29 = .ok (.getfield 19, 3) := by decide +kernel
theorem d_S_weighByMeters_32 : decode b_S_weighByMeters 32 = .ok (.iload 5, 2) := by decide +kernel
theorem d_S_weighByMeters_34 : decode b_S_weighByMeters 34 = .ok (.lconst 1, 1) := by decide +kernel
theorem d_S_weighByMeters_35 : decode b_S_weighByMeters 35 = .ok (.lastore, 1) := by decide +kernel
theorem d_S_weighByMeters_36 : decode b_S_weighByMeters 36 = .ok (.aload_n 2, 1) := by decide +kernel
theorem d_S_weighByMeters_37 : decode b_S_weighByMeters 37 = .ok (.getfield 41, 3) := by decide +kernel
theorem d_S_weighByMeters_40 : decode b_S_weighByMeters 40 = .ok (.iload 5, 2) := by decide +kernel
theorem d_S_weighByMeters_42 : decode b_S_weighByMeters 42 = .ok (.iaload, 1) := by decide +kernel
theorem d_S_weighByMeters_43 : decode b_S_weighByMeters 43 = .ok (.istore 6, 2) := by decide +kernel
theorem d_S_weighByMeters_45 : decode b_S_weighByMeters 45 = .ok (.aload_n 1, 1) := by decide +kernel
theorem d_S_weighByMeters_46 : decode b_S_weighByMeters 46 = .ok (.getfield 35, 3) := by decide +kernel
theorem d_S_weighByMeters_49 : decode b_S_weighByMeters 49 = .ok (.iload 6, 2) := by decide +kernel
theorem d_S_weighByMeters_51 : decode b_S_weighByMeters 51 = .ok (.aaload, 1) := by decide +kernel
theorem d_S_weighByMeters_52 : decode b_S_weighByMeters 52 = .ok (.astore 7, 2) := by decide +kernel
theorem d_S_weighByMeters_54 : decode b_S_weighByMeters 54 = .ok (.iconst 0, 1) := by decide +kernel
theorem d_S_weighByMeters_55 : decode b_S_weighByMeters 55 = .ok (.istore 8, 2) := by decide +kernel
theorem d_S_weighByMeters_57 : decode b_S_weighByMeters 57 = .ok (.iconst 1, 1) := by decide +kernel
theorem d_S_weighByMeters_58 : decode b_S_weighByMeters 58 = .ok (.istore 9, 2) := by decide +kernel
theorem d_S_weighByMeters_60 : decode b_S_weighByMeters 60 = .ok (.iload 9, 2) := by decide +kernel
theorem d_S_weighByMeters_62 : decode b_S_weighByMeters 62 = .ok (.bipush 12, 2) := by decide +kernel
theorem d_S_weighByMeters_64 : decode b_S_weighByMeters 64 = .ok (.if_icmp .gt 55, 3) := by decide +kernel
theorem d_S_weighByMeters_67 : decode b_S_weighByMeters 67 = .ok (.aload_n 3, 1) := by decide +kernel
theorem d_S_weighByMeters_68 : decode b_S_weighByMeters 68 = .ok (.aload 7, 2) := by decide +kernel
theorem d_S_weighByMeters_70 : decode b_S_weighByMeters 70 = .ok (.iload 6, 2) := by decide +kernel
theorem d_S_weighByMeters_72 : decode b_S_weighByMeters 72 = .ok (.iload 9, 2) := by decide +kernel
theorem d_S_weighByMeters_74 : decode b_S_weighByMeters 74 = .ok (.invokevirtual 65, 3) := by decide +kernel
theorem d_S_weighByMeters_77 : decode b_S_weighByMeters 77 = .ok (.ifCond .eq 36, 3) := by decide +kernel
theorem d_S_weighByMeters_80 : decode b_S_weighByMeters 80 = .ok (.aload_n 3, 1) := by decide +kernel
theorem d_S_weighByMeters_81 : decode b_S_weighByMeters 81 = .ok (.aload 7, 2) := by decide +kernel
theorem d_S_weighByMeters_83 : decode b_S_weighByMeters 83 = .ok (.iload 6, 2) := by decide +kernel
theorem d_S_weighByMeters_85 : decode b_S_weighByMeters 85 = .ok (.iload 8, 2) := by decide +kernel
theorem d_S_weighByMeters_87 : decode b_S_weighByMeters 87 = .ok (.iload 9, 2) := by decide +kernel
theorem d_S_weighByMeters_89 : decode b_S_weighByMeters 89 = .ok (.invokevirtual 69, 3) := by decide +kernel
theorem d_S_weighByMeters_92 : decode b_S_weighByMeters 92 = .ok (.lstore 10, 2) := by decide +kernel
theorem d_S_weighByMeters_94 : decode b_S_weighByMeters 94 = .ok (.aload_n 0, 1) := by decide +kernel
theorem d_S_weighByMeters_95 : decode b_S_weighByMeters 95 = .ok (.aload_n 2, 1) := by decide +kernel
theorem d_S_weighByMeters_96 : decode b_S_weighByMeters 96 = .ok (.iload 5, 2) := by decide +kernel
theorem d_S_weighByMeters_98 : decode b_S_weighByMeters 98 = .ok (.iload 8, 2) := by decide +kernel
theorem d_S_weighByMeters_100 : decode b_S_weighByMeters 100 = .ok (.iload 9, 2) := by decide +kernel
theorem d_S_weighByMeters_102 : decode b_S_weighByMeters 102 = .ok (.lload 10, 2) := by decide +kernel
theorem d_S_weighByMeters_104 : decode b_S_weighByMeters 104 = .ok (.aload 4, 2) := by decide +kernel
theorem d_S_weighByMeters_106 : decode b_S_weighByMeters 106 = .ok (.invokevirtual 73, 3) := by decide +kernel
theorem d_S_weighByMeters_109 : decode b_S_weighByMeters 109 = .ok (.iload 9, 2) := by decide +kernel
theorem d_S_weighByMeters_111 : decode b_S_weighByMeters 111 = .ok (.istore 8, 2) := by decide +kernel
theorem d_S_weighByMeters_113 : decode b_S_weighByMeters 113 = .ok (.iinc 9 1, 3) := by decide +kernel
theorem d_S_weighByMeters_116 : decode b_S_weighByMeters 116 = .ok (.goto (-56), 3) := by decide +kernel
theorem d_S_weighByMeters_119 : decode b_S_weighByMeters 119 = .ok (.iinc 5 1, 3) := by decide +kernel
theorem d_S_weighByMeters_122 : decode b_S_weighByMeters 122 = .ok (.goto (-111), 3) := by decide +kernel
theorem d_S_weighByMeters_125 : decode b_S_weighByMeters 125 = .ok (.return_, 1) := by decide +kernel
theorem d_S_addStretch_0 : decode b_S_addStretch 0 = .ok (.iload_n 3, 1) := by decide +kernel
theorem d_S_addStretch_1 : decode b_S_addStretch 1 = .ok (.aload_n 1, 1) := by decide +kernel
theorem d_S_addStretch_2 : decode b_S_addStretch 2 = .ok (.getfield 77, 3) := by decide +kernel
theorem d_S_addStretch_5 : decode b_S_addStretch 5 = .ok (.iload_n 2, 1) := by decide +kernel
theorem d_S_addStretch_6 : decode b_S_addStretch 6 = .ok (.iaload, 1) := by decide +kernel
theorem d_S_addStretch_7 : decode b_S_addStretch 7 = .ok (.invokestatic 80, 3) := by decide +kernel
theorem d_S_addStretch_10 : decode b_S_addStretch 10 = .ok (.istore 8, 2) := by decide +kernel
theorem d_S_addStretch_12 : decode b_S_addStretch 12 = .ok (.iload 4, 2) := by decide +kernel
theorem d_S_addStretch_14 : decode b_S_addStretch 14 = .ok (.aload_n 1, 1) := by decide +kernel
theorem d_S_addStretch_15 : decode b_S_addStretch 15 = .ok (.getfield 86, 3) := by decide +kernel
theorem d_S_addStretch_18 : decode b_S_addStretch 18 = .ok (.iload_n 2, 1) := by decide +kernel
theorem d_S_addStretch_19 : decode b_S_addStretch 19 = .ok (.iaload, 1) := by decide +kernel
theorem d_S_addStretch_20 : decode b_S_addStretch 20 = .ok (.invokestatic 89, 3) := by decide +kernel
theorem d_S_addStretch_23 : decode b_S_addStretch 23 = .ok (.istore 9, 2) := by decide +kernel
theorem d_S_addStretch_25 : decode b_S_addStretch 25 = .ok (.iload 8, 2) := by decide +kernel
theorem d_S_addStretch_27 : decode b_S_addStretch 27 = .ok (.iload 9, 2) := by decide +kernel
theorem d_S_addStretch_29 : decode b_S_addStretch 29 = .ok (.if_icmp .lt 4, 3) := by decide +kernel
theorem d_S_addStretch_32 : decode b_S_addStretch 32 = .ok (.return_, 1) := by decide +kernel
theorem d_S_addStretch_33 : decode b_S_addStretch 33 = .ok (.iload 8, 2) := by decide +kernel
theorem d_S_addStretch_35 : decode b_S_addStretch 35 = .ok (.iload_n 3, 1) := by decide +kernel
theorem d_S_addStretch_36 : decode b_S_addStretch 36 = .ok (.if_icmp .ne 29, 3) := by decide +kernel
theorem d_S_addStretch_39 : decode b_S_addStretch 39 = .ok (.iload 9, 2) := by decide +kernel
theorem d_S_addStretch_41 : decode b_S_addStretch 41 = .ok (.iload 4, 2) := by decide +kernel
theorem d_S_addStretch_43 : decode b_S_addStretch 43 = .ok (.if_icmp .ne 22, 3) := by decide +kernel
theorem d_S_addStretch_46 : decode b_S_addStretch 46 = .ok (.aload_n 0, 1) := by decide +kernel
theorem d_S_addStretch_47 : decode b_S_addStretch 47 = .ok (.getfield 15, 3) := by decide +kernel
theorem d_S_addStretch_50 : decode b_S_addStretch 50 = .ok (.iload_n 2, 1) := by decide +kernel
theorem d_S_addStretch_51 : decode b_S_addStretch 51 = .ok (.dup2, 1) := by decide +kernel
theorem d_S_addStretch_52 : decode b_S_addStretch 52 = .ok (.laload, 1) := by decide +kernel
theorem d_S_addStretch_53 : decode b_S_addStretch 53 = .ok (.lload 5, 2) := by decide +kernel
theorem d_S_addStretch_55 : decode b_S_addStretch 55 = .ok (.aload_n 0, 1) := by decide +kernel
theorem d_S_addStretch_56 : decode b_S_addStretch 56 = .ok (.getfield 19, 3) := by decide +kernel
theorem d_S_addStretch_59 : decode b_S_addStretch 59 = .ok (.iload_n 2, 1) := by decide +kernel
theorem d_S_addStretch_60 : decode b_S_addStretch 60 = .ok (.laload, 1) := by decide +kernel
theorem d_S_addStretch_61 : decode b_S_addStretch 61 = .ok (.lmul, 1) := by decide +kernel
theorem d_S_addStretch_62 : decode b_S_addStretch 62 = .ok (.ladd, 1) := by decide +kernel
theorem d_S_addStretch_63 : decode b_S_addStretch 63 = .ok (.lastore, 1) := by decide +kernel
theorem d_S_addStretch_64 : decode b_S_addStretch 64 = .ok (.return_, 1) := by decide +kernel
theorem d_S_addStretch_65 : decode b_S_addStretch 65 = .ok (.aload 7, 2) := by decide +kernel
theorem d_S_addStretch_67 : decode b_S_addStretch 67 = .ok (.iload 8, 2) := by decide +kernel
theorem d_S_addStretch_69 : decode b_S_addStretch 69 = .ok (.iload 9, 2) := by decide +kernel
theorem d_S_addStretch_71 : decode b_S_addStretch 71 = .ok (.invokestatic 92, 3) := by decide +kernel
theorem d_S_addStretch_74 : decode b_S_addStretch 74 = .ok (.i2l, 1) := by decide +kernel
theorem d_S_addStretch_75 : decode b_S_addStretch 75 = .ok (.lstore 10, 2) := by decide +kernel
theorem d_S_addStretch_77 : decode b_S_addStretch 77 = .ok (.aload 7, 2) := by decide +kernel
theorem d_S_addStretch_79 : decode b_S_addStretch 79 = .ok (.iload_n 3, 1) := by decide +kernel
theorem d_S_addStretch_80 : decode b_S_addStretch 80 = .ok (.iload 4, 2) := by decide +kernel
theorem d_S_addStretch_82 : decode b_S_addStretch 82 = .ok (.invokestatic 92, 3) := by decide +kernel
theorem d_S_addStretch_85 : decode b_S_addStretch 85 = .ok (.i2l, 1) := by decide +kernel
theorem d_S_addStretch_86 : decode b_S_addStretch 86 = .ok (.lstore 12, 2) := by decide +kernel
theorem d_S_addStretch_88 : decode b_S_addStretch 88 = .ok (.lload 12, 2) := by decide +kernel
theorem d_S_addStretch_90 : decode b_S_addStretch 90 = .ok (.lconst 0, 1) := by decide +kernel
theorem d_S_addStretch_91 : decode b_S_addStretch 91 = .ok (.lcmp, 1) := by decide +kernel
theorem d_S_addStretch_92 : decode b_S_addStretch 92 = .ok (.ifCond .ne 18, 3) := by decide +kernel
theorem d_S_addStretch_95 : decode b_S_addStretch 95 = .ok (.iload 9, 2) := by decide +kernel
theorem d_S_addStretch_97 : decode b_S_addStretch 97 = .ok (.iload 8, 2) := by decide +kernel
theorem d_S_addStretch_99 : decode b_S_addStretch 99 = .ok (.isub, 1) := by decide +kernel
theorem d_S_addStretch_100 : decode b_S_addStretch 100 = .ok (.i2l, 1) := by decide +kernel
theorem d_S_addStretch_101 : decode b_S_addStretch 101 = .ok (.lstore 10, 2) := by decide +kernel
theorem d_S_addStretch_103 : decode b_S_addStretch 103 = .ok (.iload 4, 2) := by decide +kernel
theorem d_S_addStretch_105 : decode b_S_addStretch 105 = .ok (.iload_n 3, 1) := by decide +kernel
theorem d_S_addStretch_106 : decode b_S_addStretch 106 = .ok (.isub, 1) := by decide +kernel
theorem d_S_addStretch_107 : decode b_S_addStretch 107 = .ok (.i2l, 1) := by decide +kernel
theorem d_S_addStretch_108 : decode b_S_addStretch 108 = .ok (.lstore 12, 2) := by decide +kernel
theorem d_S_addStretch_110 : decode b_S_addStretch 110 = .ok (.aload_n 0, 1) := by decide +kernel
theorem d_S_addStretch_111 : decode b_S_addStretch 111 = .ok (.getfield 15, 3) := by decide +kernel
theorem d_S_addStretch_114 : decode b_S_addStretch 114 = .ok (.iload_n 2, 1) := by decide +kernel
theorem d_S_addStretch_115 : decode b_S_addStretch 115 = .ok (.aload_n 0, 1) := by decide +kernel
theorem d_S_addStretch_116 : decode b_S_addStretch 116 = .ok (.getfield 15, 3) := by decide +kernel
theorem d_S_addStretch_119 : decode b_S_addStretch 119 = .ok (.iload_n 2, 1) := by decide +kernel
theorem d_S_addStretch_120 : decode b_S_addStretch 120 = .ok (.laload, 1) := by decide +kernel
theorem d_S_addStretch_121 : decode b_S_addStretch 121 = .ok (.lload 12, 2) := by decide +kernel
theorem d_S_addStretch_123 : decode b_S_addStretch 123 = .ok (.lmul, 1) := by decide +kernel
theorem d_S_addStretch_124 : decode b_S_addStretch 124 = .ok (.lload 5, 2) := by decide +kernel
theorem d_S_addStretch_126 : decode b_S_addStretch 126 = .ok (.lload 10, 2) := by decide +kernel
theorem d_S_addStretch_128 : decode b_S_addStretch 128 = .ok (.lmul, 1) := by decide +kernel
theorem d_S_addStretch_129 : decode b_S_addStretch 129 = .ok (.aload_n 0, 1) := by decide +kernel
theorem d_S_addStretch_130 : decode b_S_addStretch 130 = .ok (.getfield 19, 3) := by decide +kernel
theorem d_S_addStretch_133 : decode b_S_addStretch 133 = .ok (.iload_n 2, 1) := by decide +kernel
theorem d_S_addStretch_134 : decode b_S_addStretch 134 = .ok (.laload, 1) := by decide +kernel
theorem d_S_addStretch_135 : decode b_S_addStretch 135 = .ok (.lmul, 1) := by decide +kernel
theorem d_S_addStretch_136 : decode b_S_addStretch 136 = .ok (.ladd, 1) := by decide +kernel
theorem d_S_addStretch_137 : decode b_S_addStretch 137 = .ok (.lastore, 1) := by decide +kernel
theorem d_S_addStretch_138 : decode b_S_addStretch 138 = .ok (.aload_n 0, 1) := by decide +kernel
theorem d_S_addStretch_139 : decode b_S_addStretch 139 = .ok (.getfield 19, 3) := by decide +kernel
theorem d_S_addStretch_142 : decode b_S_addStretch 142 = .ok (.iload_n 2, 1) := by decide +kernel
theorem d_S_addStretch_143 : decode b_S_addStretch 143 = .ok (.dup2, 1) := by decide +kernel
theorem d_S_addStretch_144 : decode b_S_addStretch 144 = .ok (.laload, 1) := by decide +kernel
theorem d_S_addStretch_145 : decode b_S_addStretch 145 = .ok (.lload 12, 2) := by decide +kernel
theorem d_S_addStretch_147 : decode b_S_addStretch 147 = .ok (.lmul, 1) := by decide +kernel
theorem d_S_addStretch_148 : decode b_S_addStretch 148 = .ok (.lastore, 1) := by decide +kernel
theorem d_S_addStretch_149 : decode b_S_addStretch 149 = .ok (.return_, 1) := by decide +kernel
theorem d_S_sumBetween_0 : decode b_S_sumBetween 0 = .ok (.iconst 0, 1) := by decide +kernel
theorem d_S_sumBetween_1 : decode b_S_sumBetween 1 = .ok (.istore_n 3, 1) := by decide +kernel
theorem d_S_sumBetween_2 : decode b_S_sumBetween 2 = .ok (.iload_n 1, 1) := by decide +kernel
theorem d_S_sumBetween_3 : decode b_S_sumBetween 3 = .ok (.istore 4, 2) := by decide +kernel
theorem d_S_sumBetween_5 : decode b_S_sumBetween 5 = .ok (.iload 4, 2) := by decide +kernel
theorem d_S_sumBetween_7 : decode b_S_sumBetween 7 = .ok (.iload_n 2, 1) := by decide +kernel
theorem d_S_sumBetween_8 : decode b_S_sumBetween 8 = .ok (.if_icmp .ge 16, 3) := by decide +kernel
theorem d_S_sumBetween_11 : decode b_S_sumBetween 11 = .ok (.iload_n 3, 1) := by decide +kernel
theorem d_S_sumBetween_12 : decode b_S_sumBetween 12 = .ok (.aload_n 0, 1) := by decide +kernel
theorem d_S_sumBetween_13 : decode b_S_sumBetween 13 = .ok (.iload 4, 2) := by decide +kernel
theorem d_S_sumBetween_15 : decode b_S_sumBetween 15 = .ok (.iaload, 1) := by decide +kernel
theorem d_S_sumBetween_16 : decode b_S_sumBetween 16 = .ok (.iadd, 1) := by decide +kernel
theorem d_S_sumBetween_17 : decode b_S_sumBetween 17 = .ok (.istore_n 3, 1) := by decide +kernel
theorem d_S_sumBetween_18 : decode b_S_sumBetween 18 = .ok (.iinc 4 1, 3) := by decide +kernel
theorem d_S_sumBetween_21 : decode b_S_sumBetween 21 = .ok (.goto (-16), 3) := by decide +kernel
theorem d_S_sumBetween_24 : decode b_S_sumBetween 24 = .ok (.iload_n 3, 1) := by decide +kernel
theorem d_S_sumBetween_25 : decode b_S_sumBetween 25 = .ok (.ireturn, 1) := by decide +kernel
theorem d_S_split_0 : decode b_S_split 0 = .ok (.iload_n 1, 1) := by decide +kernel
theorem d_S_split_1 : decode b_S_split 1 = .ok (.istore_n 3, 1) := by decide +kernel
theorem d_S_split_2 : decode b_S_split 2 = .ok (.iconst 0, 1) := by decide +kernel
theorem d_S_split_3 : decode b_S_split 3 = .ok (.istore 4, 2) := by decide +kernel
theorem d_S_split_5 : decode b_S_split 5 = .ok (.iload 4, 2) := by decide +kernel
theorem d_S_split_7 : decode b_S_split 7 = .ok (.iload_n 2, 1) := by decide +kernel
theorem d_S_split_8 : decode b_S_split 8 = .ok (.if_icmp .ge 26, 3) := by decide +kernel
theorem d_S_split_11 : decode b_S_split 11 = .ok (.aload_n 0, 1) := by decide +kernel
theorem d_S_split_12 : decode b_S_split 12 = .ok (.iload_n 1, 1) := by decide +kernel
theorem d_S_split_13 : decode b_S_split 13 = .ok (.iload 4, 2) := by decide +kernel
theorem d_S_split_15 : decode b_S_split 15 = .ok (.invokevirtual 96, 3) := by decide +kernel
theorem d_S_split_18 : decode b_S_split 18 = .ok (.iload_n 3, 1) := by decide +kernel
theorem d_S_split_19 : decode b_S_split 19 = .ok (.aload_n 0, 1) := by decide +kernel
theorem d_S_split_20 : decode b_S_split 20 = .ok (.getfield 9, 3) := by decide +kernel
theorem d_S_split_23 : decode b_S_split 23 = .ok (.iload 4, 2) := by decide +kernel
theorem d_S_split_25 : decode b_S_split 25 = .ok (.iaload, 1) := by decide +kernel
theorem d_S_split_26 : decode b_S_split 26 = .ok (.isub, 1) := by decide +kernel
theorem d_S_split_27 : decode b_S_split 27 = .ok (.istore_n 3, 1) := by decide +kernel
theorem d_S_split_28 : decode b_S_split 28 = .ok (.iinc 4 1, 3) := by decide +kernel
theorem d_S_split_31 : decode b_S_split 31 = .ok (.goto (-26), 3) := by decide +kernel
theorem d_S_split_34 : decode b_S_split 34 = .ok (.iconst 0, 1) := by decide +kernel
theorem d_S_split_35 : decode b_S_split 35 = .ok (.istore 4, 2) := by decide +kernel
theorem d_S_split_37 : decode b_S_split 37 = .ok (.iload 4, 2) := by decide +kernel
theorem d_S_split_39 : decode b_S_split 39 = .ok (.iload_n 2, 1) := by decide +kernel
theorem d_S_split_40 : decode b_S_split 40 = .ok (.if_icmp .ge 42, 3) := by decide +kernel
theorem d_S_split_43 : decode b_S_split 43 = .ok (.iload_n 3, 1) := by decide +kernel
theorem d_S_split_44 : decode b_S_split 44 = .ok (.ifCond .le 38, 3) := by decide +kernel
theorem d_S_split_47 : decode b_S_split 47 = .ok (.aload_n 0, 1) := by decide +kernel
theorem d_S_split_48 : decode b_S_split 48 = .ok (.iload_n 2, 1) := by decide +kernel
theorem d_S_split_49 : decode b_S_split 49 = .ok (.invokevirtual 99, 3) := by decide +kernel
theorem d_S_split_52 : decode b_S_split 52 = .ok (.istore 5, 2) := by decide +kernel
theorem d_S_split_54 : decode b_S_split 54 = .ok (.aload_n 0, 1) := by decide +kernel
theorem d_S_split_55 : decode b_S_split 55 = .ok (.getfield 9, 3) := by decide +kernel
theorem d_S_split_58 : decode b_S_split 58 = .ok (.iload 5, 2) := by decide +kernel
theorem d_S_split_60 : decode b_S_split 60 = .ok (.dup2, 1) := by decide +kernel
theorem d_S_split_61 : decode b_S_split 61 = .ok (.iaload, 1) := by decide +kernel
theorem d_S_split_62 : decode b_S_split 62 = .ok (.iconst 1, 1) := by decide +kernel
theorem d_S_split_63 : decode b_S_split 63 = .ok (.iadd, 1) := by decide +kernel
theorem d_S_split_64 : decode b_S_split 64 = .ok (.iastore, 1) := by decide +kernel
theorem d_S_split_65 : decode b_S_split 65 = .ok (.aload_n 0, 1) := by decide +kernel
theorem d_S_split_66 : decode b_S_split 66 = .ok (.getfield 22, 3) := by decide +kernel
theorem d_S_split_69 : decode b_S_split 69 = .ok (.iload 5, 2) := by decide +kernel
theorem d_S_split_71 : decode b_S_split 71 = .ok (.lconst 0, 1) := by decide +kernel
theorem d_S_split_72 : decode b_S_split 72 = .ok (.lastore, 1) := by decide +kernel
theorem d_S_split_73 : decode b_S_split 73 = .ok (.iinc 3 (-1), 3) := by decide +kernel
theorem d_S_split_76 : decode b_S_split 76 = .ok (.iinc 4 1, 3) := by decide +kernel
theorem d_S_split_79 : decode b_S_split 79 = .ok (.goto (-42), 3) := by decide +kernel
theorem d_S_split_82 : decode b_S_split 82 = .ok (.return_, 1) := by decide +kernel
theorem d_S_roundDown_0 : decode b_S_roundDown 0 = .ok (.aload_n 0, 1) := by decide +kernel
theorem d_S_roundDown_1 : decode b_S_roundDown 1 = .ok (.getfield 25, 3) := by decide +kernel
theorem d_S_roundDown_4 : decode b_S_roundDown 4 = .ok (.aload_n 0, 1) := by decide +kernel
theorem d_S_roundDown_5 : decode b_S_roundDown 5 = .ok (.getfield 19, 3) := by decide +kernel
theorem d_S_roundDown_8 : decode b_S_roundDown 8 = .ok (.iload_n 2, 1) := by decide +kernel
theorem d_S_roundDown_9 : decode b_S_roundDown 9 = .ok (.laload, 1) := by decide +kernel
theorem d_S_roundDown_10 : decode b_S_roundDown 10 = .ok (.lmul, 1) := by decide +kernel
theorem d_S_roundDown_11 : decode b_S_roundDown 11 = .ok (.lstore_n 3, 1) := by decide +kernel
theorem d_S_roundDown_12 : decode b_S_roundDown 12 = .ok (.iload_n 1, 1) := by decide +kernel
theorem d_S_roundDown_13 : decode b_S_roundDown 13 = .ok (.i2l, 1) := by decide +kernel
theorem d_S_roundDown_14 : decode b_S_roundDown 14 = .ok (.aload_n 0, 1) := by decide +kernel
theorem d_S_roundDown_15 : decode b_S_roundDown 15 = .ok (.getfield 15, 3) := by decide +kernel
theorem d_S_roundDown_18 : decode b_S_roundDown 18 = .ok (.iload_n 2, 1) := by decide +kernel
theorem d_S_roundDown_19 : decode b_S_roundDown 19 = .ok (.laload, 1) := by decide +kernel
theorem d_S_roundDown_20 : decode b_S_roundDown 20 = .ok (.lmul, 1) := by decide +kernel
theorem d_S_roundDown_21 : decode b_S_roundDown 21 = .ok (.lstore 5, 2) := by decide +kernel
theorem d_S_roundDown_23 : decode b_S_roundDown 23 = .ok (.aload_n 0, 1) := by decide +kernel
theorem d_S_roundDown_24 : decode b_S_roundDown 24 = .ok (.getfield 9, 3) := by decide +kernel
theorem d_S_roundDown_27 : decode b_S_roundDown 27 = .ok (.iload_n 2, 1) := by decide +kernel
theorem d_S_roundDown_28 : decode b_S_roundDown 28 = .ok (.lload_n 3, 1) := by decide +kernel
theorem d_S_roundDown_29 : decode b_S_roundDown 29 = .ok (.lconst 0, 1) := by decide +kernel
theorem d_S_roundDown_30 : decode b_S_roundDown 30 = .ok (.lcmp, 1) := by decide +kernel
theorem d_S_roundDown_31 : decode b_S_roundDown 31 = .ok (.ifCond .le 11, 3) := by decide +kernel
theorem d_S_roundDown_34 : decode b_S_roundDown 34 = .ok (.lload 5, 2) := by decide +kernel
theorem d_S_roundDown_36 : decode b_S_roundDown 36 = .ok (.lload_n 3, 1) := by decide +kernel
theorem d_S_roundDown_37 : decode b_S_roundDown 37 = .ok (.ldiv, 1) := by decide +kernel
theorem d_S_roundDown_38 : decode b_S_roundDown 38 = .ok (.l2i, 1) := by decide +kernel
theorem d_S_roundDown_39 : decode b_S_roundDown 39 = .ok (.goto 4, 3) := by decide +kernel
theorem d_S_roundDown_42 : decode b_S_roundDown 42 = .ok (.iconst 0, 1) := by decide +kernel
theorem d_S_roundDown_43 : decode b_S_roundDown 43 = .ok (.iastore, 1) := by decide +kernel
theorem d_S_roundDown_44 : decode b_S_roundDown 44 = .ok (.aload_n 0, 1) := by decide +kernel
theorem d_S_roundDown_45 : decode b_S_roundDown 45 = .ok (.getfield 22, 3) := by decide +kernel
theorem d_S_roundDown_48 : decode b_S_roundDown 48 = .ok (.iload_n 2, 1) := by decide +kernel
theorem d_S_roundDown_49 : decode b_S_roundDown 49 = .ok (.lload_n 3, 1) := by decide +kernel
theorem d_S_roundDown_50 : decode b_S_roundDown 50 = .ok (.lconst 0, 1) := by decide +kernel
theorem d_S_roundDown_51 : decode b_S_roundDown 51 = .ok (.lcmp, 1) := by decide +kernel
theorem d_S_roundDown_52 : decode b_S_roundDown 52 = .ok (.ifCond .le 10, 3) := by decide +kernel
theorem d_S_roundDown_55 : decode b_S_roundDown 55 = .ok (.lload 5, 2) := by decide +kernel
theorem d_S_roundDown_57 : decode b_S_roundDown 57 = .ok (.lload_n 3, 1) := by decide +kernel
theorem d_S_roundDown_58 : decode b_S_roundDown 58 = .ok (.lrem, 1) := by decide +kernel
theorem d_S_roundDown_59 : decode b_S_roundDown 59 = .ok (.goto 4, 3) := by decide +kernel
theorem d_S_roundDown_62 : decode b_S_roundDown 62 = .ok (.lconst 0, 1) := by decide +kernel
theorem d_S_roundDown_63 : decode b_S_roundDown 63 = .ok (.lastore, 1) := by decide +kernel
theorem d_S_roundDown_64 : decode b_S_roundDown 64 = .ok (.return_, 1) := by decide +kernel
theorem d_S_greatestCutOff_0 : decode b_S_greatestCutOff 0 = .ok (.iconst 0, 1) := by decide +kernel
theorem d_S_greatestCutOff_1 : decode b_S_greatestCutOff 1 = .ok (.istore_n 2, 1) := by decide +kernel
theorem d_S_greatestCutOff_2 : decode b_S_greatestCutOff 2 = .ok (.iconst 1, 1) := by decide +kernel
theorem d_S_greatestCutOff_3 : decode b_S_greatestCutOff 3 = .ok (.istore_n 3, 1) := by decide +kernel
theorem d_S_greatestCutOff_4 : decode b_S_greatestCutOff 4 = .ok (.iload_n 3, 1) := by decide +kernel
theorem d_S_greatestCutOff_5 : decode b_S_greatestCutOff 5 = .ok (.iload_n 1, 1) := by decide +kernel
theorem d_S_greatestCutOff_6 : decode b_S_greatestCutOff 6 = .ok (.if_icmp .ge 41, 3) := by decide +kernel
theorem d_S_greatestCutOff_9 : decode b_S_greatestCutOff 9 = .ok (.aload_n 0, 1) := by decide +kernel
theorem d_S_greatestCutOff_10 : decode b_S_greatestCutOff 10 = .ok (.getfield 22, 3) := by decide +kernel
theorem d_S_greatestCutOff_13 : decode b_S_greatestCutOff 13 = .ok (.iload_n 3, 1) := by decide +kernel
theorem d_S_greatestCutOff_14 : decode b_S_greatestCutOff 14 = .ok (.laload, 1) := by decide +kernel
theorem d_S_greatestCutOff_15 : decode b_S_greatestCutOff 15 = .ok (.aload_n 0, 1) := by decide +kernel
theorem d_S_greatestCutOff_16 : decode b_S_greatestCutOff 16 = .ok (.getfield 19, 3) := by decide +kernel
theorem d_S_greatestCutOff_19 : decode b_S_greatestCutOff 19 = .ok (.iload_n 2, 1) := by decide +kernel
theorem d_S_greatestCutOff_20 : decode b_S_greatestCutOff 20 = .ok (.laload, 1) := by decide +kernel
theorem d_S_greatestCutOff_21 : decode b_S_greatestCutOff 21 = .ok (.lmul, 1) := by decide +kernel
theorem d_S_greatestCutOff_22 : decode b_S_greatestCutOff 22 = .ok (.aload_n 0, 1) := by decide +kernel
theorem d_S_greatestCutOff_23 : decode b_S_greatestCutOff 23 = .ok (.getfield 22, 3) := by decide +kernel
theorem d_S_greatestCutOff_26 : decode b_S_greatestCutOff 26 = .ok (.iload_n 2, 1) := by decide +kernel
theorem d_S_greatestCutOff_27 : decode b_S_greatestCutOff 27 = .ok (.laload, 1) := by decide +kernel
theorem d_S_greatestCutOff_28 : decode b_S_greatestCutOff 28 = .ok (.aload_n 0, 1) := by decide +kernel
theorem d_S_greatestCutOff_29 : decode b_S_greatestCutOff 29 = .ok (.getfield 19, 3) := by decide +kernel
theorem d_S_greatestCutOff_32 : decode b_S_greatestCutOff 32 = .ok (.iload_n 3, 1) := by decide +kernel
theorem d_S_greatestCutOff_33 : decode b_S_greatestCutOff 33 = .ok (.laload, 1) := by decide +kernel
theorem d_S_greatestCutOff_34 : decode b_S_greatestCutOff 34 = .ok (.lmul, 1) := by decide +kernel
theorem d_S_greatestCutOff_35 : decode b_S_greatestCutOff 35 = .ok (.lcmp, 1) := by decide +kernel
theorem d_S_greatestCutOff_36 : decode b_S_greatestCutOff 36 = .ok (.ifCond .le 5, 3) := by decide +kernel
theorem d_S_greatestCutOff_39 : decode b_S_greatestCutOff 39 = .ok (.iload_n 3, 1) := by decide +kernel
theorem d_S_greatestCutOff_40 : decode b_S_greatestCutOff 40 = .ok (.istore_n 2, 1) := by decide +kernel
theorem d_S_greatestCutOff_41 : decode b_S_greatestCutOff 41 = .ok (.iinc 3 1, 3) := by decide +kernel
theorem d_S_greatestCutOff_44 : decode b_S_greatestCutOff 44 = .ok (.goto (-40), 3) := by decide +kernel
theorem d_S_greatestCutOff_47 : decode b_S_greatestCutOff 47 = .ok (.iload_n 2, 1) := by decide +kernel
theorem d_S_greatestCutOff_48 : decode b_S_greatestCutOff 48 = .ok (.ireturn, 1) := by decide +kernel
theorem d_P_init_0 : decode b_P_init 0 = .ok (.aload_n 0, 1) := by decide +kernel
theorem d_P_init_1 : decode b_P_init 1 = .ok (.invokespecial 3, 3) := by decide +kernel
theorem d_P_init_4 : decode b_P_init 4 = .ok (.aload_n 0, 1) := by decide +kernel
theorem d_P_init_5 : decode b_P_init 5 = .ok (.bipush 72, 2) := by decide +kernel
theorem d_P_init_7 : decode b_P_init 7 = .ok (.newarray .int, 2) := by decide +kernel
theorem d_P_init_9 : decode b_P_init 9 = .ok (.putfield 9, 3) := by decide +kernel
theorem d_P_init_12 : decode b_P_init 12 = .ok (.aload_n 0, 1) := by decide +kernel
theorem d_P_init_13 : decode b_P_init 13 = .ok (.bipush 72, 2) := by decide +kernel
theorem d_P_init_15 : decode b_P_init 15 = .ok (.newarray .int, 2) := by decide +kernel
theorem d_P_init_17 : decode b_P_init 17 = .ok (.putfield 15, 3) := by decide +kernel
theorem d_P_init_20 : decode b_P_init 20 = .ok (.aload_n 0, 1) := by decide +kernel
theorem d_P_init_21 : decode b_P_init 21 = .ok (.bipush 72, 2) := by decide +kernel
theorem d_P_init_23 : decode b_P_init 23 = .ok (.newarray .int, 2) := by decide +kernel
theorem d_P_init_25 : decode b_P_init 25 = .ok (.putfield 18, 3) := by decide +kernel
theorem d_P_init_28 : decode b_P_init 28 = .ok (.aload_n 0, 1) := by decide +kernel
theorem d_P_init_29 : decode b_P_init 29 = .ok (.bipush 72, 2) := by decide +kernel
theorem d_P_init_31 : decode b_P_init 31 = .ok (.newarray .int, 2) := by decide +kernel
theorem d_P_init_33 : decode b_P_init 33 = .ok (.putfield 21, 3) := by decide +kernel
theorem d_P_init_36 : decode b_P_init 36 = .ok (.aload_n 0, 1) := by decide +kernel
theorem d_P_init_37 : decode b_P_init 37 = .ok (.iconst 0, 1) := by decide +kernel
theorem d_P_init_38 : decode b_P_init 38 = .ok (.putfield 24, 3) := by decide +kernel
theorem d_P_init_41 : decode b_P_init 41 = .ok (.return_, 1) := by decide +kernel
theorem d_P_lay_0 : decode b_P_lay 0 = .ok (.aload_n 0, 1) := by decide +kernel
theorem d_P_lay_1 : decode b_P_lay 1 = .ok (.iconst 0, 1) := by decide +kernel
theorem d_P_lay_2 : decode b_P_lay 2 = .ok (.putfield 24, 3) := by decide +kernel
theorem d_P_lay_5 : decode b_P_lay 5 = .ok (.iconst 0, 1) := by decide +kernel
theorem d_P_lay_6 : decode b_P_lay 6 = .ok (.istore_n 2, 1) := by decide +kernel
theorem d_P_lay_7 : decode b_P_lay 7 = .ok (.iload_n 2, 1) := by decide +kernel
theorem d_P_lay_8 : decode b_P_lay 8 = .ok (.aload_n 1, 1) := by decide +kernel
theorem d_P_lay_9 : decode b_P_lay 9 = .ok (.getfield 28, 3) := by decide +kernel
theorem d_P_lay_12 : decode b_P_lay 12 = .ok (.if_icmp .ge 20, 3) := by decide +kernel
theorem d_P_lay_15 : decode b_P_lay 15 = .ok (.aload_n 0, 1) := by decide +kernel
theorem d_P_lay_16 : decode b_P_lay 16 = .ok (.iload_n 2, 1) := by decide +kernel
theorem d_P_lay_17 : decode b_P_lay 17 = .ok (.aload_n 1, 1) := by decide +kernel
theorem d_P_lay_18 : decode b_P_lay 18 = .ok (.getfield 31, 3) := by decide +kernel
theorem d_P_lay_21 : decode b_P_lay 21 = .ok (.iload_n 2, 1) := by decide +kernel
theorem d_P_lay_22 : decode b_P_lay 22 = .ok (.aaload, 1) := by decide +kernel
theorem d_P_lay_23 : decode b_P_lay 23 = .ok (.invokevirtual 35, 3) := by decide +kernel
theorem d_P_lay_26 : decode b_P_lay 26 = .ok (.iinc 2 1, 3) := by decide +kernel
theorem d_P_lay_29 : decode b_P_lay 29 = .ok (.goto (-22), 3) := by decide +kernel
theorem d_P_lay_32 : decode b_P_lay 32 = .ok (.return_, 1) := by decide +kernel
theorem d_P_layFlat_0 : decode b_P_layFlat 0 = .ok (.iconst 0, 1) := by decide +kernel
theorem d_P_layFlat_1 : decode b_P_layFlat 1 = .ok (.istore_n 3, 1) := by decide +kernel
theorem d_P_layFlat_2 : decode b_P_layFlat 2 = .ok (.aload_n 2, 1) := by decide +kernel
theorem d_P_layFlat_3 : decode b_P_layFlat 3 = .ok (.iconst 0, 1) := by decide +kernel
theorem d_P_layFlat_4 : decode b_P_layFlat 4 = .ok (.invokevirtual 39, 3) := by decide +kernel
theorem d_P_layFlat_7 : decode b_P_layFlat 7 = .ok (.ifCond .eq 12, 3) := by decide +kernel
theorem d_P_layFlat_10 : decode b_P_layFlat 10 = .ok (.aload_n 2, 1) := by decide +kernel
theorem d_P_layFlat_11 : decode b_P_layFlat 11 = .ok (.getfield 45, 3) := by decide +kernel
theorem d_P_layFlat_14 : decode b_P_layFlat 14 = .ok (.iconst 0, 1) := by decide +kernel
theorem d_P_layFlat_15 : decode b_P_layFlat 15 = .ok (.iaload, 1) := by decide +kernel
theorem d_P_layFlat_16 : decode b_P_layFlat 16 = .ok (.goto 7, 3) := by decide +kernel
theorem d_P_layFlat_19 : decode b_P_layFlat 19 = .ok (.aload_n 2, 1) := by decide +kernel
theorem d_P_layFlat_20 : decode b_P_layFlat 20 = .ok (.getfield 48, 3) := by decide +kernel
theorem d_P_layFlat_23 : decode b_P_layFlat 23 = .ok (.istore 4, 2) := by decide +kernel
theorem d_P_layFlat_25 : decode b_P_layFlat 25 = .ok (.iconst 1, 1) := by decide +kernel
theorem d_P_layFlat_26 : decode b_P_layFlat 26 = .ok (.istore 5, 2) := by decide +kernel
theorem d_P_layFlat_28 : decode b_P_layFlat 28 = .ok (.iload 5, 2) := by decide +kernel
theorem d_P_layFlat_30 : decode b_P_layFlat 30 = .ok (.bipush 12, 2) := by decide +kernel
theorem d_P_layFlat_32 : decode b_P_layFlat 32 = .ok (.if_icmp .ge 40, 3) := by decide +kernel
theorem d_P_layFlat_35 : decode b_P_layFlat 35 = .ok (.aload_n 2, 1) := by decide +kernel
theorem d_P_layFlat_36 : decode b_P_layFlat 36 = .ok (.iload 5, 2) := by decide +kernel
theorem d_P_layFlat_38 : decode b_P_layFlat 38 = .ok (.invokevirtual 39, 3) := by decide +kernel
theorem d_P_layFlat_41 : decode b_P_layFlat 41 = .ok (.ifCond .eq 25, 3) := by decide +kernel
theorem d_P_layFlat_44 : decode b_P_layFlat 44 = .ok (.aload_n 0, 1) := by decide +kernel
theorem d_P_layFlat_45 : decode b_P_layFlat 45 = .ok (.iload_n 1, 1) := by decide +kernel
theorem d_P_layFlat_46 : decode b_P_layFlat 46 = .ok (.iload_n 3, 1) := by decide +kernel
theorem d_P_layFlat_47 : decode b_P_layFlat 47 = .ok (.iload 5, 2) := by decide +kernel
theorem d_P_layFlat_49 : decode b_P_layFlat 49 = .ok (.iload 4, 2) := by decide +kernel
theorem d_P_layFlat_51 : decode b_P_layFlat 51 = .ok (.invokevirtual 51, 3) := by decide +kernel
theorem d_P_layFlat_54 : decode b_P_layFlat 54 = .ok (.iload 5, 2) := by decide +kernel
theorem d_P_layFlat_56 : decode b_P_layFlat 56 = .ok (.istore_n 3, 1) := by decide +kernel
theorem d_P_layFlat_57 : decode b_P_layFlat 57 = .ok (.aload_n 2, 1) := by decide +kernel
theorem d_P_layFlat_58 : decode b_P_layFlat 58 = .ok (.getfield 45, 3) := by decide +kernel
theorem d_P_layFlat_61 : decode b_P_layFlat 61 = .ok (.iload 5, 2) := by decide +kernel
theorem d_P_layFlat_63 : decode b_P_layFlat 63 = .ok (.iaload, 1) := by decide +kernel
theorem d_P_layFlat_64 : decode b_P_layFlat 64 = .ok (.istore 4, 2) := by decide +kernel
theorem d_P_layFlat_66 : decode b_P_layFlat 66 = .ok (.iinc 5 1, 3) := by decide +kernel
theorem d_P_layFlat_69 : decode b_P_layFlat 69 = .ok (.goto (-41), 3) := by decide +kernel
theorem d_P_layFlat_72 : decode b_P_layFlat 72 = .ok (.aload_n 0, 1) := by decide +kernel
theorem d_P_layFlat_73 : decode b_P_layFlat 73 = .ok (.iload_n 1, 1) := by decide +kernel
theorem d_P_layFlat_74 : decode b_P_layFlat 74 = .ok (.iload_n 3, 1) := by decide +kernel
theorem d_P_layFlat_75 : decode b_P_layFlat 75 = .ok (.bipush 12, 2) := by decide +kernel
theorem d_P_layFlat_77 : decode b_P_layFlat 77 = .ok (.iload 4, 2) := by decide +kernel
theorem d_P_layFlat_79 : decode b_P_layFlat 79 = .ok (.invokevirtual 51, 3) := by decide +kernel
theorem d_P_layFlat_82 : decode b_P_layFlat 82 = .ok (.return_, 1) := by decide +kernel
theorem d_P_addSpan_0 : decode b_P_addSpan 0 = .ok (.aload_n 0, 1) := by decide +kernel
theorem d_P_addSpan_1 : decode b_P_addSpan 1 = .ok (.getfield 24, 3) := by decide +kernel
theorem d_P_addSpan_4 : decode b_P_addSpan 4 = .ok (.bipush 72, 2) := by decide +kernel
theorem d_P_addSpan_6 : decode b_P_addSpan 6 = .ok (.if_icmp .lt 4, 3) := by decide +kernel
theorem d_P_addSpan_9 : decode b_P_addSpan 9 = .ok (.return_, 1) := by decide +kernel
theorem d_P_addSpan_10 : decode b_P_addSpan 10 = .ok (.aload_n 0, 1) := by decide +kernel
theorem d_P_addSpan_11 : decode b_P_addSpan 11 = .ok (.getfield 9, 3) := by decide +kernel
theorem d_P_addSpan_14 : decode b_P_addSpan 14 = .ok (.aload_n 0, 1) := by decide +kernel
theorem d_P_addSpan_15 : decode b_P_addSpan 15 = .ok (.getfield 24, 3) := by decide +kernel
theorem d_P_addSpan_18 : decode b_P_addSpan 18 = .ok (.iload_n 1, 1) := by decide +kernel
theorem d_P_addSpan_19 : decode b_P_addSpan 19 = .ok (.iastore, 1) := by decide +kernel
theorem d_P_addSpan_20 : decode b_P_addSpan 20 = .ok (.aload_n 0, 1) := by decide +kernel
theorem d_P_addSpan_21 : decode b_P_addSpan 21 = .ok (.getfield 15, 3) := by decide +kernel
theorem d_P_addSpan_24 : decode b_P_addSpan 24 = .ok (.aload_n 0, 1) := by decide +kernel
theorem d_P_addSpan_25 : decode b_P_addSpan 25 = .ok (.getfield 24, 3) := by decide +kernel
theorem d_P_addSpan_28 : decode b_P_addSpan 28 = .ok (.iload_n 2, 1) := by decide +kernel
theorem d_P_addSpan_29 : decode b_P_addSpan 29 = .ok (.iastore, 1) := by decide +kernel
theorem d_P_addSpan_30 : decode b_P_addSpan 30 = .ok (.aload_n 0, 1) := by decide +kernel
theorem d_P_addSpan_31 : decode b_P_addSpan 31 = .ok (.getfield 18, 3) := by decide +kernel
theorem d_P_addSpan_34 : decode b_P_addSpan 34 = .ok (.aload_n 0, 1) := by decide +kernel
theorem d_P_addSpan_35 : decode b_P_addSpan 35 = .ok (.getfield 24, 3) := by decide +kernel
theorem d_P_addSpan_38 : decode b_P_addSpan 38 = .ok (.iload_n 3, 1) := by decide +kernel
theorem d_P_addSpan_39 : decode b_P_addSpan 39 = .ok (.iastore, 1) := by decide +kernel
theorem d_P_addSpan_40 : decode b_P_addSpan 40 = .ok (.aload_n 0, 1) := by decide +kernel
theorem d_P_addSpan_41 : decode b_P_addSpan 41 = .ok (.getfield 21, 3) := by decide +kernel
theorem d_P_addSpan_44 : decode b_P_addSpan 44 = .ok (.aload_n 0, 1) := by decide +kernel
theorem d_P_addSpan_45 : decode b_P_addSpan 45 = .ok (.getfield 24, 3) := by decide +kernel
theorem d_P_addSpan_48 : decode b_P_addSpan 48 = .ok (.iload 4, 2) := by decide +kernel
theorem d_P_addSpan_50 : decode b_P_addSpan 50 = .ok (.iastore, 1) := by decide +kernel
theorem d_P_addSpan_51 : decode b_P_addSpan 51 = .ok (.aload_n 0, 1) := by decide +kernel
theorem d_P_addSpan_52 : decode b_P_addSpan 52 = .ok (.dup, 1) := by decide +kernel
theorem d_P_addSpan_53 : decode b_P_addSpan 53 = .ok (.getfield 24, 3) := by decide +kernel
theorem d_P_addSpan_56 : decode b_P_addSpan 56 = .ok (.iconst 1, 1) := by decide +kernel
theorem d_P_addSpan_57 : decode b_P_addSpan 57 = .ok (.iadd, 1) := by decide +kernel
theorem d_P_addSpan_58 : decode b_P_addSpan 58 = .ok (.putfield 24, 3) := by decide +kernel
theorem d_P_addSpan_61 : decode b_P_addSpan 61 = .ok (.return_, 1) := by decide +kernel
theorem d_P_months_0 : decode b_P_months 0 = .ok (.aload_n 0, 1) := by decide +kernel
theorem d_P_months_1 : decode b_P_months 1 = .ok (.getfield 18, 3) := by decide +kernel
theorem d_P_months_4 : decode b_P_months 4 = .ok (.iload_n 1, 1) := by decide +kernel
theorem d_P_months_5 : decode b_P_months 5 = .ok (.iaload, 1) := by decide +kernel
theorem d_P_months_6 : decode b_P_months 6 = .ok (.aload_n 0, 1) := by decide +kernel
theorem d_P_months_7 : decode b_P_months 7 = .ok (.getfield 15, 3) := by decide +kernel
theorem d_P_months_10 : decode b_P_months 10 = .ok (.iload_n 1, 1) := by decide +kernel
theorem d_P_months_11 : decode b_P_months 11 = .ok (.iaload, 1) := by decide +kernel
theorem d_P_months_12 : decode b_P_months 12 = .ok (.isub, 1) := by decide +kernel
theorem d_P_months_13 : decode b_P_months 13 = .ok (.ireturn, 1) := by decide +kernel
theorem d_P_cutStretches_0 : decode b_P_cutStretches 0 = .ok (.iconst 0, 1) := by decide +kernel
theorem d_P_cutStretches_1 : decode b_P_cutStretches 1 = .ok (.istore_n 3, 1) := by decide +kernel
theorem d_P_cutStretches_2 : decode b_P_cutStretches 2 = .ok (.iload_n 3, 1) := by decide +kernel
theorem d_P_cutStretches_3 : decode b_P_cutStretches 3 = .ok (.aload_n 0, 1) := by decide +kernel
theorem d_P_cutStretches_4 : decode b_P_cutStretches 4 = .ok (.getfield 24, 3) := by decide +kernel
theorem d_P_cutStretches_7 : decode b_P_cutStretches 7 = .ok (.if_icmp .ge 50, 3) := by decide +kernel
theorem d_P_cutStretches_10 : decode b_P_cutStretches 10 = .ok (.aload_n 0, 1) := by decide +kernel
theorem d_P_cutStretches_11 : decode b_P_cutStretches 11 = .ok (.getfield 9, 3) := by decide +kernel
theorem d_P_cutStretches_14 : decode b_P_cutStretches 14 = .ok (.iload_n 3, 1) := by decide +kernel
theorem d_P_cutStretches_15 : decode b_P_cutStretches 15 = .ok (.iaload, 1) := by decide +kernel
theorem d_P_cutStretches_16 : decode b_P_cutStretches 16 = .ok (.istore 4, 2) := by decide +kernel
theorem d_P_cutStretches_18 : decode b_P_cutStretches 18 = .ok (.aload_n 0, 1) := by decide +kernel
theorem d_P_cutStretches_19 : decode b_P_cutStretches 19 = .ok (.getfield 15, 3) := by decide +kernel
theorem d_P_cutStretches_22 : decode b_P_cutStretches 22 = .ok (.iload_n 3, 1) := by decide +kernel
theorem d_P_cutStretches_23 : decode b_P_cutStretches 23 = .ok (.iaload, 1) := by decide +kernel
theorem d_P_cutStretches_24 : decode b_P_cutStretches 24 = .ok (.ifCond .le 27, 3) := by decide +kernel
theorem d_P_cutStretches_27 : decode b_P_cutStretches 27 = .ok (.aload_n 2, 1) := by decide +kernel
theorem d_P_cutStretches_28 : decode b_P_cutStretches 28 = .ok (.aload_n 1, 1) := by decide +kernel
theorem d_P_cutStretches_29 : decode b_P_cutStretches 29 = .ok (.getfield 31, 3) := by decide +kernel
theorem d_P_cutStretches_32 : decode b_P_cutStretches 32 = .ok (.iload 4, 2) := by decide +kernel
theorem d_P_cutStretches_34 : decode b_P_cutStretches 34 = .ok (.aaload, 1) := by decide +kernel
theorem d_P_cutStretches_35 : decode b_P_cutStretches 35 = .ok (.iload 4, 2) := by decide +kernel
theorem d_P_cutStretches_37 : decode b_P_cutStretches 37 = .ok (.aload_n 0, 1) := by decide +kernel
theorem d_P_cutStretches_38 : decode b_P_cutStretches 38 = .ok (.getfield 15, 3) := by decide +kernel
theorem d_P_cutStretches_41 : decode b_P_cutStretches 41 = .ok (.iload_n 3, 1) := by decide +kernel
theorem d_P_cutStretches_42 : decode b_P_cutStretches 42 = .ok (.iaload, 1) := by decide +kernel
theorem d_P_cutStretches_43 : decode b_P_cutStretches 43 = .ok (.invokevirtual 55, 3) := by decide +kernel
theorem d_P_cutStretches_46 : decode b_P_cutStretches 46 = .ok (.ifCond .ne 5, 3) := by decide +kernel
theorem d_P_cutStretches_49 : decode b_P_cutStretches 49 = .ok (.iconst 1, 1) := by decide +kernel
theorem d_P_cutStretches_50 : decode b_P_cutStretches 50 = .ok (.ireturn, 1) := by decide +kernel
theorem d_P_cutStretches_51 : decode b_P_cutStretches 51 = .ok (.iinc 3 1, 3) := by decide +kernel
theorem d_P_cutStretches_54 : decode b_P_cutStretches 54 = .ok (.goto (-52), 3) := by decide +kernel
theorem d_P_cutStretches_57 : decode b_P_cutStretches 57 = .ok (.iconst 0, 1) := by decide +kernel
theorem d_P_cutStretches_58 : decode b_P_cutStretches 58 = .ok (.ireturn, 1) := by decide +kernel
