/-! Decode rows. -/
theorem d_H_init_0 : decode b_H_init 0 = .ok (.aload_n 0, 1) := by decide +kernel
theorem d_H_init_1 : decode b_H_init 1 = .ok (.invokespecial 3, 3) := by decide +kernel
theorem d_H_init_4 : decode b_H_init 4 = .ok (.aload_n 0, 1) := by decide +kernel
theorem d_H_init_5 : decode b_H_init 5 = .ok (.new 9, 3) := by decide +kernel
theorem d_H_init_8 : decode b_H_init 8 = .ok (.dup, 1) := by decide +kernel
theorem d_H_init_9 : decode b_H_init 9 = .ok (.invokespecial 11, 3) := by decide +kernel
theorem d_H_init_12 : decode b_H_init 12 = .ok (.putfield 12, 3) := by decide +kernel
theorem d_H_init_15 : decode b_H_init 15 = .ok (.aload_n 0, 1) := by decide +kernel
theorem d_H_init_16 : decode b_H_init 16 = .ok (.new 16, 3) := by decide +kernel
theorem d_H_init_19 : decode b_H_init 19 = .ok (.dup, 1) := by decide +kernel
theorem d_H_init_20 : decode b_H_init 20 = .ok (.invokespecial 18, 3) := by decide +kernel
theorem d_H_init_23 : decode b_H_init 23 = .ok (.putfield 19, 3) := by decide +kernel
theorem d_H_init_26 : decode b_H_init 26 = .ok (.aload_n 0, 1) := by decide +kernel
theorem d_H_init_27 : decode b_H_init 27 = .ok (.new 23, 3) := by decide +kernel
theorem d_H_init_30 : decode b_H_init 30 = .ok (.dup, 1) := by decide +kernel
theorem d_H_init_31 : decode b_H_init 31 = .ok (.invokespecial 25, 3) := by decide +kernel
theorem d_H_init_34 : decode b_H_init 34 = .ok (.putfield 26, 3) := by decide +kernel
theorem d_H_init_37 : decode b_H_init 37 = .ok (.aload_n 0, 1) := by decide +kernel
theorem d_H_init_38 : decode b_H_init 38 = .ok (.new 30, 3) := by decide +kernel
theorem d_H_init_41 : decode b_H_init 41 = .ok (.dup, 1) := by decide +kernel
theorem d_H_init_42 : decode b_H_init 42 = .ok (.invokespecial 32, 3) := by decide +kernel
theorem d_H_init_45 : decode b_H_init 45 = .ok (.putfield 33, 3) := by decide +kernel
theorem d_H_init_48 : decode b_H_init 48 = .ok (.aload_n 0, 1) := by decide +kernel
theorem d_H_init_49 : decode b_H_init 49 = .ok (.new 37, 3) := by decide +kernel
theorem d_H_init_52 : decode b_H_init 52 = .ok (.dup, 1) := by decide +kernel
theorem d_H_init_53 : decode b_H_init 53 = .ok (.invokespecial 39, 3) := by decide +kernel
theorem d_H_init_56 : decode b_H_init 56 = .ok (.putfield 40, 3) := by decide +kernel
theorem d_H_init_59 : decode b_H_init 59 = .ok (.aload_n 0, 1) := by decide +kernel
theorem d_H_init_60 : decode b_H_init 60 = .ok (.new 44, 3) := by decide +kernel
theorem d_H_init_63 : decode b_H_init 63 = .ok (.dup, 1) := by decide +kernel
theorem d_H_init_64 : decode b_H_init 64 = .ok (.invokespecial 46, 3) := by decide +kernel
theorem d_H_init_67 : decode b_H_init 67 = .ok (.putfield 47, 3) := by decide +kernel
theorem d_H_init_70 : decode b_H_init 70 = .ok (.aload_n 0, 1) := by decide +kernel
theorem d_H_init_71 : decode b_H_init 71 = .ok (.bipush 12, 2) := by decide +kernel
theorem d_H_init_73 : decode b_H_init 73 = .ok (.newarray .int, 2) := by decide +kernel
theorem d_H_init_75 : decode b_H_init 75 = .ok (.putfield 51, 3) := by decide +kernel
theorem d_H_init_78 : decode b_H_init 78 = .ok (.aload_n 0, 1) := by decide +kernel
theorem d_H_init_79 : decode b_H_init 79 = .ok (.iconst 5, 1) := by decide +kernel
theorem d_H_init_80 : decode b_H_init 80 = .ok (.newarray .int, 2) := by decide +kernel
theorem d_H_init_82 : decode b_H_init 82 = .ok (.putfield 55, 3) := by decide +kernel
theorem d_H_init_85 : decode b_H_init 85 = .ok (.aload_n 0, 1) := by decide +kernel
theorem d_H_init_86 : decode b_H_init 86 = .ok (.iconst 0, 1) := by decide +kernel
theorem d_H_init_87 : decode b_H_init 87 = .ok (.putfield 58, 3) := by decide +kernel
theorem d_H_init_90 : decode b_H_init 90 = .ok (.aload_n 0, 1) := by decide +kernel
theorem d_H_init_91 : decode b_H_init 91 = .ok (.iconst (-1), 1) := by decide +kernel
theorem d_H_init_92 : decode b_H_init 92 = .ok (.putfield 62, 3) := by decide +kernel
theorem d_H_init_95 : decode b_H_init 95 = .ok (.aload_n 0, 1) := by decide +kernel
theorem d_H_init_96 : decode b_H_init 96 = .ok (.iconst 0, 1) := by decide +kernel
theorem d_H_init_97 : decode b_H_init 97 = .ok (.putfield 65, 3) := by decide +kernel
theorem d_H_init_100 : decode b_H_init 100 = .ok (.aload_n 0, 1) := by decide +kernel
theorem d_H_init_101 : decode b_H_init 101 = .ok (.sipush 500, 3) := by decide +kernel
theorem d_H_init_104 : decode b_H_init 104 = .ok (.putfield 68, 3) := by decide +kernel
theorem d_H_init_107 : decode b_H_init 107 = .ok (.aload_n 0, 1) := by decide +kernel
theorem d_H_init_108 : decode b_H_init 108 = .ok (.iconst 0, 1) := by decide +kernel
theorem d_H_init_109 : decode b_H_init 109 = .ok (.putfield 71, 3) := by decide +kernel
theorem d_H_init_112 : decode b_H_init 112 = .ok (.return_, 1) := by decide +kernel
theorem d_H_flat_0 : decode b_H_flat 0 = .ok (.iload_n 1, 1) := by decide +kernel
theorem d_H_flat_1 : decode b_H_flat 1 = .ok (.iconst 1, 1) := by decide +kernel
theorem d_H_flat_2 : decode b_H_flat 2 = .ok (.bipush 50, 2) := by decide +kernel
theorem d_H_flat_4 : decode b_H_flat 4 = .ok (.invokestatic 75, 3) := by decide +kernel
theorem d_H_flat_7 : decode b_H_flat 7 = .ok (.ifCond .ne 22, 3) := by decide +kernel
theorem d_H_flat_10 : decode b_H_flat 10 = .ok (.iload_n 2, 1) := by decide +kernel
theorem d_H_flat_11 : decode b_H_flat 11 = .ok (.iconst 0, 1) := by decide +kernel
theorem d_H_flat_12 : decode b_H_flat 12 = .ok (.bipush 50, 2) := by decide +kernel
theorem d_H_flat_14 : decode b_H_flat 14 = .ok (.invokestatic 75, 3) := by decide +kernel
theorem d_H_flat_17 : decode b_H_flat 17 = .ok (.ifCond .ne 12, 3) := by decide +kernel
theorem d_H_flat_20 : decode b_H_flat 20 = .ok (.iload_n 3, 1) := by decide +kernel
theorem d_H_flat_21 : decode b_H_flat 21 = .ok (.iconst 1, 1) := by decide +kernel
theorem d_H_flat_22 : decode b_H_flat 22 = .ok (.iconst 2, 1) := by decide +kernel
theorem d_H_flat_23 : decode b_H_flat 23 = .ok (.invokestatic 75, 3) := by decide +kernel
theorem d_H_flat_26 : decode b_H_flat 26 = .ok (.ifCond .eq 13, 3) := by decide +kernel
theorem d_H_flat_29 : decode b_H_flat 29 = .ok (.new 79, 3) := by decide +kernel
theorem d_H_flat_32 : decode b_H_flat 32 = .ok (.dup, 1) := by decide +kernel
theorem d_H_flat_33 : decode b_H_flat 33 = .ok (.ldc 81, 2) := by decide +kernel
theorem d_H_flat_35 : decode b_H_flat 35 = .ok (.invokespecial 83, 3) := by decide +kernel
theorem d_H_flat_38 : decode b_H_flat 38 = .ok (.athrow, 1) := by decide +kernel
theorem d_H_flat_39 : decode b_H_flat 39 = .ok (.aload_n 0, 1) := by decide +kernel
theorem d_H_flat_40 : decode b_H_flat 40 = .ok (.getfield 12, 3) := by decide +kernel
theorem d_H_flat_43 : decode b_H_flat 43 = .ok (.getfield 86, 3) := by decide +kernel
theorem d_H_flat_46 : decode b_H_flat 46 = .ok (.bipush 6, 2) := by decide +kernel
theorem d_H_flat_48 : decode b_H_flat 48 = .ok (.if_icmp .lt 13, 3) := by decide +kernel
theorem d_H_flat_51 : decode b_H_flat 51 = .ok (.new 89, 3) := by decide +kernel
theorem d_H_flat_54 : decode b_H_flat 54 = .ok (.dup, 1) := by decide +kernel
theorem d_H_flat_55 : decode b_H_flat 55 = .ok (.ldc 91, 2) := by decide +kernel
theorem d_H_flat_57 : decode b_H_flat 57 = .ok (.invokespecial 93, 3) := by decide +kernel
theorem d_H_flat_60 : decode b_H_flat 60 = .ok (.athrow, 1) := by decide +kernel
theorem d_H_flat_61 : decode b_H_flat 61 = .ok (.aload_n 0, 1) := by decide +kernel
theorem d_H_flat_62 : decode b_H_flat 62 = .ok (.iconst 0, 1) := by decide +kernel
theorem d_H_flat_63 : decode b_H_flat 63 = .ok (.putfield 71, 3) := by decide +kernel
theorem d_H_flat_66 : decode b_H_flat 66 = .ok (.aload_n 0, 1) := by decide +kernel
theorem d_H_flat_67 : decode b_H_flat 67 = .ok (.getfield 12, 3) := by decide +kernel
theorem d_H_flat_70 : decode b_H_flat 70 = .ok (.iload_n 1, 1) := by decide +kernel
theorem d_H_flat_71 : decode b_H_flat 71 = .ok (.iload_n 2, 1) := by decide +kernel
theorem d_H_flat_72 : decode b_H_flat 72 = .ok (.iload_n 3, 1) := by decide +kernel
theorem d_H_flat_73 : decode b_H_flat 73 = .ok (.invokevirtual 94, 3) := by decide +kernel
theorem d_H_flat_76 : decode b_H_flat 76 = .ok (.ireturn, 1) := by decide +kernel
theorem d_H_reading_0 : decode b_H_reading 0 = .ok (.aload_n 0, 1) := by decide +kernel
theorem d_H_reading_1 : decode b_H_reading 1 = .ok (.iload_n 1, 1) := by decide +kernel
theorem d_H_reading_2 : decode b_H_reading 2 = .ok (.invokevirtual 98, 3) := by decide +kernel
theorem d_H_reading_5 : decode b_H_reading 5 = .ok (.iload_n 2, 1) := by decide +kernel
theorem d_H_reading_6 : decode b_H_reading 6 = .ok (.iconst 0, 1) := by decide +kernel
theorem d_H_reading_7 : decode b_H_reading 7 = .ok (.bipush 12, 2) := by decide +kernel
theorem d_H_reading_9 : decode b_H_reading 9 = .ok (.invokestatic 75, 3) := by decide +kernel
theorem d_H_reading_12 : decode b_H_reading 12 = .ok (.ifCond .eq 13, 3) := by decide +kernel
theorem d_H_reading_15 : decode b_H_reading 15 = .ok (.new 102, 3) := by decide +kernel
theorem d_H_reading_18 : decode b_H_reading 18 = .ok (.dup, 1) := by decide +kernel
theorem d_H_reading_19 : decode b_H_reading 19 = .ok (.ldc 104, 2) := by decide +kernel
theorem d_H_reading_21 : decode b_H_reading 21 = .ok (.invokespecial 106, 3) := by decide +kernel
theorem d_H_reading_24 : decode b_H_reading 24 = .ok (.athrow, 1) := by decide +kernel
theorem d_H_reading_25 : decode b_H_reading 25 = .ok (.iload_n 3, 1) := by decide +kernel
theorem d_H_reading_26 : decode b_H_reading 26 = .ok (.iconst (-1), 1) := by decide +kernel
theorem d_H_reading_27 : decode b_H_reading 27 = .ok (.bipush 99, 2) := by decide +kernel
theorem d_H_reading_29 : decode b_H_reading 29 = .ok (.invokestatic 75, 3) := by decide +kernel
theorem d_H_reading_32 : decode b_H_reading 32 = .ok (.ifCond .eq 13, 3) := by decide +kernel
theorem d_H_reading_35 : decode b_H_reading 35 = .ok (.new 79, 3) := by decide +kernel
theorem d_H_reading_38 : decode b_H_reading 38 = .ok (.dup, 1) := by decide +kernel
theorem d_H_reading_39 : decode b_H_reading 39 = .ok (.ldc 107, 2) := by decide +kernel
theorem d_H_reading_41 : decode b_H_reading 41 = .ok (.invokespecial 83, 3) := by decide +kernel
theorem d_H_reading_44 : decode b_H_reading 44 = .ok (.athrow, 1) := by decide +kernel
theorem d_H_reading_45 : decode b_H_reading 45 = .ok (.aload_n 0, 1) := by decide +kernel
theorem d_H_reading_46 : decode b_H_reading 46 = .ok (.iconst 0, 1) := by decide +kernel
theorem d_H_reading_47 : decode b_H_reading 47 = .ok (.putfield 71, 3) := by decide +kernel
theorem d_H_reading_50 : decode b_H_reading 50 = .ok (.aload_n 0, 1) := by decide +kernel
theorem d_H_reading_51 : decode b_H_reading 51 = .ok (.getfield 12, 3) := by decide +kernel
theorem d_H_reading_54 : decode b_H_reading 54 = .ok (.getfield 109, 3) := by decide +kernel
theorem d_H_reading_57 : decode b_H_reading 57 = .ok (.iload_n 1, 1) := by decide +kernel
theorem d_H_reading_58 : decode b_H_reading 58 = .ok (.aaload, 1) := by decide +kernel
theorem d_H_reading_59 : decode b_H_reading 59 = .ok (.getfield 113, 3) := by decide +kernel
theorem d_H_reading_62 : decode b_H_reading 62 = .ok (.iload_n 2, 1) := by decide +kernel
theorem d_H_reading_63 : decode b_H_reading 63 = .ok (.iload_n 3, 1) := by decide +kernel
theorem d_H_reading_64 : decode b_H_reading 64 = .ok (.iastore, 1) := by decide +kernel
theorem d_H_reading_65 : decode b_H_reading 65 = .ok (.return_, 1) := by decide +kernel
theorem d_H_enter_0 : decode b_H_enter 0 = .ok (.aload_n 0, 1) := by decide +kernel
theorem d_H_enter_1 : decode b_H_enter 1 = .ok (.iload_n 1, 1) := by decide +kernel
theorem d_H_enter_2 : decode b_H_enter 2 = .ok (.iload_n 2, 1) := by decide +kernel
theorem d_H_enter_3 : decode b_H_enter 3 = .ok (.invokevirtual 118, 3) := by decide +kernel
theorem d_H_enter_6 : decode b_H_enter 6 = .ok (.aload_n 0, 1) := by decide +kernel
theorem d_H_enter_7 : decode b_H_enter 7 = .ok (.getfield 47, 3) := by decide +kernel
theorem d_H_enter_10 : decode b_H_enter 10 = .ok (.getfield 122, 3) := by decide +kernel
theorem d_H_enter_13 : decode b_H_enter 13 = .ok (.bipush 20, 2) := by decide +kernel
theorem d_H_enter_15 : decode b_H_enter 15 = .ok (.if_icmp .lt 13, 3) := by decide +kernel
theorem d_H_enter_18 : decode b_H_enter 18 = .ok (.new 89, 3) := by decide +kernel
theorem d_H_enter_21 : decode b_H_enter 21 = .ok (.dup, 1) := by decide +kernel
theorem d_H_enter_22 : decode b_H_enter 22 = .ok (.ldc 125, 2) := by decide +kernel
theorem d_H_enter_24 : decode b_H_enter 24 = .ok (.invokespecial 93, 3) := by decide +kernel
theorem d_H_enter_27 : decode b_H_enter 27 = .ok (.athrow, 1) := by decide +kernel
theorem d_H_enter_28 : decode b_H_enter 28 = .ok (.aload_n 0, 1) := by decide +kernel
theorem d_H_enter_29 : decode b_H_enter 29 = .ok (.iconst 0, 1) := by decide +kernel
theorem d_H_enter_30 : decode b_H_enter 30 = .ok (.putfield 71, 3) := by decide +kernel
theorem d_H_enter_33 : decode b_H_enter 33 = .ok (.aload_n 0, 1) := by decide +kernel
theorem d_H_enter_34 : decode b_H_enter 34 = .ok (.getfield 47, 3) := by decide +kernel
theorem d_H_enter_37 : decode b_H_enter 37 = .ok (.invokevirtual 127, 3) := by decide +kernel
theorem d_H_enter_40 : decode b_H_enter 40 = .ok (.istore_n 3, 1) := by decide +kernel
theorem d_H_enter_41 : decode b_H_enter 41 = .ok (.aload_n 0, 1) := by decide +kernel
theorem d_H_enter_42 : decode b_H_enter 42 = .ok (.getfield 12, 3) := by decide +kernel
theorem d_H_enter_45 : decode b_H_enter 45 = .ok (.getfield 109, 3) := by decide +kernel
theorem d_H_enter_48 : decode b_H_enter 48 = .ok (.iload_n 1, 1) := by decide +kernel
theorem d_H_enter_49 : decode b_H_enter 49 = .ok (.aaload, 1) := by decide +kernel
theorem d_H_enter_50 : decode b_H_enter 50 = .ok (.getfield 131, 3) := by decide +kernel
theorem d_H_enter_53 : decode b_H_enter 53 = .ok (.iload_n 2, 1) := by decide +kernel
theorem d_H_enter_54 : decode b_H_enter 54 = .ok (.iload_n 3, 1) := by decide +kernel
theorem d_H_enter_55 : decode b_H_enter 55 = .ok (.iastore, 1) := by decide +kernel
theorem d_H_enter_56 : decode b_H_enter 56 = .ok (.iload_n 3, 1) := by decide +kernel
theorem d_H_enter_57 : decode b_H_enter 57 = .ok (.ireturn, 1) := by decide +kernel
theorem d_H_leave_0 : decode b_H_leave 0 = .ok (.aload_n 0, 1) := by decide +kernel
theorem d_H_leave_1 : decode b_H_leave 1 = .ok (.iload_n 1, 1) := by decide +kernel
theorem d_H_leave_2 : decode b_H_leave 2 = .ok (.iload_n 2, 1) := by decide +kernel
theorem d_H_leave_3 : decode b_H_leave 3 = .ok (.invokevirtual 118, 3) := by decide +kernel
theorem d_H_leave_6 : decode b_H_leave 6 = .ok (.aload_n 0, 1) := by decide +kernel
theorem d_H_leave_7 : decode b_H_leave 7 = .ok (.iconst 0, 1) := by decide +kernel
theorem d_H_leave_8 : decode b_H_leave 8 = .ok (.putfield 71, 3) := by decide +kernel
theorem d_H_leave_11 : decode b_H_leave 11 = .ok (.aload_n 0, 1) := by decide +kernel
theorem d_H_leave_12 : decode b_H_leave 12 = .ok (.getfield 12, 3) := by decide +kernel
theorem d_H_leave_15 : decode b_H_leave 15 = .ok (.getfield 109, 3) := by decide +kernel
theorem d_H_leave_18 : decode b_H_leave 18 = .ok (.iload_n 1, 1) := by decide +kernel
theorem d_H_leave_19 : decode b_H_leave 19 = .ok (.aaload, 1) := by decide +kernel
theorem d_H_leave_20 : decode b_H_leave 20 = .ok (.getfield 131, 3) := by decide +kernel
theorem d_H_leave_23 : decode b_H_leave 23 = .ok (.iload_n 2, 1) := by decide +kernel
theorem d_H_leave_24 : decode b_H_leave 24 = .ok (.iconst (-1), 1) := by decide +kernel
theorem d_H_leave_25 : decode b_H_leave 25 = .ok (.iastore, 1) := by decide +kernel
theorem d_H_leave_26 : decode b_H_leave 26 = .ok (.return_, 1) := by decide +kernel
theorem d_H_deliver_0 : decode b_H_deliver 0 = .ok (.iload_n 1, 1) := by decide +kernel
theorem d_H_deliver_1 : decode b_H_deliver 1 = .ok (.iconst 1, 1) := by decide +kernel
theorem d_H_deliver_2 : decode b_H_deliver 2 = .ok (.sipush 1000, 3) := by decide +kernel
theorem d_H_deliver_5 : decode b_H_deliver 5 = .ok (.invokestatic 75, 3) := by decide +kernel
theorem d_H_deliver_8 : decode b_H_deliver 8 = .ok (.ifCond .ne 14, 3) := by decide +kernel
theorem d_H_deliver_11 : decode b_H_deliver 11 = .ok (.iload_n 2, 1) := by decide +kernel
theorem d_H_deliver_12 : decode b_H_deliver 12 = .ok (.iconst 0, 1) := by decide +kernel
theorem d_H_deliver_13 : decode b_H_deliver 13 = .ok (.sipush 20000, 3) := by decide +kernel
theorem d_H_deliver_16 : decode b_H_deliver 16 = .ok (.invokestatic 75, 3) := by decide +kernel
theorem d_H_deliver_19 : decode b_H_deliver 19 = .ok (.ifCond .eq 13, 3) := by decide +kernel
theorem d_H_deliver_22 : decode b_H_deliver 22 = .ok (.new 79, 3) := by decide +kernel
theorem d_H_deliver_25 : decode b_H_deliver 25 = .ok (.dup, 1) := by decide +kernel
theorem d_H_deliver_26 : decode b_H_deliver 26 = .ok (.ldc 134, 2) := by decide +kernel
theorem d_H_deliver_28 : decode b_H_deliver 28 = .ok (.invokespecial 83, 3) := by decide +kernel
theorem d_H_deliver_31 : decode b_H_deliver 31 = .ok (.athrow, 1) := by decide +kernel
theorem d_H_deliver_32 : decode b_H_deliver 32 = .ok (.aload_n 0, 1) := by decide +kernel
theorem d_H_deliver_33 : decode b_H_deliver 33 = .ok (.getfield 19, 3) := by decide +kernel
theorem d_H_deliver_36 : decode b_H_deliver 36 = .ok (.getfield 136, 3) := by decide +kernel
theorem d_H_deliver_39 : decode b_H_deliver 39 = .ok (.bipush 12, 2) := by decide +kernel
theorem d_H_deliver_41 : decode b_H_deliver 41 = .ok (.if_icmp .lt 13, 3) := by decide +kernel
theorem d_H_deliver_44 : decode b_H_deliver 44 = .ok (.new 89, 3) := by decide +kernel
theorem d_H_deliver_47 : decode b_H_deliver 47 = .ok (.dup, 1) := by decide +kernel
theorem d_H_deliver_48 : decode b_H_deliver 48 = .ok (.ldc 139, 2) := by decide +kernel
theorem d_H_deliver_50 : decode b_H_deliver 50 = .ok (.invokespecial 93, 3) := by decide +kernel
theorem d_H_deliver_53 : decode b_H_deliver 53 = .ok (.athrow, 1) := by decide +kernel
theorem d_H_deliver_54 : decode b_H_deliver 54 = .ok (.aload_n 0, 1) := by decide +kernel
theorem d_H_deliver_55 : decode b_H_deliver 55 = .ok (.iconst 0, 1) := by decide +kernel
theorem d_H_deliver_56 : decode b_H_deliver 56 = .ok (.putfield 71, 3) := by decide +kernel
theorem d_H_deliver_59 : decode b_H_deliver 59 = .ok (.aload_n 0, 1) := by decide +kernel
theorem d_H_deliver_60 : decode b_H_deliver 60 = .ok (.getfield 19, 3) := by decide +kernel
theorem d_H_deliver_63 : decode b_H_deliver 63 = .ok (.iload_n 1, 1) := by decide +kernel
theorem d_H_deliver_64 : decode b_H_deliver 64 = .ok (.iload_n 2, 1) := by decide +kernel
theorem d_H_deliver_65 : decode b_H_deliver 65 = .ok (.invokevirtual 141, 3) := by decide +kernel
theorem d_H_deliver_68 : decode b_H_deliver 68 = .ok (.return_, 1) := by decide +kernel
theorem d_H_endStock_0 : decode b_H_endStock 0 = .ok (.iload_n 1, 1) := by decide +kernel
theorem d_H_endStock_1 : decode b_H_endStock 1 = .ok (.iconst (-1), 1) := by decide +kernel
theorem d_H_endStock_2 : decode b_H_endStock 2 = .ok (.aload_n 0, 1) := by decide +kernel
theorem d_H_endStock_3 : decode b_H_endStock 3 = .ok (.getfield 19, 3) := by decide +kernel
theorem d_H_endStock_6 : decode b_H_endStock 6 = .ok (.invokevirtual 144, 3) := by decide +kernel
theorem d_H_endStock_9 : decode b_H_endStock 9 = .ok (.invokestatic 75, 3) := by decide +kernel
theorem d_H_endStock_12 : decode b_H_endStock 12 = .ok (.ifCond .eq 13, 3) := by decide +kernel
theorem d_H_endStock_15 : decode b_H_endStock 15 = .ok (.new 79, 3) := by decide +kernel
theorem d_H_endStock_18 : decode b_H_endStock 18 = .ok (.dup, 1) := by decide +kernel
theorem d_H_endStock_19 : decode b_H_endStock 19 = .ok (.ldc 147, 2) := by decide +kernel
theorem d_H_endStock_21 : decode b_H_endStock 21 = .ok (.invokespecial 83, 3) := by decide +kernel
theorem d_H_endStock_24 : decode b_H_endStock 24 = .ok (.athrow, 1) := by decide +kernel
theorem d_H_endStock_25 : decode b_H_endStock 25 = .ok (.aload_n 0, 1) := by decide +kernel
theorem d_H_endStock_26 : decode b_H_endStock 26 = .ok (.iconst 0, 1) := by decide +kernel
theorem d_H_endStock_27 : decode b_H_endStock 27 = .ok (.putfield 71, 3) := by decide +kernel
theorem d_H_endStock_30 : decode b_H_endStock 30 = .ok (.aload_n 0, 1) := by decide +kernel
theorem d_H_endStock_31 : decode b_H_endStock 31 = .ok (.getfield 19, 3) := by decide +kernel
theorem d_H_endStock_34 : decode b_H_endStock 34 = .ok (.iload_n 1, 1) := by decide +kernel
theorem d_H_endStock_35 : decode b_H_endStock 35 = .ok (.putfield 149, 3) := by decide +kernel
theorem d_H_endStock_38 : decode b_H_endStock 38 = .ok (.return_, 1) := by decide +kernel
theorem d_H_sideCosts_0 : decode b_H_sideCosts 0 = .ok (.iload_n 1, 1) := by decide +kernel
theorem d_H_sideCosts_1 : decode b_H_sideCosts 1 = .ok (.iconst 0, 1) := by decide +kernel
theorem d_H_sideCosts_2 : decode b_H_sideCosts 2 = .ok (.sipush 20000, 3) := by decide +kernel
theorem d_H_sideCosts_5 : decode b_H_sideCosts 5 = .ok (.invokestatic 75, 3) := by decide +kernel
theorem d_H_sideCosts_8 : decode b_H_sideCosts 8 = .ok (.ifCond .eq 13, 3) := by decide +kernel
theorem d_H_sideCosts_11 : decode b_H_sideCosts 11 = .ok (.new 79, 3) := by decide +kernel
theorem d_H_sideCosts_14 : decode b_H_sideCosts 14 = .ok (.dup, 1) := by decide +kernel
theorem d_H_sideCosts_15 : decode b_H_sideCosts 15 = .ok (.ldc 152, 2) := by decide +kernel
theorem d_H_sideCosts_17 : decode b_H_sideCosts 17 = .ok (.invokespecial 83, 3) := by decide +kernel
theorem d_H_sideCosts_20 : decode b_H_sideCosts 20 = .ok (.athrow, 1) := by decide +kernel
theorem d_H_sideCosts_21 : decode b_H_sideCosts 21 = .ok (.aload_n 0, 1) := by decide +kernel
theorem d_H_sideCosts_22 : decode b_H_sideCosts 22 = .ok (.iconst 0, 1) := by decide +kernel
theorem d_H_sideCosts_23 : decode b_H_sideCosts 23 = .ok (.putfield 71, 3) := by decide +kernel
theorem d_H_sideCosts_26 : decode b_H_sideCosts 26 = .ok (.aload_n 0, 1) := by decide +kernel
theorem d_H_sideCosts_27 : decode b_H_sideCosts 27 = .ok (.iload_n 1, 1) := by decide +kernel
theorem d_H_sideCosts_28 : decode b_H_sideCosts 28 = .ok (.putfield 58, 3) := by decide +kernel
theorem d_H_sideCosts_31 : decode b_H_sideCosts 31 = .ok (.return_, 1) := by decide +kernel
theorem d_H_water_0 : decode b_H_water 0 = .ok (.iload_n 1, 1) := by decide +kernel
theorem d_H_water_1 : decode b_H_water 1 = .ok (.iconst (-1), 1) := by decide +kernel
theorem d_H_water_2 : decode b_H_water 2 = .ok (.ldc 154, 2) := by decide +kernel
theorem d_H_water_4 : decode b_H_water 4 = .ok (.invokestatic 75, 3) := by decide +kernel
theorem d_H_water_7 : decode b_H_water 7 = .ok (.ifCond .ne 13, 3) := by decide +kernel
theorem d_H_water_10 : decode b_H_water 10 = .ok (.iload_n 2, 1) := by decide +kernel
theorem d_H_water_11 : decode b_H_water 11 = .ok (.iconst 0, 1) := by decide +kernel
theorem d_H_water_12 : decode b_H_water 12 = .ok (.bipush 100, 2) := by decide +kernel
theorem d_H_water_14 : decode b_H_water 14 = .ok (.invokestatic 75, 3) := by decide +kernel
theorem d_H_water_17 : decode b_H_water 17 = .ok (.ifCond .eq 13, 3) := by decide +kernel
theorem d_H_water_20 : decode b_H_water 20 = .ok (.new 79, 3) := by decide +kernel
theorem d_H_water_23 : decode b_H_water 23 = .ok (.dup, 1) := by decide +kernel
theorem d_H_water_24 : decode b_H_water 24 = .ok (.ldc 155, 2) := by decide +kernel
theorem d_H_water_26 : decode b_H_water 26 = .ok (.invokespecial 83, 3) := by decide +kernel
theorem d_H_water_29 : decode b_H_water 29 = .ok (.athrow, 1) := by decide +kernel
theorem d_H_water_30 : decode b_H_water 30 = .ok (.aload_n 0, 1) := by decide +kernel
theorem d_H_water_31 : decode b_H_water 31 = .ok (.iconst 0, 1) := by decide +kernel
theorem d_H_water_32 : decode b_H_water 32 = .ok (.putfield 71, 3) := by decide +kernel
theorem d_H_water_35 : decode b_H_water 35 = .ok (.aload_n 0, 1) := by decide +kernel
theorem d_H_water_36 : decode b_H_water 36 = .ok (.iload_n 1, 1) := by decide +kernel
theorem d_H_water_37 : decode b_H_water 37 = .ok (.putfield 62, 3) := by decide +kernel
theorem d_H_water_40 : decode b_H_water 40 = .ok (.aload_n 0, 1) := by decide +kernel
theorem d_H_water_41 : decode b_H_water 41 = .ok (.iload_n 2, 1) := by decide +kernel
theorem d_H_water_42 : decode b_H_water 42 = .ok (.putfield 65, 3) := by decide +kernel
theorem d_H_water_45 : decode b_H_water 45 = .ok (.return_, 1) := by decide +kernel
theorem d_H_permille_0 : decode b_H_permille 0 = .ok (.iload_n 1, 1) := by decide +kernel
theorem d_H_permille_1 : decode b_H_permille 1 = .ok (.sipush 300, 3) := by decide +kernel
theorem d_H_permille_4 : decode b_H_permille 4 = .ok (.sipush 700, 3) := by decide +kernel
theorem d_H_permille_7 : decode b_H_permille 7 = .ok (.invokestatic 75, 3) := by decide +kernel
theorem d_H_permille_10 : decode b_H_permille 10 = .ok (.ifCond .eq 13, 3) := by decide +kernel
theorem d_H_permille_13 : decode b_H_permille 13 = .ok (.new 79, 3) := by decide +kernel
theorem d_H_permille_16 : decode b_H_permille 16 = .ok (.dup, 1) := by decide +kernel
theorem d_H_permille_17 : decode b_H_permille 17 = .ok (.ldc 157, 2) := by decide +kernel
theorem d_H_permille_19 : decode b_H_permille 19 = .ok (.invokespecial 83, 3) := by decide +kernel
theorem d_H_permille_22 : decode b_H_permille 22 = .ok (.athrow, 1) := by decide +kernel
theorem d_H_permille_23 : decode b_H_permille 23 = .ok (.aload_n 0, 1) := by decide +kernel
theorem d_H_permille_24 : decode b_H_permille 24 = .ok (.iconst 0, 1) := by decide +kernel
theorem d_H_permille_25 : decode b_H_permille 25 = .ok (.putfield 71, 3) := by decide +kernel
theorem d_H_permille_28 : decode b_H_permille 28 = .ok (.aload_n 0, 1) := by decide +kernel
theorem d_H_permille_29 : decode b_H_permille 29 = .ok (.iload_n 1, 1) := by decide +kernel
theorem d_H_permille_30 : decode b_H_permille 30 = .ok (.putfield 68, 3) := by decide +kernel
theorem d_H_permille_33 : decode b_H_permille 33 = .ok (.return_, 1) := by decide +kernel
theorem d_H_degrees_0 : decode b_H_degrees 0 = .ok (.iload_n 1, 1) := by decide +kernel
theorem d_H_degrees_1 : decode b_H_degrees 1 = .ok (.iconst 0, 1) := by decide +kernel
theorem d_H_degrees_2 : decode b_H_degrees 2 = .ok (.bipush 11, 2) := by decide +kernel
theorem d_H_degrees_4 : decode b_H_degrees 4 = .ok (.invokestatic 75, 3) := by decide +kernel
theorem d_H_degrees_7 : decode b_H_degrees 7 = .ok (.ifCond .eq 13, 3) := by decide +kernel
theorem d_H_degrees_10 : decode b_H_degrees 10 = .ok (.new 102, 3) := by decide +kernel
theorem d_H_degrees_13 : decode b_H_degrees 13 = .ok (.dup, 1) := by decide +kernel
theorem d_H_degrees_14 : decode b_H_degrees 14 = .ok (.ldc 159, 2) := by decide +kernel
theorem d_H_degrees_16 : decode b_H_degrees 16 = .ok (.invokespecial 106, 3) := by decide +kernel
theorem d_H_degrees_19 : decode b_H_degrees 19 = .ok (.athrow, 1) := by decide +kernel
theorem d_H_degrees_20 : decode b_H_degrees 20 = .ok (.iload_n 2, 1) := by decide +kernel
theorem d_H_degrees_21 : decode b_H_degrees 21 = .ok (.iconst 0, 1) := by decide +kernel
theorem d_H_degrees_22 : decode b_H_degrees 22 = .ok (.bipush 100, 2) := by decide +kernel
theorem d_H_degrees_24 : decode b_H_degrees 24 = .ok (.invokestatic 75, 3) := by decide +kernel
theorem d_H_degrees_27 : decode b_H_degrees 27 = .ok (.ifCond .eq 13, 3) := by decide +kernel
theorem d_H_degrees_30 : decode b_H_degrees 30 = .ok (.new 79, 3) := by decide +kernel
theorem d_H_degrees_33 : decode b_H_degrees 33 = .ok (.dup, 1) := by decide +kernel
theorem d_H_degrees_34 : decode b_H_degrees 34 = .ok (.ldc 161, 2) := by decide +kernel
theorem d_H_degrees_36 : decode b_H_degrees 36 = .ok (.invokespecial 83, 3) := by decide +kernel
theorem d_H_degrees_39 : decode b_H_degrees 39 = .ok (.athrow, 1) := by decide +kernel
theorem d_H_degrees_40 : decode b_H_degrees 40 = .ok (.aload_n 0, 1) := by decide +kernel
theorem d_H_degrees_41 : decode b_H_degrees 41 = .ok (.iconst 0, 1) := by decide +kernel
theorem d_H_degrees_42 : decode b_H_degrees 42 = .ok (.putfield 71, 3) := by decide +kernel
theorem d_H_degrees_45 : decode b_H_degrees 45 = .ok (.aload_n 0, 1) := by decide +kernel
theorem d_H_degrees_46 : decode b_H_degrees 46 = .ok (.getfield 51, 3) := by decide +kernel
theorem d_H_degrees_49 : decode b_H_degrees 49 = .ok (.iload_n 1, 1) := by decide +kernel
theorem d_H_degrees_50 : decode b_H_degrees 50 = .ok (.iload_n 2, 1) := by decide +kernel
theorem d_H_degrees_51 : decode b_H_degrees 51 = .ok (.iastore, 1) := by decide +kernel
theorem d_H_degrees_52 : decode b_H_degrees 52 = .ok (.return_, 1) := by decide +kernel
theorem d_H_prepay_0 : decode b_H_prepay 0 = .ok (.aload_n 0, 1) := by decide +kernel
theorem d_H_prepay_1 : decode b_H_prepay 1 = .ok (.iload_n 1, 1) := by decide +kernel
theorem d_H_prepay_2 : decode b_H_prepay 2 = .ok (.invokevirtual 163, 3) := by decide +kernel
theorem d_H_prepay_5 : decode b_H_prepay 5 = .ok (.iload_n 2, 1) := by decide +kernel
theorem d_H_prepay_6 : decode b_H_prepay 6 = .ok (.iconst 0, 1) := by decide +kernel
theorem d_H_prepay_7 : decode b_H_prepay 7 = .ok (.sipush 20000, 3) := by decide +kernel
theorem d_H_prepay_10 : decode b_H_prepay 10 = .ok (.invokestatic 75, 3) := by decide +kernel
theorem d_H_prepay_13 : decode b_H_prepay 13 = .ok (.ifCond .ne 19, 3) := by decide +kernel
theorem d_H_prepay_16 : decode b_H_prepay 16 = .ok (.aload_n 0, 1) := by decide +kernel
theorem d_H_prepay_17 : decode b_H_prepay 17 = .ok (.getfield 47, 3) := by decide +kernel
theorem d_H_prepay_20 : decode b_H_prepay 20 = .ok (.getfield 166, 3) := by decide +kernel
theorem d_H_prepay_23 : decode b_H_prepay 23 = .ok (.iload_n 1, 1) := by decide +kernel
theorem d_H_prepay_24 : decode b_H_prepay 24 = .ok (.iaload, 1) := by decide +kernel
theorem d_H_prepay_25 : decode b_H_prepay 25 = .ok (.iload_n 2, 1) := by decide +kernel
theorem d_H_prepay_26 : decode b_H_prepay 26 = .ok (.iadd, 1) := by decide +kernel
theorem d_H_prepay_27 : decode b_H_prepay 27 = .ok (.ldc 169, 2) := by decide +kernel
theorem d_H_prepay_29 : decode b_H_prepay 29 = .ok (.if_icmp .le 13, 3) := by decide +kernel
theorem d_H_prepay_32 : decode b_H_prepay 32 = .ok (.new 79, 3) := by decide +kernel
theorem d_H_prepay_35 : decode b_H_prepay 35 = .ok (.dup, 1) := by decide +kernel
theorem d_H_prepay_36 : decode b_H_prepay 36 = .ok (.ldc 152, 2) := by decide +kernel
theorem d_H_prepay_38 : decode b_H_prepay 38 = .ok (.invokespecial 83, 3) := by decide +kernel
theorem d_H_prepay_41 : decode b_H_prepay 41 = .ok (.athrow, 1) := by decide +kernel
theorem d_H_prepay_42 : decode b_H_prepay 42 = .ok (.aload_n 0, 1) := by decide +kernel
theorem d_H_prepay_43 : decode b_H_prepay 43 = .ok (.getfield 47, 3) := by decide +kernel
theorem d_H_prepay_46 : decode b_H_prepay 46 = .ok (.getfield 166, 3) := by decide +kernel
theorem d_H_prepay_49 : decode b_H_prepay 49 = .ok (.iload_n 1, 1) := by decide +kernel
theorem d_H_prepay_50 : decode b_H_prepay 50 = .ok (.dup2, 1) := by decide +kernel
theorem d_H_prepay_51 : decode b_H_prepay 51 = .ok (.iaload, 1) := by decide +kernel
theorem d_H_prepay_52 : decode b_H_prepay 52 = .ok (.iload_n 2, 1) := by decide +kernel
theorem d_H_prepay_53 : decode b_H_prepay 53 = .ok (.iadd, 1) := by decide +kernel
theorem d_H_prepay_54 : decode b_H_prepay 54 = .ok (.iastore, 1) := by decide +kernel
theorem d_H_prepay_55 : decode b_H_prepay 55 = .ok (.return_, 1) := by decide +kernel
theorem d_H_bill_0 : decode b_H_bill 0 = .ok (.aload_n 0, 1) := by decide +kernel
theorem d_H_bill_1 : decode b_H_bill 1 = .ok (.getfield 12, 3) := by decide +kernel
theorem d_H_bill_4 : decode b_H_bill 4 = .ok (.getfield 86, 3) := by decide +kernel
theorem d_H_bill_7 : decode b_H_bill 7 = .ok (.ifCond .eq 13, 3) := by decide +kernel
theorem d_H_bill_10 : decode b_H_bill 10 = .ok (.aload_n 0, 1) := by decide +kernel
theorem d_H_bill_11 : decode b_H_bill 11 = .ok (.getfield 19, 3) := by decide +kernel
theorem d_H_bill_14 : decode b_H_bill 14 = .ok (.invokevirtual 170, 3) := by decide +kernel
theorem d_H_bill_17 : decode b_H_bill 17 = .ok (.ifCond .ne 5, 3) := by decide +kernel
theorem d_H_bill_20 : decode b_H_bill 20 = .ok (.iconst (-1), 1) := by decide +kernel
theorem d_H_bill_21 : decode b_H_bill 21 = .ok (.ireturn, 1) := by decide +kernel
theorem d_H_bill_22 : decode b_H_bill 22 = .ok (.aload_n 0, 1) := by decide +kernel
theorem d_H_bill_23 : decode b_H_bill 23 = .ok (.getfield 26, 3) := by decide +kernel
theorem d_H_bill_26 : decode b_H_bill 26 = .ok (.aload_n 0, 1) := by decide +kernel
theorem d_H_bill_27 : decode b_H_bill 27 = .ok (.getfield 12, 3) := by decide +kernel
theorem d_H_bill_30 : decode b_H_bill 30 = .ok (.invokevirtual 174, 3) := by decide +kernel
theorem d_H_bill_33 : decode b_H_bill 33 = .ok (.aload_n 0, 1) := by decide +kernel
theorem d_H_bill_34 : decode b_H_bill 34 = .ok (.getfield 33, 3) := by decide +kernel
theorem d_H_bill_37 : decode b_H_bill 37 = .ok (.aload_n 0, 1) := by decide +kernel
theorem d_H_bill_38 : decode b_H_bill 38 = .ok (.getfield 12, 3) := by decide +kernel
theorem d_H_bill_41 : decode b_H_bill 41 = .ok (.invokevirtual 178, 3) := by decide +kernel
theorem d_H_bill_44 : decode b_H_bill 44 = .ok (.aload_n 0, 1) := by decide +kernel
theorem d_H_bill_45 : decode b_H_bill 45 = .ok (.getfield 26, 3) := by decide +kernel
theorem d_H_bill_48 : decode b_H_bill 48 = .ok (.aload_n 0, 1) := by decide +kernel
theorem d_H_bill_49 : decode b_H_bill 49 = .ok (.getfield 12, 3) := by decide +kernel
theorem d_H_bill_52 : decode b_H_bill 52 = .ok (.invokevirtual 181, 3) := by decide +kernel
theorem d_H_bill_55 : decode b_H_bill 55 = .ok (.istore_n 1, 1) := by decide +kernel
theorem d_H_bill_56 : decode b_H_bill 56 = .ok (.iload_n 1, 1) := by decide +kernel
theorem d_H_bill_57 : decode b_H_bill 57 = .ok (.ifCond .eq 30, 3) := by decide +kernel
theorem d_H_bill_60 : decode b_H_bill 60 = .ok (.aload_n 0, 1) := by decide +kernel
theorem d_H_bill_61 : decode b_H_bill 61 = .ok (.getfield 33, 3) := by decide +kernel
theorem d_H_bill_64 : decode b_H_bill 64 = .ok (.aload_n 0, 1) := by decide +kernel
theorem d_H_bill_65 : decode b_H_bill 65 = .ok (.getfield 12, 3) := by decide +kernel
theorem d_H_bill_68 : decode b_H_bill 68 = .ok (.aload_n 0, 1) := by decide +kernel
theorem d_H_bill_69 : decode b_H_bill 69 = .ok (.getfield 26, 3) := by decide +kernel
theorem d_H_bill_72 : decode b_H_bill 72 = .ok (.invokevirtual 185, 3) := by decide +kernel
theorem d_H_bill_75 : decode b_H_bill 75 = .ok (.ifCond .eq 12, 3) := by decide +kernel
theorem d_H_bill_78 : decode b_H_bill 78 = .ok (.aload_n 0, 1) := by decide +kernel
theorem d_H_bill_79 : decode b_H_bill 79 = .ok (.invokevirtual 189, 3) := by decide +kernel
theorem d_H_bill_82 : decode b_H_bill 82 = .ok (.ifCond .ne 5, 3) := by decide +kernel
theorem d_H_bill_85 : decode b_H_bill 85 = .ok (.iconst (-1), 1) := by decide +kernel
theorem d_H_bill_86 : decode b_H_bill 86 = .ok (.ireturn, 1) := by decide +kernel
theorem d_H_bill_87 : decode b_H_bill 87 = .ok (.aload_n 0, 1) := by decide +kernel
theorem d_H_bill_88 : decode b_H_bill 88 = .ok (.invokevirtual 192, 3) := by decide +kernel
theorem d_H_bill_91 : decode b_H_bill 91 = .ok (.aload_n 0, 1) := by decide +kernel
theorem d_H_bill_92 : decode b_H_bill 92 = .ok (.iload_n 1, 1) := by decide +kernel
theorem d_H_bill_93 : decode b_H_bill 93 = .ok (.invokevirtual 195, 3) := by decide +kernel
theorem d_H_bill_96 : decode b_H_bill 96 = .ok (.aload_n 0, 1) := by decide +kernel
theorem d_H_bill_97 : decode b_H_bill 97 = .ok (.iconst 1, 1) := by decide +kernel
theorem d_H_bill_98 : decode b_H_bill 98 = .ok (.putfield 71, 3) := by decide +kernel
theorem d_H_bill_101 : decode b_H_bill 101 = .ok (.iload_n 1, 1) := by decide +kernel
theorem d_H_bill_102 : decode b_H_bill 102 = .ok (.ifCond .eq 7, 3) := by decide +kernel
theorem d_H_bill_105 : decode b_H_bill 105 = .ok (.iconst 0, 1) := by decide +kernel
theorem d_H_bill_106 : decode b_H_bill 106 = .ok (.goto 4, 3) := by decide +kernel
theorem d_H_bill_109 : decode b_H_bill 109 = .ok (.iconst 2, 1) := by decide +kernel
theorem d_H_bill_110 : decode b_H_bill 110 = .ok (.ireturn, 1) := by decide +kernel
theorem d_H_amount_0 : decode b_H_amount 0 = .ok (.aload_n 0, 1) := by decide +kernel
theorem d_H_amount_1 : decode b_H_amount 1 = .ok (.invokevirtual 199, 3) := by decide +kernel
theorem d_H_amount_4 : decode b_H_amount 4 = .ok (.aload_n 0, 1) := by decide +kernel
theorem d_H_amount_5 : decode b_H_amount 5 = .ok (.iload_n 1, 1) := by decide +kernel
theorem d_H_amount_6 : decode b_H_amount 6 = .ok (.invokevirtual 202, 3) := by decide +kernel
theorem d_H_amount_9 : decode b_H_amount 9 = .ok (.iload_n 2, 1) := by decide +kernel
theorem d_H_amount_10 : decode b_H_amount 10 = .ok (.iconst 0, 1) := by decide +kernel
theorem d_H_amount_11 : decode b_H_amount 11 = .ok (.iconst 3, 1) := by decide +kernel
theorem d_H_amount_12 : decode b_H_amount 12 = .ok (.invokestatic 75, 3) := by decide +kernel
theorem d_H_amount_15 : decode b_H_amount 15 = .ok (.ifCond .eq 13, 3) := by decide +kernel
theorem d_H_amount_18 : decode b_H_amount 18 = .ok (.new 102, 3) := by decide +kernel
theorem d_H_amount_21 : decode b_H_amount 21 = .ok (.dup, 1) := by decide +kernel
theorem d_H_amount_22 : decode b_H_amount 22 = .ok (.ldc 205, 2) := by decide +kernel
theorem d_H_amount_24 : decode b_H_amount 24 = .ok (.invokespecial 106, 3) := by decide +kernel
theorem d_H_amount_27 : decode b_H_amount 27 = .ok (.athrow, 1) := by decide +kernel
theorem d_H_amount_28 : decode b_H_amount 28 = .ok (.iload_n 2, 1) := by decide +kernel
theorem d_H_amount_29 : decode b_H_amount 29 = .ok (.iconst 3, 1) := by decide +kernel
theorem d_H_amount_30 : decode b_H_amount 30 = .ok (.if_icmp .ne 12, 3) := by decide +kernel
theorem d_H_amount_33 : decode b_H_amount 33 = .ok (.aload_n 0, 1) := by decide +kernel
theorem d_H_amount_34 : decode b_H_amount 34 = .ok (.getfield 47, 3) := by decide +kernel
theorem d_H_amount_37 : decode b_H_amount 37 = .ok (.iload_n 1, 1) := by decide +kernel
theorem d_H_amount_38 : decode b_H_amount 38 = .ok (.invokevirtual 207, 3) := by decide +kernel
theorem d_H_amount_41 : decode b_H_amount 41 = .ok (.ireturn, 1) := by decide +kernel
theorem d_H_amount_42 : decode b_H_amount 42 = .ok (.aload_n 0, 1) := by decide +kernel
theorem d_H_amount_43 : decode b_H_amount 43 = .ok (.getfield 47, 3) := by decide +kernel
theorem d_H_amount_46 : decode b_H_amount 46 = .ok (.getfield 211, 3) := by decide +kernel
theorem d_H_amount_49 : decode b_H_amount 49 = .ok (.iload_n 2, 1) := by decide +kernel
theorem d_H_amount_50 : decode b_H_amount 50 = .ok (.aaload, 1) := by decide +kernel
theorem d_H_amount_51 : decode b_H_amount 51 = .ok (.iload_n 1, 1) := by decide +kernel
theorem d_H_amount_52 : decode b_H_amount 52 = .ok (.iconst 1, 1) := by decide +kernel
theorem d_H_amount_53 : decode b_H_amount 53 = .ok (.iadd, 1) := by decide +kernel
theorem d_H_amount_54 : decode b_H_amount 54 = .ok (.iaload, 1) := by decide +kernel
theorem d_H_amount_55 : decode b_H_amount 55 = .ok (.ireturn, 1) := by decide +kernel
theorem d_H_paid_0 : decode b_H_paid 0 = .ok (.aload_n 0, 1) := by decide +kernel
theorem d_H_paid_1 : decode b_H_paid 1 = .ok (.iload_n 1, 1) := by decide +kernel
theorem d_H_paid_2 : decode b_H_paid 2 = .ok (.invokevirtual 163, 3) := by decide +kernel
theorem d_H_paid_5 : decode b_H_paid 5 = .ok (.aload_n 0, 1) := by decide +kernel
theorem d_H_paid_6 : decode b_H_paid 6 = .ok (.getfield 47, 3) := by decide +kernel
theorem d_H_paid_9 : decode b_H_paid 9 = .ok (.getfield 166, 3) := by decide +kernel
theorem d_H_paid_12 : decode b_H_paid 12 = .ok (.iload_n 1, 1) := by decide +kernel
theorem d_H_paid_13 : decode b_H_paid 13 = .ok (.iaload, 1) := by decide +kernel
theorem d_H_paid_14 : decode b_H_paid 14 = .ok (.ireturn, 1) := by decide +kernel
theorem d_H_part_0 : decode b_H_part 0 = .ok (.aload_n 0, 1) := by decide +kernel
theorem d_H_part_1 : decode b_H_part 1 = .ok (.invokevirtual 199, 3) := by decide +kernel
theorem d_H_part_4 : decode b_H_part 4 = .ok (.iload_n 1, 1) := by decide +kernel
theorem d_H_part_5 : decode b_H_part 5 = .ok (.iconst 0, 1) := by decide +kernel
theorem d_H_part_6 : decode b_H_part 6 = .ok (.iconst 4, 1) := by decide +kernel
theorem d_H_part_7 : decode b_H_part 7 = .ok (.invokestatic 75, 3) := by decide +kernel
theorem d_H_part_10 : decode b_H_part 10 = .ok (.ifCond .eq 13, 3) := by decide +kernel
theorem d_H_part_13 : decode b_H_part 13 = .ok (.new 102, 3) := by decide +kernel
theorem d_H_part_16 : decode b_H_part 16 = .ok (.dup, 1) := by decide +kernel
theorem d_H_part_17 : decode b_H_part 17 = .ok (.ldc 205, 2) := by decide +kernel
theorem d_H_part_19 : decode b_H_part 19 = .ok (.invokespecial 106, 3) := by decide +kernel
theorem d_H_part_22 : decode b_H_part 22 = .ok (.athrow, 1) := by decide +kernel
theorem d_H_part_23 : decode b_H_part 23 = .ok (.aload_n 0, 1) := by decide +kernel
theorem d_H_part_24 : decode b_H_part 24 = .ok (.getfield 55, 3) := by decide +kernel
theorem d_H_part_27 : decode b_H_part 27 = .ok (.iload_n 1, 1) := by decide +kernel
theorem d_H_part_28 : decode b_H_part 28 = .ok (.iaload, 1) := by decide +kernel
theorem d_H_part_29 : decode b_H_part 29 = .ok (.ireturn, 1) := by decide +kernel
theorem d_H_replaced_0 : decode b_H_replaced 0 = .ok (.aload_n 0, 1) := by decide +kernel
theorem d_H_replaced_1 : decode b_H_replaced 1 = .ok (.iload_n 1, 1) := by decide +kernel
theorem d_H_replaced_2 : decode b_H_replaced 2 = .ok (.invokevirtual 98, 3) := by decide +kernel
theorem d_H_replaced_5 : decode b_H_replaced 5 = .ok (.aload_n 0, 1) := by decide +kernel
theorem d_H_replaced_6 : decode b_H_replaced 6 = .ok (.getfield 26, 3) := by decide +kernel
theorem d_H_replaced_9 : decode b_H_replaced 9 = .ok (.aload_n 0, 1) := by decide +kernel
theorem d_H_replaced_10 : decode b_H_replaced 10 = .ok (.getfield 12, 3) := by decide +kernel
theorem d_H_replaced_13 : decode b_H_replaced 13 = .ok (.invokevirtual 174, 3) := by decide +kernel
theorem d_H_replaced_16 : decode b_H_replaced 16 = .ok (.aload_n 0, 1) := by decide +kernel
theorem d_H_replaced_17 : decode b_H_replaced 17 = .ok (.getfield 26, 3) := by decide +kernel
theorem d_H_replaced_20 : decode b_H_replaced 20 = .ok (.getfield 215, 3) := by decide +kernel
theorem d_H_replaced_23 : decode b_H_replaced 23 = .ok (.iload_n 1, 1) := by decide +kernel
theorem d_H_replaced_24 : decode b_H_replaced 24 = .ok (.iaload, 1) := by decide +kernel
theorem d_H_replaced_25 : decode b_H_replaced 25 = .ok (.ireturn, 1) := by decide +kernel
theorem d_H_send_0 : decode b_H_send 0 = .ok (.aload_n 0, 1) := by decide +kernel
theorem d_H_send_1 : decode b_H_send 1 = .ok (.invokevirtual 199, 3) := by decide +kernel
theorem d_H_send_4 : decode b_H_send 4 = .ok (.aload_n 0, 1) := by decide +kernel
theorem d_H_send_5 : decode b_H_send 5 = .ok (.getfield 47, 3) := by decide +kernel
theorem d_H_send_8 : decode b_H_send 8 = .ok (.invokevirtual 218, 3) := by decide +kernel
theorem d_H_send_11 : decode b_H_send 11 = .ok (.ireturn, 1) := by decide +kernel
theorem d_H_sent_0 : decode b_H_sent 0 = .ok (.aload_n 0, 1) := by decide +kernel
theorem d_H_sent_1 : decode b_H_sent 1 = .ok (.iload_n 1, 1) := by decide +kernel
theorem d_H_sent_2 : decode b_H_sent 2 = .ok (.invokevirtual 202, 3) := by decide +kernel
theorem d_H_sent_5 : decode b_H_sent 5 = .ok (.aload_n 0, 1) := by decide +kernel
theorem d_H_sent_6 : decode b_H_sent 6 = .ok (.getfield 47, 3) := by decide +kernel
theorem d_H_sent_9 : decode b_H_sent 9 = .ok (.getfield 221, 3) := by decide +kernel
theorem d_H_sent_12 : decode b_H_sent 12 = .ok (.iload_n 1, 1) := by decide +kernel
theorem d_H_sent_13 : decode b_H_sent 13 = .ok (.iconst 1, 1) := by decide +kernel
theorem d_H_sent_14 : decode b_H_sent 14 = .ok (.iadd, 1) := by decide +kernel
theorem d_H_sent_15 : decode b_H_sent 15 = .ok (.iaload, 1) := by decide +kernel
theorem d_H_sent_16 : decode b_H_sent 16 = .ok (.ireturn, 1) := by decide +kernel
theorem d_H_closeYear_0 : decode b_H_closeYear 0 = .ok (.aload_n 0, 1) := by decide +kernel
theorem d_H_closeYear_1 : decode b_H_closeYear 1 = .ok (.invokevirtual 199, 3) := by decide +kernel
theorem d_H_closeYear_4 : decode b_H_closeYear 4 = .ok (.aload_n 0, 1) := by decide +kernel
theorem d_H_closeYear_5 : decode b_H_closeYear 5 = .ok (.getfield 47, 3) := by decide +kernel
theorem d_H_closeYear_8 : decode b_H_closeYear 8 = .ok (.invokevirtual 218, 3) := by decide +kernel
theorem d_H_closeYear_11 : decode b_H_closeYear 11 = .ok (.pop, 1) := by decide +kernel
theorem d_H_closeYear_12 : decode b_H_closeYear 12 = .ok (.aload_n 0, 1) := by decide +kernel
theorem d_H_closeYear_13 : decode b_H_closeYear 13 = .ok (.getfield 47, 3) := by decide +kernel
theorem d_H_closeYear_16 : decode b_H_closeYear 16 = .ok (.invokevirtual 224, 3) := by decide +kernel
theorem d_H_closeYear_19 : decode b_H_closeYear 19 = .ok (.aload_n 0, 1) := by decide +kernel
theorem d_H_closeYear_20 : decode b_H_closeYear 20 = .ok (.getfield 26, 3) := by decide +kernel
theorem d_H_closeYear_23 : decode b_H_closeYear 23 = .ok (.aload_n 0, 1) := by decide +kernel
theorem d_H_closeYear_24 : decode b_H_closeYear 24 = .ok (.getfield 12, 3) := by decide +kernel
theorem d_H_closeYear_27 : decode b_H_closeYear 27 = .ok (.invokevirtual 174, 3) := by decide +kernel
theorem d_H_closeYear_30 : decode b_H_closeYear 30 = .ok (.iconst 0, 1) := by decide +kernel
theorem d_H_closeYear_31 : decode b_H_closeYear 31 = .ok (.istore_n 1, 1) := by decide +kernel
theorem d_H_closeYear_32 : decode b_H_closeYear 32 = .ok (.iload_n 1, 1) := by decide +kernel
theorem d_H_closeYear_33 : decode b_H_closeYear 33 = .ok (.aload_n 0, 1) := by decide +kernel
theorem d_H_closeYear_34 : decode b_H_closeYear 34 = .ok (.getfield 12, 3) := by decide +kernel
theorem d_H_closeYear_37 : decode b_H_closeYear 37 = .ok (.getfield 86, 3) := by decide +kernel
theorem d_H_closeYear_40 : decode b_H_closeYear 40 = .ok (.if_icmp .ge 29, 3) := by decide +kernel
theorem d_H_closeYear_43 : decode b_H_closeYear 43 = .ok (.aload_n 0, 1) := by decide +kernel
theorem d_H_closeYear_44 : decode b_H_closeYear 44 = .ok (.getfield 12, 3) := by decide +kernel
theorem d_H_closeYear_47 : decode b_H_closeYear 47 = .ok (.getfield 109, 3) := by decide +kernel
theorem d_H_closeYear_50 : decode b_H_closeYear 50 = .ok (.iload_n 1, 1) := by decide +kernel
theorem d_H_closeYear_51 : decode b_H_closeYear 51 = .ok (.aaload, 1) := by decide +kernel
theorem d_H_closeYear_52 : decode b_H_closeYear 52 = .ok (.aload_n 0, 1) := by decide +kernel
theorem d_H_closeYear_53 : decode b_H_closeYear 53 = .ok (.getfield 26, 3) := by decide +kernel
theorem d_H_closeYear_56 : decode b_H_closeYear 56 = .ok (.iload_n 1, 1) := by decide +kernel
theorem d_H_closeYear_57 : decode b_H_closeYear 57 = .ok (.invokevirtual 227, 3) := by decide +kernel
theorem d_H_closeYear_60 : decode b_H_closeYear 60 = .ok (.invokevirtual 230, 3) := by decide +kernel
theorem d_H_closeYear_63 : decode b_H_closeYear 63 = .ok (.iinc 1 1, 3) := by decide +kernel
theorem d_H_closeYear_66 : decode b_H_closeYear 66 = .ok (.goto (-34), 3) := by decide +kernel
theorem d_H_closeYear_69 : decode b_H_closeYear 69 = .ok (.aload_n 0, 1) := by decide +kernel
theorem d_H_closeYear_70 : decode b_H_closeYear 70 = .ok (.getfield 19, 3) := by decide +kernel
theorem d_H_closeYear_73 : decode b_H_closeYear 73 = .ok (.invokevirtual 232, 3) := by decide +kernel
theorem d_H_closeYear_76 : decode b_H_closeYear 76 = .ok (.aload_n 0, 1) := by decide +kernel
theorem d_H_closeYear_77 : decode b_H_closeYear 77 = .ok (.iconst (-1), 1) := by decide +kernel
theorem d_H_closeYear_78 : decode b_H_closeYear 78 = .ok (.putfield 62, 3) := by decide +kernel
theorem d_H_closeYear_81 : decode b_H_closeYear 81 = .ok (.aload_n 0, 1) := by decide +kernel
theorem d_H_closeYear_82 : decode b_H_closeYear 82 = .ok (.iconst 0, 1) := by decide +kernel
theorem d_H_closeYear_83 : decode b_H_closeYear 83 = .ok (.putfield 58, 3) := by decide +kernel
theorem d_H_closeYear_86 : decode b_H_closeYear 86 = .ok (.aload_n 0, 1) := by decide +kernel
theorem d_H_closeYear_87 : decode b_H_closeYear 87 = .ok (.iconst 0, 1) := by decide +kernel
theorem d_H_closeYear_88 : decode b_H_closeYear 88 = .ok (.putfield 71, 3) := by decide +kernel
theorem d_H_closeYear_91 : decode b_H_closeYear 91 = .ok (.aload_n 0, 1) := by decide +kernel
theorem d_H_closeYear_92 : decode b_H_closeYear 92 = .ok (.getfield 19, 3) := by decide +kernel
theorem d_H_closeYear_95 : decode b_H_closeYear 95 = .ok (.invokevirtual 144, 3) := by decide +kernel
theorem d_H_closeYear_98 : decode b_H_closeYear 98 = .ok (.ireturn, 1) := by decide +kernel
theorem d_H_known_0 : decode b_H_known 0 = .ok (.aload_n 0, 1) := by decide +kernel
theorem d_H_known_1 : decode b_H_known 1 = .ok (.iload_n 1, 1) := by decide +kernel
theorem d_H_known_2 : decode b_H_known 2 = .ok (.invokevirtual 98, 3) := by decide +kernel
theorem d_H_known_5 : decode b_H_known 5 = .ok (.aload_n 0, 1) := by decide +kernel
theorem d_H_known_6 : decode b_H_known 6 = .ok (.getfield 12, 3) := by decide +kernel
theorem d_H_known_9 : decode b_H_known 9 = .ok (.getfield 109, 3) := by decide +kernel
theorem d_H_known_12 : decode b_H_known 12 = .ok (.iload_n 1, 1) := by decide +kernel
theorem d_H_known_13 : decode b_H_known 13 = .ok (.aaload, 1) := by decide +kernel
theorem d_H_known_14 : decode b_H_known 14 = .ok (.getfield 235, 3) := by decide +kernel
theorem d_H_known_17 : decode b_H_known 17 = .ok (.ireturn, 1) := by decide +kernel
theorem d_H_isOutside_0 : decode b_H_isOutside 0 = .ok (.iload_n 0, 1) := by decide +kernel
theorem d_H_isOutside_1 : decode b_H_isOutside 1 = .ok (.iload_n 1, 1) := by decide +kernel
theorem d_H_isOutside_2 : decode b_H_isOutside 2 = .ok (.if_icmp .lt 8, 3) := by decide +kernel
theorem d_H_isOutside_5 : decode b_H_isOutside 5 = .ok (.iload_n 0, 1) := by decide +kernel
theorem d_H_isOutside_6 : decode b_H_isOutside 6 = .ok (.iload_n 2, 1) := by decide +kernel
theorem d_H_isOutside_7 : decode b_H_isOutside 7 = .ok (.if_icmp .le 7, 3) := by decide +kernel
theorem d_H_isOutside_10 : decode b_H_isOutside 10 = .ok (.iconst 1, 1) := by decide +kernel
theorem d_H_isOutside_11 : decode b_H_isOutside 11 = .ok (.goto 4, 3) := by decide +kernel
theorem d_H_isOutside_14 : decode b_H_isOutside 14 = .ok (.iconst 0, 1) := by decide +kernel
theorem d_H_isOutside_15 : decode b_H_isOutside 15 = .ok (.ireturn, 1) := by decide +kernel
theorem d_H_needFlat_0 : decode b_H_needFlat 0 = .ok (.iload_n 1, 1) := by decide +kernel
theorem d_H_needFlat_1 : decode b_H_needFlat 1 = .ok (.iconst 0, 1) := by decide +kernel
theorem d_H_needFlat_2 : decode b_H_needFlat 2 = .ok (.aload_n 0, 1) := by decide +kernel
theorem d_H_needFlat_3 : decode b_H_needFlat 3 = .ok (.getfield 12, 3) := by decide +kernel
theorem d_H_needFlat_6 : decode b_H_needFlat 6 = .ok (.getfield 86, 3) := by decide +kernel
theorem d_H_needFlat_9 : decode b_H_needFlat 9 = .ok (.iconst 1, 1) := by decide +kernel
theorem d_H_needFlat_10 : decode b_H_needFlat 10 = .ok (.isub, 1) := by decide +kernel
theorem d_H_needFlat_11 : decode b_H_needFlat 11 = .ok (.invokestatic 75, 3) := by decide +kernel
theorem d_H_needFlat_14 : decode b_H_needFlat 14 = .ok (.ifCond .eq 13, 3) := by decide +kernel
theorem d_H_needFlat_17 : decode b_H_needFlat 17 = .ok (.new 102, 3) := by decide +kernel
theorem d_H_needFlat_20 : decode b_H_needFlat 20 = .ok (.dup, 1) := by decide +kernel
theorem d_H_needFlat_21 : decode b_H_needFlat 21 = .ok (.ldc 238, 2) := by decide +kernel
theorem d_H_needFlat_23 : decode b_H_needFlat 23 = .ok (.invokespecial 106, 3) := by decide +kernel
theorem d_H_needFlat_26 : decode b_H_needFlat 26 = .ok (.athrow, 1) := by decide +kernel
theorem d_H_needFlat_27 : decode b_H_needFlat 27 = .ok (.return_, 1) := by decide +kernel
theorem d_H_needRoomForChange_0 : decode b_H_needRoomForChange 0 = .ok (.aload_n 0, 1) := by decide +kernel
theorem d_H_needRoomForChange_1 : decode b_H_needRoomForChange 1 = .ok (.iload_n 1, 1) := by decide +kernel
theorem d_H_needRoomForChange_2 : decode b_H_needRoomForChange 2 = .ok (.invokevirtual 98, 3) := by decide +kernel
theorem d_H_needRoomForChange_5 : decode b_H_needRoomForChange 5 = .ok (.iload_n 2, 1) := by decide +kernel
theorem d_H_needRoomForChange_6 : decode b_H_needRoomForChange 6 = .ok (.iconst 0, 1) := by decide +kernel
theorem d_H_needRoomForChange_7 : decode b_H_needRoomForChange 7 = .ok (.bipush 11, 2) := by decide +kernel
theorem d_H_needRoomForChange_9 : decode b_H_needRoomForChange 9 = .ok (.invokestatic 75, 3) := by decide +kernel
theorem d_H_needRoomForChange_12 : decode b_H_needRoomForChange 12 = .ok (.ifCond .eq 13, 3) := by decide +kernel
theorem d_H_needRoomForChange_15 : decode b_H_needRoomForChange 15 = .ok (.new 102, 3) := by decide +kernel
theorem d_H_needRoomForChange_18 : decode b_H_needRoomForChange 18 = .ok (.dup, 1) := by decide +kernel
theorem d_H_needRoomForChange_19 : decode b_H_needRoomForChange 19 = .ok (.ldc 104, 2) := by decide +kernel
theorem d_H_needRoomForChange_21 : decode b_H_needRoomForChange 21 = .ok (.invokespecial 106, 3) := by decide +kernel
theorem d_H_needRoomForChange_24 : decode b_H_needRoomForChange 24 = .ok (.athrow, 1) := by decide +kernel
theorem d_H_needRoomForChange_25 : decode b_H_needRoomForChange 25 = .ok (.aload_n 0, 1) := by decide +kernel
theorem d_H_needRoomForChange_26 : decode b_H_needRoomForChange 26 = .ok (.getfield 12, 3) := by decide +kernel
theorem d_H_needRoomForChange_29 : decode b_H_needRoomForChange 29 = .ok (.getfield 109, 3) := by decide +kernel
theorem d_H_needRoomForChange_32 : decode b_H_needRoomForChange 32 = .ok (.iload_n 1, 1) := by decide +kernel
theorem d_H_needRoomForChange_33 : decode b_H_needRoomForChange 33 = .ok (.aaload, 1) := by decide +kernel
theorem d_H_needRoomForChange_34 : decode b_H_needRoomForChange 34 = .ok (.iload_n 2, 1) := by decide +kernel
theorem d_H_needRoomForChange_35 : decode b_H_needRoomForChange 35 = .ok (.invokevirtual 240, 3) := by decide +kernel
theorem d_H_needRoomForChange_38 : decode b_H_needRoomForChange 38 = .ok (.ifCond .eq 13, 3) := by decide +kernel
theorem d_H_needRoomForChange_41 : decode b_H_needRoomForChange 41 = .ok (.new 244, 3) := by decide +kernel
theorem d_H_needRoomForChange_44 : decode b_H_needRoomForChange 44 = .ok (.dup, 1) := by decide +kernel
theorem d_H_needRoomForChange_45 : decode b_H_needRoomForChange 45 = .ok (.ldc 246, 2) := by decide +kernel
theorem d_H_needRoomForChange_47 : decode b_H_needRoomForChange 47 = .ok (.invokespecial 248, 3) := by decide +kernel
theorem d_H_needRoomForChange_50 : decode b_H_needRoomForChange 50 = .ok (.athrow, 1) := by decide +kernel
theorem d_H_needRoomForChange_51 : decode b_H_needRoomForChange 51 = .ok (.return_, 1) := by decide +kernel
theorem d_H_needTenant_0 : decode b_H_needTenant 0 = .ok (.iload_n 1, 1) := by decide +kernel
theorem d_H_needTenant_1 : decode b_H_needTenant 1 = .ok (.iconst 0, 1) := by decide +kernel
theorem d_H_needTenant_2 : decode b_H_needTenant 2 = .ok (.aload_n 0, 1) := by decide +kernel
theorem d_H_needTenant_3 : decode b_H_needTenant 3 = .ok (.getfield 47, 3) := by decide +kernel
theorem d_H_needTenant_6 : decode b_H_needTenant 6 = .ok (.getfield 122, 3) := by decide +kernel
theorem d_H_needTenant_9 : decode b_H_needTenant 9 = .ok (.iconst 1, 1) := by decide +kernel
theorem d_H_needTenant_10 : decode b_H_needTenant 10 = .ok (.isub, 1) := by decide +kernel
theorem d_H_needTenant_11 : decode b_H_needTenant 11 = .ok (.invokestatic 75, 3) := by decide +kernel
theorem d_H_needTenant_14 : decode b_H_needTenant 14 = .ok (.ifCond .eq 13, 3) := by decide +kernel
theorem d_H_needTenant_17 : decode b_H_needTenant 17 = .ok (.new 102, 3) := by decide +kernel
theorem d_H_needTenant_20 : decode b_H_needTenant 20 = .ok (.dup, 1) := by decide +kernel
theorem d_H_needTenant_21 : decode b_H_needTenant 21 = .ok (.ldc 249, 2) := by decide +kernel
theorem d_H_needTenant_23 : decode b_H_needTenant 23 = .ok (.invokespecial 106, 3) := by decide +kernel
theorem d_H_needTenant_26 : decode b_H_needTenant 26 = .ok (.athrow, 1) := by decide +kernel
theorem d_H_needTenant_27 : decode b_H_needTenant 27 = .ok (.return_, 1) := by decide +kernel
theorem d_H_needTenantOrLandlord_0 : decode b_H_needTenantOrLandlord 0 = .ok (.iload_n 1, 1) := by decide +kernel
theorem d_H_needTenantOrLandlord_1 : decode b_H_needTenantOrLandlord 1 = .ok (.iconst (-1), 1) := by decide +kernel
theorem d_H_needTenantOrLandlord_2 : decode b_H_needTenantOrLandlord 2 = .ok (.aload_n 0, 1) := by decide +kernel
theorem d_H_needTenantOrLandlord_3 : decode b_H_needTenantOrLandlord 3 = .ok (.getfield 47, 3) := by decide +kernel
theorem d_H_needTenantOrLandlord_6 : decode b_H_needTenantOrLandlord 6 = .ok (.getfield 122, 3) := by decide +kernel
theorem d_H_needTenantOrLandlord_9 : decode b_H_needTenantOrLandlord 9 = .ok (.iconst 1, 1) := by decide +kernel
theorem d_H_needTenantOrLandlord_10 : decode b_H_needTenantOrLandlord 10 = .ok (.isub, 1) := by decide +kernel
theorem d_H_needTenantOrLandlord_11 : decode b_H_needTenantOrLandlord 11 = .ok (.invokestatic 75, 3) := by decide +kernel
theorem d_H_needTenantOrLandlord_14 : decode b_H_needTenantOrLandlord 14 = .ok (.ifCond .eq 13, 3) := by decide +kernel
theorem d_H_needTenantOrLandlord_17 : decode b_H_needTenantOrLandlord 17 = .ok (.new 102, 3) := by decide +kernel
theorem d_H_needTenantOrLandlord_20 : decode b_H_needTenantOrLandlord 20 = .ok (.dup, 1) := by decide +kernel
theorem d_H_needTenantOrLandlord_21 : decode b_H_needTenantOrLandlord 21 = .ok (.ldc 249, 2) := by decide +kernel
theorem d_H_needTenantOrLandlord_23 : decode b_H_needTenantOrLandlord 23 = .ok (.invokespecial 106, 3) := by decide +kernel
theorem d_H_needTenantOrLandlord_26 : decode b_H_needTenantOrLandlord 26 = .ok (.athrow, 1) := by decide +kernel
theorem d_H_needTenantOrLandlord_27 : decode b_H_needTenantOrLandlord 27 = .ok (.return_, 1) := by decide +kernel
theorem d_H_needBill_0 : decode b_H_needBill 0 = .ok (.aload_n 0, 1) := by decide +kernel
theorem d_H_needBill_1 : decode b_H_needBill 1 = .ok (.getfield 71, 3) := by decide +kernel
theorem d_H_needBill_4 : decode b_H_needBill 4 = .ok (.ifCond .ne 13, 3) := by decide +kernel
theorem d_H_needBill_7 : decode b_H_needBill 7 = .ok (.new 244, 3) := by decide +kernel
theorem d_H_needBill_10 : decode b_H_needBill 10 = .ok (.dup, 1) := by decide +kernel
theorem d_H_needBill_11 : decode b_H_needBill 11 = .ok (.ldc 251, 2) := by decide +kernel
theorem d_H_needBill_13 : decode b_H_needBill 13 = .ok (.invokespecial 248, 3) := by decide +kernel
theorem d_H_needBill_16 : decode b_H_needBill 16 = .ok (.athrow, 1) := by decide +kernel
theorem d_H_needBill_17 : decode b_H_needBill 17 = .ok (.return_, 1) := by decide +kernel
theorem d_H_hasDegreesOfYear_0 : decode b_H_hasDegreesOfYear 0 = .ok (.iconst 0, 1) := by decide +kernel
theorem d_H_hasDegreesOfYear_1 : decode b_H_hasDegreesOfYear 1 = .ok (.istore_n 1, 1) := by decide +kernel
theorem d_H_hasDegreesOfYear_2 : decode b_H_hasDegreesOfYear 2 = .ok (.iconst 0, 1) := by decide +kernel
theorem d_H_hasDegreesOfYear_3 : decode b_H_hasDegreesOfYear 3 = .ok (.istore_n 2, 1) := by decide +kernel
theorem d_H_hasDegreesOfYear_4 : decode b_H_hasDegreesOfYear 4 = .ok (.iload_n 2, 1) := by decide +kernel
theorem d_H_hasDegreesOfYear_5 : decode b_H_hasDegreesOfYear 5 = .ok (.bipush 12, 2) := by decide +kernel
theorem d_H_hasDegreesOfYear_7 : decode b_H_hasDegreesOfYear 7 = .ok (.if_icmp .ge 18, 3) := by decide +kernel
theorem d_H_hasDegreesOfYear_10 : decode b_H_hasDegreesOfYear 10 = .ok (.iload_n 1, 1) := by decide +kernel
theorem d_H_hasDegreesOfYear_11 : decode b_H_hasDegreesOfYear 11 = .ok (.aload_n 0, 1) := by decide +kernel
theorem d_H_hasDegreesOfYear_12 : decode b_H_hasDegreesOfYear 12 = .ok (.getfield 51, 3) := by decide +kernel
theorem d_H_hasDegreesOfYear_15 : decode b_H_hasDegreesOfYear 15 = .ok (.iload_n 2, 1) := by decide +kernel
theorem d_H_hasDegreesOfYear_16 : decode b_H_hasDegreesOfYear 16 = .ok (.iaload, 1) := by decide +kernel
theorem d_H_hasDegreesOfYear_17 : decode b_H_hasDegreesOfYear 17 = .ok (.iadd, 1) := by decide +kernel
theorem d_H_hasDegreesOfYear_18 : decode b_H_hasDegreesOfYear 18 = .ok (.istore_n 1, 1) := by decide +kernel
theorem d_H_hasDegreesOfYear_19 : decode b_H_hasDegreesOfYear 19 = .ok (.iinc 2 1, 3) := by decide +kernel
theorem d_H_hasDegreesOfYear_22 : decode b_H_hasDegreesOfYear 22 = .ok (.goto (-18), 3) := by decide +kernel
theorem d_H_hasDegreesOfYear_25 : decode b_H_hasDegreesOfYear 25 = .ok (.iload_n 1, 1) := by decide +kernel
theorem d_H_hasDegreesOfYear_26 : decode b_H_hasDegreesOfYear 26 = .ok (.bipush 100, 2) := by decide +kernel
theorem d_H_hasDegreesOfYear_28 : decode b_H_hasDegreesOfYear 28 = .ok (.if_icmp .ne 7, 3) := by decide +kernel
theorem d_H_hasDegreesOfYear_31 : decode b_H_hasDegreesOfYear 31 = .ok (.iconst 1, 1) := by decide +kernel
theorem d_H_hasDegreesOfYear_32 : decode b_H_hasDegreesOfYear 32 = .ok (.goto 4, 3) := by decide +kernel
theorem d_H_hasDegreesOfYear_35 : decode b_H_hasDegreesOfYear 35 = .ok (.iconst 0, 1) := by decide +kernel
theorem d_H_hasDegreesOfYear_36 : decode b_H_hasDegreesOfYear 36 = .ok (.ireturn, 1) := by decide +kernel
theorem d_H_setBillParts_0 : decode b_H_setBillParts 0 = .ok (.aload_n 0, 1) := by decide +kernel
theorem d_H_setBillParts_1 : decode b_H_setBillParts 1 = .ok (.getfield 19, 3) := by decide +kernel
theorem d_H_setBillParts_4 : decode b_H_setBillParts 4 = .ok (.invokevirtual 253, 3) := by decide +kernel
theorem d_H_setBillParts_7 : decode b_H_setBillParts 7 = .ok (.istore_n 1, 1) := by decide +kernel
theorem d_H_setBillParts_8 : decode b_H_setBillParts 8 = .ok (.aload_n 0, 1) := by decide +kernel
theorem d_H_setBillParts_9 : decode b_H_setBillParts 9 = .ok (.getfield 19, 3) := by decide +kernel
theorem d_H_setBillParts_12 : decode b_H_setBillParts 12 = .ok (.invokevirtual 256, 3) := by decide +kernel
theorem d_H_setBillParts_15 : decode b_H_setBillParts 15 = .ok (.aload_n 0, 1) := by decide +kernel
theorem d_H_setBillParts_16 : decode b_H_setBillParts 16 = .ok (.getfield 58, 3) := by decide +kernel
theorem d_H_setBillParts_19 : decode b_H_setBillParts 19 = .ok (.iadd, 1) := by decide +kernel
theorem d_H_setBillParts_20 : decode b_H_setBillParts 20 = .ok (.istore_n 2, 1) := by decide +kernel
theorem d_H_setBillParts_21 : decode b_H_setBillParts 21 = .ok (.iload_n 1, 1) := by decide +kernel
theorem d_H_setBillParts_22 : decode b_H_setBillParts 22 = .ok (.ifCond .le 19, 3) := by decide +kernel
theorem d_H_setBillParts_25 : decode b_H_setBillParts 25 = .ok (.iload_n 2, 1) := by decide +kernel
theorem d_H_setBillParts_26 : decode b_H_setBillParts 26 = .ok (.i2l, 1) := by decide +kernel
theorem d_H_setBillParts_27 : decode b_H_setBillParts 27 = .ok (.aload_n 0, 1) := by decide +kernel
theorem d_H_setBillParts_28 : decode b_H_setBillParts 28 = .ok (.iload_n 1, 1) := by decide +kernel
theorem d_H_setBillParts_29 : decode b_H_setBillParts 29 = .ok (.invokevirtual 259, 3) := by decide +kernel
theorem d_H_setBillParts_32 : decode b_H_setBillParts 32 = .ok (.i2l, 1) := by decide +kernel
theorem d_H_setBillParts_33 : decode b_H_setBillParts 33 = .ok (.lmul, 1) := by decide +kernel
theorem d_H_setBillParts_34 : decode b_H_setBillParts 34 = .ok (.iload_n 1, 1) := by decide +kernel
theorem d_H_setBillParts_35 : decode b_H_setBillParts 35 = .ok (.i2l, 1) := by decide +kernel
theorem d_H_setBillParts_36 : decode b_H_setBillParts 36 = .ok (.ldiv, 1) := by decide +kernel
theorem d_H_setBillParts_37 : decode b_H_setBillParts 37 = .ok (.l2i, 1) := by decide +kernel
theorem d_H_setBillParts_38 : decode b_H_setBillParts 38 = .ok (.goto 4, 3) := by decide +kernel
theorem d_H_setBillParts_41 : decode b_H_setBillParts 41 = .ok (.iconst 0, 1) := by decide +kernel
theorem d_H_setBillParts_42 : decode b_H_setBillParts 42 = .ok (.istore_n 3, 1) := by decide +kernel
theorem d_H_setBillParts_43 : decode b_H_setBillParts 43 = .ok (.iload_n 2, 1) := by decide +kernel
theorem d_H_setBillParts_44 : decode b_H_setBillParts 44 = .ok (.iload_n 3, 1) := by decide +kernel
theorem d_H_setBillParts_45 : decode b_H_setBillParts 45 = .ok (.isub, 1) := by decide +kernel
theorem d_H_setBillParts_46 : decode b_H_setBillParts 46 = .ok (.i2l, 1) := by decide +kernel
theorem d_H_setBillParts_47 : decode b_H_setBillParts 47 = .ok (.aload_n 0, 1) := by decide +kernel
theorem d_H_setBillParts_48 : decode b_H_setBillParts 48 = .ok (.getfield 68, 3) := by decide +kernel
theorem d_H_setBillParts_51 : decode b_H_setBillParts 51 = .ok (.i2l, 1) := by decide +kernel
theorem d_H_setBillParts_52 : decode b_H_setBillParts 52 = .ok (.lmul, 1) := by decide +kernel
theorem d_H_setBillParts_53 : decode b_H_setBillParts 53 = .ok (.ldc2_w 262, 3) := by decide +kernel
theorem d_H_setBillParts_56 : decode b_H_setBillParts 56 = .ok (.ldiv, 1) := by decide +kernel
theorem d_H_setBillParts_57 : decode b_H_setBillParts 57 = .ok (.l2i, 1) := by decide +kernel
theorem d_H_setBillParts_58 : decode b_H_setBillParts 58 = .ok (.istore 4, 2) := by decide +kernel
theorem d_H_setBillParts_60 : decode b_H_setBillParts 60 = .ok (.aload_n 0, 1) := by decide +kernel
theorem d_H_setBillParts_61 : decode b_H_setBillParts 61 = .ok (.getfield 55, 3) := by decide +kernel
theorem d_H_setBillParts_64 : decode b_H_setBillParts 64 = .ok (.iconst 0, 1) := by decide +kernel
theorem d_H_setBillParts_65 : decode b_H_setBillParts 65 = .ok (.iload_n 1, 1) := by decide +kernel
theorem d_H_setBillParts_66 : decode b_H_setBillParts 66 = .ok (.iastore, 1) := by decide +kernel
theorem d_H_setBillParts_67 : decode b_H_setBillParts 67 = .ok (.aload_n 0, 1) := by decide +kernel
theorem d_H_setBillParts_68 : decode b_H_setBillParts 68 = .ok (.getfield 55, 3) := by decide +kernel
theorem d_H_setBillParts_71 : decode b_H_setBillParts 71 = .ok (.iconst 1, 1) := by decide +kernel
theorem d_H_setBillParts_72 : decode b_H_setBillParts 72 = .ok (.iload_n 2, 1) := by decide +kernel
theorem d_H_setBillParts_73 : decode b_H_setBillParts 73 = .ok (.iastore, 1) := by decide +kernel
theorem d_H_setBillParts_74 : decode b_H_setBillParts 74 = .ok (.aload_n 0, 1) := by decide +kernel
theorem d_H_setBillParts_75 : decode b_H_setBillParts 75 = .ok (.getfield 55, 3) := by decide +kernel
theorem d_H_setBillParts_78 : decode b_H_setBillParts 78 = .ok (.iconst 2, 1) := by decide +kernel
theorem d_H_setBillParts_79 : decode b_H_setBillParts 79 = .ok (.iload_n 3, 1) := by decide +kernel
theorem d_H_setBillParts_80 : decode b_H_setBillParts 80 = .ok (.iastore, 1) := by decide +kernel
theorem d_H_setBillParts_81 : decode b_H_setBillParts 81 = .ok (.aload_n 0, 1) := by decide +kernel
theorem d_H_setBillParts_82 : decode b_H_setBillParts 82 = .ok (.getfield 55, 3) := by decide +kernel
theorem d_H_setBillParts_85 : decode b_H_setBillParts 85 = .ok (.iconst 3, 1) := by decide +kernel
theorem d_H_setBillParts_86 : decode b_H_setBillParts 86 = .ok (.iload 4, 2) := by decide +kernel
theorem d_H_setBillParts_88 : decode b_H_setBillParts 88 = .ok (.iastore, 1) := by decide +kernel
theorem d_H_setBillParts_89 : decode b_H_setBillParts 89 = .ok (.aload_n 0, 1) := by decide +kernel
theorem d_H_setBillParts_90 : decode b_H_setBillParts 90 = .ok (.getfield 55, 3) := by decide +kernel
theorem d_H_setBillParts_93 : decode b_H_setBillParts 93 = .ok (.iconst 4, 1) := by decide +kernel
theorem d_H_setBillParts_94 : decode b_H_setBillParts 94 = .ok (.iload_n 2, 1) := by decide +kernel
theorem d_H_setBillParts_95 : decode b_H_setBillParts 95 = .ok (.iload_n 3, 1) := by decide +kernel
theorem d_H_setBillParts_96 : decode b_H_setBillParts 96 = .ok (.isub, 1) := by decide +kernel
theorem d_H_setBillParts_97 : decode b_H_setBillParts 97 = .ok (.iload 4, 2) := by decide +kernel
theorem d_H_setBillParts_99 : decode b_H_setBillParts 99 = .ok (.isub, 1) := by decide +kernel
theorem d_H_setBillParts_100 : decode b_H_setBillParts 100 = .ok (.iastore, 1) := by decide +kernel
theorem d_H_setBillParts_101 : decode b_H_setBillParts 101 = .ok (.return_, 1) := by decide +kernel
theorem d_H_waterUnits_0 : decode b_H_waterUnits 0 = .ok (.aload_n 0, 1) := by decide +kernel
theorem d_H_waterUnits_1 : decode b_H_waterUnits 1 = .ok (.getfield 62, 3) := by decide +kernel
theorem d_H_waterUnits_4 : decode b_H_waterUnits 4 = .ok (.iconst (-1), 1) := by decide +kernel
theorem d_H_waterUnits_5 : decode b_H_waterUnits 5 = .ok (.if_icmp .ne 13, 3) := by decide +kernel
theorem d_H_waterUnits_8 : decode b_H_waterUnits 8 = .ok (.sipush 180, 3) := by decide +kernel
theorem d_H_waterUnits_11 : decode b_H_waterUnits 11 = .ok (.iload_n 1, 1) := by decide +kernel
theorem d_H_waterUnits_12 : decode b_H_waterUnits 12 = .ok (.imul, 1) := by decide +kernel
theorem d_H_waterUnits_13 : decode b_H_waterUnits 13 = .ok (.sipush 1000, 3) := by decide +kernel
theorem d_H_waterUnits_16 : decode b_H_waterUnits 16 = .ok (.idiv, 1) := by decide +kernel
theorem d_H_waterUnits_17 : decode b_H_waterUnits 17 = .ok (.ireturn, 1) := by decide +kernel
theorem d_H_waterUnits_18 : decode b_H_waterUnits 18 = .ok (.aload_n 0, 1) := by decide +kernel
theorem d_H_waterUnits_19 : decode b_H_waterUnits 19 = .ok (.getfield 62, 3) := by decide +kernel
theorem d_H_waterUnits_22 : decode b_H_waterUnits 22 = .ok (.i2l, 1) := by decide +kernel
theorem d_H_waterUnits_23 : decode b_H_waterUnits 23 = .ok (.aload_n 0, 1) := by decide +kernel
theorem d_H_waterUnits_24 : decode b_H_waterUnits 24 = .ok (.getfield 65, 3) := by decide +kernel
theorem d_H_waterUnits_27 : decode b_H_waterUnits 27 = .ok (.i2l, 1) := by decide +kernel
theorem d_H_waterUnits_28 : decode b_H_waterUnits 28 = .ok (.lmul, 1) := by decide +kernel
theorem d_H_waterUnits_29 : decode b_H_waterUnits 29 = .ok (.ldc2_w 264, 3) := by decide +kernel
theorem d_H_waterUnits_32 : decode b_H_waterUnits 32 = .ok (.lmul, 1) := by decide +kernel
theorem d_H_waterUnits_33 : decode b_H_waterUnits 33 = .ok (.ldc2_w 266, 3) := by decide +kernel
theorem d_H_waterUnits_36 : decode b_H_waterUnits 36 = .ok (.ldiv, 1) := by decide +kernel
theorem d_H_waterUnits_37 : decode b_H_waterUnits 37 = .ok (.lstore_n 2, 1) := by decide +kernel
theorem d_H_waterUnits_38 : decode b_H_waterUnits 38 = .ok (.lload_n 2, 1) := by decide +kernel
theorem d_H_waterUnits_39 : decode b_H_waterUnits 39 = .ok (.sipush 400, 3) := by decide +kernel
theorem d_H_waterUnits_42 : decode b_H_waterUnits 42 = .ok (.iload_n 1, 1) := by decide +kernel
theorem d_H_waterUnits_43 : decode b_H_waterUnits 43 = .ok (.imul, 1) := by decide +kernel
theorem d_H_waterUnits_44 : decode b_H_waterUnits 44 = .ok (.sipush 1000, 3) := by decide +kernel
theorem d_H_waterUnits_47 : decode b_H_waterUnits 47 = .ok (.idiv, 1) := by decide +kernel
theorem d_H_waterUnits_48 : decode b_H_waterUnits 48 = .ok (.i2l, 1) := by decide +kernel
theorem d_H_waterUnits_49 : decode b_H_waterUnits 49 = .ok (.invokestatic 268, 3) := by decide +kernel
theorem d_H_waterUnits_52 : decode b_H_waterUnits 52 = .ok (.l2i, 1) := by decide +kernel
theorem d_H_waterUnits_53 : decode b_H_waterUnits 53 = .ok (.ireturn, 1) := by decide +kernel
theorem d_H_shareParts_0 : decode b_H_shareParts 0 = .ok (.aload_n 0, 1) := by decide +kernel
theorem d_H_shareParts_1 : decode b_H_shareParts 1 = .ok (.getfield 47, 3) := by decide +kernel
theorem d_H_shareParts_4 : decode b_H_shareParts 4 = .ok (.invokevirtual 274, 3) := by decide +kernel
theorem d_H_shareParts_7 : decode b_H_shareParts 7 = .ok (.aload_n 0, 1) := by decide +kernel
theorem d_H_shareParts_8 : decode b_H_shareParts 8 = .ok (.getfield 40, 3) := by decide +kernel
theorem d_H_shareParts_11 : decode b_H_shareParts 11 = .ok (.aload_n 0, 1) := by decide +kernel
theorem d_H_shareParts_12 : decode b_H_shareParts 12 = .ok (.getfield 12, 3) := by decide +kernel
theorem d_H_shareParts_15 : decode b_H_shareParts 15 = .ok (.aload_n 0, 1) := by decide +kernel
theorem d_H_shareParts_16 : decode b_H_shareParts 16 = .ok (.getfield 33, 3) := by decide +kernel
theorem d_H_shareParts_19 : decode b_H_shareParts 19 = .ok (.invokevirtual 277, 3) := by decide +kernel
theorem d_H_shareParts_22 : decode b_H_shareParts 22 = .ok (.aload_n 0, 1) := by decide +kernel
theorem d_H_shareParts_23 : decode b_H_shareParts 23 = .ok (.aload_n 0, 1) := by decide +kernel
theorem d_H_shareParts_24 : decode b_H_shareParts 24 = .ok (.getfield 55, 3) := by decide +kernel
theorem d_H_shareParts_27 : decode b_H_shareParts 27 = .ok (.iconst 3, 1) := by decide +kernel
theorem d_H_shareParts_28 : decode b_H_shareParts 28 = .ok (.iaload, 1) := by decide +kernel
theorem d_H_shareParts_29 : decode b_H_shareParts 29 = .ok (.iconst 0, 1) := by decide +kernel
theorem d_H_shareParts_30 : decode b_H_shareParts 30 = .ok (.invokevirtual 281, 3) := by decide +kernel
theorem d_H_shareParts_33 : decode b_H_shareParts 33 = .ok (.iload_n 1, 1) := by decide +kernel
theorem d_H_shareParts_34 : decode b_H_shareParts 34 = .ok (.ifCond .ne 14, 3) := by decide +kernel
theorem d_H_shareParts_37 : decode b_H_shareParts 37 = .ok (.aload_n 0, 1) := by decide +kernel
theorem d_H_shareParts_38 : decode b_H_shareParts 38 = .ok (.aload_n 0, 1) := by decide +kernel
theorem d_H_shareParts_39 : decode b_H_shareParts 39 = .ok (.getfield 55, 3) := by decide +kernel
theorem d_H_shareParts_42 : decode b_H_shareParts 42 = .ok (.iconst 4, 1) := by decide +kernel
theorem d_H_shareParts_43 : decode b_H_shareParts 43 = .ok (.iaload, 1) := by decide +kernel
theorem d_H_shareParts_44 : decode b_H_shareParts 44 = .ok (.iconst 1, 1) := by decide +kernel
theorem d_H_shareParts_45 : decode b_H_shareParts 45 = .ok (.invokevirtual 281, 3) := by decide +kernel
theorem d_H_shareParts_48 : decode b_H_shareParts 48 = .ok (.aload_n 0, 1) := by decide +kernel
theorem d_H_shareParts_49 : decode b_H_shareParts 49 = .ok (.getfield 12, 3) := by decide +kernel
theorem d_H_shareParts_52 : decode b_H_shareParts 52 = .ok (.invokevirtual 284, 3) := by decide +kernel
theorem d_H_shareParts_55 : decode b_H_shareParts 55 = .ok (.ifCond .eq 18, 3) := by decide +kernel
theorem d_H_shareParts_58 : decode b_H_shareParts 58 = .ok (.aload_n 0, 1) := by decide +kernel
theorem d_H_shareParts_59 : decode b_H_shareParts 59 = .ok (.getfield 40, 3) := by decide +kernel
theorem d_H_shareParts_62 : decode b_H_shareParts 62 = .ok (.aload_n 0, 1) := by decide +kernel
theorem d_H_shareParts_63 : decode b_H_shareParts 63 = .ok (.getfield 12, 3) := by decide +kernel
theorem d_H_shareParts_66 : decode b_H_shareParts 66 = .ok (.aload_n 0, 1) := by decide +kernel
theorem d_H_shareParts_67 : decode b_H_shareParts 67 = .ok (.getfield 33, 3) := by decide +kernel
theorem d_H_shareParts_70 : decode b_H_shareParts 70 = .ok (.invokevirtual 287, 3) := by decide +kernel
theorem d_H_shareParts_73 : decode b_H_shareParts 73 = .ok (.aload_n 0, 1) := by decide +kernel
theorem d_H_shareParts_74 : decode b_H_shareParts 74 = .ok (.aload_n 0, 1) := by decide +kernel
theorem d_H_shareParts_75 : decode b_H_shareParts 75 = .ok (.getfield 55, 3) := by decide +kernel
theorem d_H_shareParts_78 : decode b_H_shareParts 78 = .ok (.iconst 2, 1) := by decide +kernel
theorem d_H_shareParts_79 : decode b_H_shareParts 79 = .ok (.iaload, 1) := by decide +kernel
theorem d_H_shareParts_80 : decode b_H_shareParts 80 = .ok (.iconst 2, 1) := by decide +kernel
theorem d_H_shareParts_81 : decode b_H_shareParts 81 = .ok (.invokevirtual 281, 3) := by decide +kernel
theorem d_H_shareParts_84 : decode b_H_shareParts 84 = .ok (.iload_n 1, 1) := by decide +kernel
theorem d_H_shareParts_85 : decode b_H_shareParts 85 = .ok (.ifCond .eq 37, 3) := by decide +kernel
theorem d_H_shareParts_88 : decode b_H_shareParts 88 = .ok (.aload_n 0, 1) := by decide +kernel
theorem d_H_shareParts_89 : decode b_H_shareParts 89 = .ok (.getfield 40, 3) := by decide +kernel
theorem d_H_shareParts_92 : decode b_H_shareParts 92 = .ok (.aload_n 0, 1) := by decide +kernel
theorem d_H_shareParts_93 : decode b_H_shareParts 93 = .ok (.getfield 12, 3) := by decide +kernel
theorem d_H_shareParts_96 : decode b_H_shareParts 96 = .ok (.aload_n 0, 1) := by decide +kernel
theorem d_H_shareParts_97 : decode b_H_shareParts 97 = .ok (.getfield 33, 3) := by decide +kernel
theorem d_H_shareParts_100 : decode b_H_shareParts 100 = .ok (.aload_n 0, 1) := by decide +kernel
theorem d_H_shareParts_101 : decode b_H_shareParts 101 = .ok (.getfield 26, 3) := by decide +kernel
theorem d_H_shareParts_104 : decode b_H_shareParts 104 = .ok (.aload_n 0, 1) := by decide +kernel
theorem d_H_shareParts_105 : decode b_H_shareParts 105 = .ok (.getfield 51, 3) := by decide +kernel
theorem d_H_shareParts_108 : decode b_H_shareParts 108 = .ok (.invokevirtual 290, 3) := by decide +kernel
theorem d_H_shareParts_111 : decode b_H_shareParts 111 = .ok (.aload_n 0, 1) := by decide +kernel
theorem d_H_shareParts_112 : decode b_H_shareParts 112 = .ok (.aload_n 0, 1) := by decide +kernel
theorem d_H_shareParts_113 : decode b_H_shareParts 113 = .ok (.getfield 55, 3) := by decide +kernel
theorem d_H_shareParts_116 : decode b_H_shareParts 116 = .ok (.iconst 4, 1) := by decide +kernel
theorem d_H_shareParts_117 : decode b_H_shareParts 117 = .ok (.iaload, 1) := by decide +kernel
theorem d_H_shareParts_118 : decode b_H_shareParts 118 = .ok (.iconst 1, 1) := by decide +kernel
theorem d_H_shareParts_119 : decode b_H_shareParts 119 = .ok (.invokevirtual 281, 3) := by decide +kernel
theorem d_H_shareParts_122 : decode b_H_shareParts 122 = .ok (.return_, 1) := by decide +kernel
theorem d_H_sharePart_0 : decode b_H_sharePart 0 = .ok (.aload_n 0, 1) := by decide +kernel
theorem d_H_sharePart_1 : decode b_H_sharePart 1 = .ok (.getfield 40, 3) := by decide +kernel
theorem d_H_sharePart_4 : decode b_H_sharePart 4 = .ok (.iload_n 1, 1) := by decide +kernel
theorem d_H_sharePart_5 : decode b_H_sharePart 5 = .ok (.aload_n 0, 1) := by decide +kernel
theorem d_H_sharePart_6 : decode b_H_sharePart 6 = .ok (.getfield 33, 3) := by decide +kernel
theorem d_H_sharePart_9 : decode b_H_sharePart 9 = .ok (.getfield 294, 3) := by decide +kernel
theorem d_H_sharePart_12 : decode b_H_sharePart 12 = .ok (.invokevirtual 295, 3) := by decide +kernel
theorem d_H_sharePart_15 : decode b_H_sharePart 15 = .ok (.iconst 0, 1) := by decide +kernel
theorem d_H_sharePart_16 : decode b_H_sharePart 16 = .ok (.istore_n 3, 1) := by decide +kernel
theorem d_H_sharePart_17 : decode b_H_sharePart 17 = .ok (.iload_n 3, 1) := by decide +kernel
theorem d_H_sharePart_18 : decode b_H_sharePart 18 = .ok (.aload_n 0, 1) := by decide +kernel
theorem d_H_sharePart_19 : decode b_H_sharePart 19 = .ok (.getfield 33, 3) := by decide +kernel
theorem d_H_sharePart_22 : decode b_H_sharePart 22 = .ok (.getfield 294, 3) := by decide +kernel
theorem d_H_sharePart_25 : decode b_H_sharePart 25 = .ok (.if_icmp .ge 42, 3) := by decide +kernel
theorem d_H_sharePart_28 : decode b_H_sharePart 28 = .ok (.aload_n 0, 1) := by decide +kernel
theorem d_H_sharePart_29 : decode b_H_sharePart 29 = .ok (.getfield 47, 3) := by decide +kernel
theorem d_H_sharePart_32 : decode b_H_sharePart 32 = .ok (.getfield 211, 3) := by decide +kernel
theorem d_H_sharePart_35 : decode b_H_sharePart 35 = .ok (.iload_n 2, 1) := by decide +kernel
theorem d_H_sharePart_36 : decode b_H_sharePart 36 = .ok (.aaload, 1) := by decide +kernel
theorem d_H_sharePart_37 : decode b_H_sharePart 37 = .ok (.aload_n 0, 1) := by decide +kernel
theorem d_H_sharePart_38 : decode b_H_sharePart 38 = .ok (.getfield 33, 3) := by decide +kernel
theorem d_H_sharePart_41 : decode b_H_sharePart 41 = .ok (.getfield 298, 3) := by decide +kernel
theorem d_H_sharePart_44 : decode b_H_sharePart 44 = .ok (.iload_n 3, 1) := by decide +kernel
theorem d_H_sharePart_45 : decode b_H_sharePart 45 = .ok (.iaload, 1) := by decide +kernel
theorem d_H_sharePart_46 : decode b_H_sharePart 46 = .ok (.iconst 1, 1) := by decide +kernel
theorem d_H_sharePart_47 : decode b_H_sharePart 47 = .ok (.iadd, 1) := by decide +kernel
theorem d_H_sharePart_48 : decode b_H_sharePart 48 = .ok (.dup2, 1) := by decide +kernel
theorem d_H_sharePart_49 : decode b_H_sharePart 49 = .ok (.iaload, 1) := by decide +kernel
theorem d_H_sharePart_50 : decode b_H_sharePart 50 = .ok (.aload_n 0, 1) := by decide +kernel
theorem d_H_sharePart_51 : decode b_H_sharePart 51 = .ok (.getfield 40, 3) := by decide +kernel
theorem d_H_sharePart_54 : decode b_H_sharePart 54 = .ok (.getfield 301, 3) := by decide +kernel
theorem d_H_sharePart_57 : decode b_H_sharePart 57 = .ok (.iload_n 3, 1) := by decide +kernel
theorem d_H_sharePart_58 : decode b_H_sharePart 58 = .ok (.iaload, 1) := by decide +kernel
theorem d_H_sharePart_59 : decode b_H_sharePart 59 = .ok (.iadd, 1) := by decide +kernel
theorem d_H_sharePart_60 : decode b_H_sharePart 60 = .ok (.iastore, 1) := by decide +kernel
theorem d_H_sharePart_61 : decode b_H_sharePart 61 = .ok (.iinc 3 1, 3) := by decide +kernel
theorem d_H_sharePart_64 : decode b_H_sharePart 64 = .ok (.goto (-47), 3) := by decide +kernel
theorem d_H_sharePart_67 : decode b_H_sharePart 67 = .ok (.return_, 1) := by decide +kernel
