/-! Decode rows. -/
theorem d_L_flat_0 : decode b_L_flat 0 = .ok (.aload 4, 2) := by decide +kernel
theorem d_L_flat_2 : decode b_L_flat 2 = .ok (.iconst 0, 1) := by decide +kernel
theorem d_L_flat_3 : decode b_L_flat 3 = .ok (.aload_n 0, 1) := by decide +kernel
theorem d_L_flat_4 : decode b_L_flat 4 = .ok (.iload_n 1, 1) := by decide +kernel
theorem d_L_flat_5 : decode b_L_flat 5 = .ok (.iload_n 2, 1) := by decide +kernel
theorem d_L_flat_6 : decode b_L_flat 6 = .ok (.iload_n 3, 1) := by decide +kernel
theorem d_L_flat_7 : decode b_L_flat 7 = .ok (.invokevirtual 7, 3) := by decide +kernel
theorem d_L_flat_10 : decode b_L_flat 10 = .ok (.i2l, 1) := by decide +kernel
theorem d_L_flat_11 : decode b_L_flat 11 = .ok (.lastore, 1) := by decide +kernel
theorem d_L_flat_12 : decode b_L_flat 12 = .ok (.goto 11, 3) := by decide +kernel
theorem d_L_flat_15 : decode b_L_flat 15 = .ok (.astore 5, 2) := by decide +kernel
theorem d_L_flat_17 : decode b_L_flat 17 = .ok (.iconst 1, 1) := by decide +kernel
theorem d_L_flat_18 : decode b_L_flat 18 = .ok (.ireturn, 1) := by decide +kernel
theorem d_L_flat_19 : decode b_L_flat 19 = .ok (.astore 5, 2) := by decide +kernel
theorem d_L_flat_21 : decode b_L_flat 21 = .ok (.iconst 2, 1) := by decide +kernel
theorem d_L_flat_22 : decode b_L_flat 22 = .ok (.ireturn, 1) := by decide +kernel
theorem d_L_flat_23 : decode b_L_flat 23 = .ok (.iconst 0, 1) := by decide +kernel
theorem d_L_flat_24 : decode b_L_flat 24 = .ok (.ireturn, 1) := by decide +kernel
theorem d_L_reading_0 : decode b_L_reading 0 = .ok (.aload_n 0, 1) := by decide +kernel
theorem d_L_reading_1 : decode b_L_reading 1 = .ok (.iload_n 1, 1) := by decide +kernel
theorem d_L_reading_2 : decode b_L_reading 2 = .ok (.iload_n 2, 1) := by decide +kernel
theorem d_L_reading_3 : decode b_L_reading 3 = .ok (.iload_n 3, 1) := by decide +kernel
theorem d_L_reading_4 : decode b_L_reading 4 = .ok (.invokevirtual 17, 3) := by decide +kernel
theorem d_L_reading_7 : decode b_L_reading 7 = .ok (.goto 11, 3) := by decide +kernel
theorem d_L_reading_10 : decode b_L_reading 10 = .ok (.astore 4, 2) := by decide +kernel
theorem d_L_reading_12 : decode b_L_reading 12 = .ok (.iconst 1, 1) := by decide +kernel
theorem d_L_reading_13 : decode b_L_reading 13 = .ok (.ireturn, 1) := by decide +kernel
theorem d_L_reading_14 : decode b_L_reading 14 = .ok (.astore 4, 2) := by decide +kernel
theorem d_L_reading_16 : decode b_L_reading 16 = .ok (.iconst 2, 1) := by decide +kernel
theorem d_L_reading_17 : decode b_L_reading 17 = .ok (.ireturn, 1) := by decide +kernel
theorem d_L_reading_18 : decode b_L_reading 18 = .ok (.iconst 0, 1) := by decide +kernel
theorem d_L_reading_19 : decode b_L_reading 19 = .ok (.ireturn, 1) := by decide +kernel
theorem d_L_enter_0 : decode b_L_enter 0 = .ok (.aload_n 3, 1) := by decide +kernel
theorem d_L_enter_1 : decode b_L_enter 1 = .ok (.iconst 0, 1) := by decide +kernel
theorem d_L_enter_2 : decode b_L_enter 2 = .ok (.aload_n 0, 1) := by decide +kernel
theorem d_L_enter_3 : decode b_L_enter 3 = .ok (.iload_n 1, 1) := by decide +kernel
theorem d_L_enter_4 : decode b_L_enter 4 = .ok (.iload_n 2, 1) := by decide +kernel
theorem d_L_enter_5 : decode b_L_enter 5 = .ok (.invokevirtual 23, 3) := by decide +kernel
theorem d_L_enter_8 : decode b_L_enter 8 = .ok (.i2l, 1) := by decide +kernel
theorem d_L_enter_9 : decode b_L_enter 9 = .ok (.lastore, 1) := by decide +kernel
theorem d_L_enter_10 : decode b_L_enter 10 = .ok (.goto 15, 3) := by decide +kernel
theorem d_L_enter_13 : decode b_L_enter 13 = .ok (.astore 4, 2) := by decide +kernel
theorem d_L_enter_15 : decode b_L_enter 15 = .ok (.iconst 1, 1) := by decide +kernel
theorem d_L_enter_16 : decode b_L_enter 16 = .ok (.ireturn, 1) := by decide +kernel
theorem d_L_enter_17 : decode b_L_enter 17 = .ok (.astore 4, 2) := by decide +kernel
theorem d_L_enter_19 : decode b_L_enter 19 = .ok (.iconst 2, 1) := by decide +kernel
theorem d_L_enter_20 : decode b_L_enter 20 = .ok (.ireturn, 1) := by decide +kernel
theorem d_L_enter_21 : decode b_L_enter 21 = .ok (.astore 4, 2) := by decide +kernel
theorem d_L_enter_23 : decode b_L_enter 23 = .ok (.iconst 3, 1) := by decide +kernel
theorem d_L_enter_24 : decode b_L_enter 24 = .ok (.ireturn, 1) := by decide +kernel
theorem d_L_enter_25 : decode b_L_enter 25 = .ok (.iconst 0, 1) := by decide +kernel
theorem d_L_enter_26 : decode b_L_enter 26 = .ok (.ireturn, 1) := by decide +kernel
theorem d_L_leave_0 : decode b_L_leave 0 = .ok (.aload_n 0, 1) := by decide +kernel
theorem d_L_leave_1 : decode b_L_leave 1 = .ok (.iload_n 1, 1) := by decide +kernel
theorem d_L_leave_2 : decode b_L_leave 2 = .ok (.iload_n 2, 1) := by decide +kernel
theorem d_L_leave_3 : decode b_L_leave 3 = .ok (.invokevirtual 29, 3) := by decide +kernel
theorem d_L_leave_6 : decode b_L_leave 6 = .ok (.goto 9, 3) := by decide +kernel
theorem d_L_leave_9 : decode b_L_leave 9 = .ok (.astore_n 3, 1) := by decide +kernel
theorem d_L_leave_10 : decode b_L_leave 10 = .ok (.iconst 1, 1) := by decide +kernel
theorem d_L_leave_11 : decode b_L_leave 11 = .ok (.ireturn, 1) := by decide +kernel
theorem d_L_leave_12 : decode b_L_leave 12 = .ok (.astore_n 3, 1) := by decide +kernel
theorem d_L_leave_13 : decode b_L_leave 13 = .ok (.iconst 2, 1) := by decide +kernel
theorem d_L_leave_14 : decode b_L_leave 14 = .ok (.ireturn, 1) := by decide +kernel
theorem d_L_leave_15 : decode b_L_leave 15 = .ok (.iconst 0, 1) := by decide +kernel
theorem d_L_leave_16 : decode b_L_leave 16 = .ok (.ireturn, 1) := by decide +kernel
theorem d_L_deliver_0 : decode b_L_deliver 0 = .ok (.aload_n 0, 1) := by decide +kernel
theorem d_L_deliver_1 : decode b_L_deliver 1 = .ok (.iload_n 1, 1) := by decide +kernel
theorem d_L_deliver_2 : decode b_L_deliver 2 = .ok (.iload_n 2, 1) := by decide +kernel
theorem d_L_deliver_3 : decode b_L_deliver 3 = .ok (.invokevirtual 33, 3) := by decide +kernel
theorem d_L_deliver_6 : decode b_L_deliver 6 = .ok (.goto 9, 3) := by decide +kernel
theorem d_L_deliver_9 : decode b_L_deliver 9 = .ok (.astore_n 3, 1) := by decide +kernel
theorem d_L_deliver_10 : decode b_L_deliver 10 = .ok (.iconst 1, 1) := by decide +kernel
theorem d_L_deliver_11 : decode b_L_deliver 11 = .ok (.ireturn, 1) := by decide +kernel
theorem d_L_deliver_12 : decode b_L_deliver 12 = .ok (.astore_n 3, 1) := by decide +kernel
theorem d_L_deliver_13 : decode b_L_deliver 13 = .ok (.iconst 2, 1) := by decide +kernel
theorem d_L_deliver_14 : decode b_L_deliver 14 = .ok (.ireturn, 1) := by decide +kernel
theorem d_L_deliver_15 : decode b_L_deliver 15 = .ok (.iconst 0, 1) := by decide +kernel
theorem d_L_deliver_16 : decode b_L_deliver 16 = .ok (.ireturn, 1) := by decide +kernel
theorem d_L_endStock_0 : decode b_L_endStock 0 = .ok (.aload_n 0, 1) := by decide +kernel
theorem d_L_endStock_1 : decode b_L_endStock 1 = .ok (.iload_n 1, 1) := by decide +kernel
theorem d_L_endStock_2 : decode b_L_endStock 2 = .ok (.invokevirtual 36, 3) := by decide +kernel
theorem d_L_endStock_5 : decode b_L_endStock 5 = .ok (.goto 6, 3) := by decide +kernel
theorem d_L_endStock_8 : decode b_L_endStock 8 = .ok (.astore_n 2, 1) := by decide +kernel
theorem d_L_endStock_9 : decode b_L_endStock 9 = .ok (.iconst 1, 1) := by decide +kernel
theorem d_L_endStock_10 : decode b_L_endStock 10 = .ok (.ireturn, 1) := by decide +kernel
theorem d_L_endStock_11 : decode b_L_endStock 11 = .ok (.iconst 0, 1) := by decide +kernel
theorem d_L_endStock_12 : decode b_L_endStock 12 = .ok (.ireturn, 1) := by decide +kernel
theorem d_L_sideCosts_0 : decode b_L_sideCosts 0 = .ok (.aload_n 0, 1) := by decide +kernel
theorem d_L_sideCosts_1 : decode b_L_sideCosts 1 = .ok (.iload_n 1, 1) := by decide +kernel
theorem d_L_sideCosts_2 : decode b_L_sideCosts 2 = .ok (.invokevirtual 40, 3) := by decide +kernel
theorem d_L_sideCosts_5 : decode b_L_sideCosts 5 = .ok (.goto 6, 3) := by decide +kernel
theorem d_L_sideCosts_8 : decode b_L_sideCosts 8 = .ok (.astore_n 2, 1) := by decide +kernel
theorem d_L_sideCosts_9 : decode b_L_sideCosts 9 = .ok (.iconst 1, 1) := by decide +kernel
theorem d_L_sideCosts_10 : decode b_L_sideCosts 10 = .ok (.ireturn, 1) := by decide +kernel
theorem d_L_sideCosts_11 : decode b_L_sideCosts 11 = .ok (.iconst 0, 1) := by decide +kernel
theorem d_L_sideCosts_12 : decode b_L_sideCosts 12 = .ok (.ireturn, 1) := by decide +kernel
theorem d_L_water_0 : decode b_L_water 0 = .ok (.aload_n 0, 1) := by decide +kernel
theorem d_L_water_1 : decode b_L_water 1 = .ok (.iload_n 1, 1) := by decide +kernel
theorem d_L_water_2 : decode b_L_water 2 = .ok (.iload_n 2, 1) := by decide +kernel
theorem d_L_water_3 : decode b_L_water 3 = .ok (.invokevirtual 43, 3) := by decide +kernel
theorem d_L_water_6 : decode b_L_water 6 = .ok (.goto 6, 3) := by decide +kernel
theorem d_L_water_9 : decode b_L_water 9 = .ok (.astore_n 3, 1) := by decide +kernel
theorem d_L_water_10 : decode b_L_water 10 = .ok (.iconst 1, 1) := by decide +kernel
theorem d_L_water_11 : decode b_L_water 11 = .ok (.ireturn, 1) := by decide +kernel
theorem d_L_water_12 : decode b_L_water 12 = .ok (.iconst 0, 1) := by decide +kernel
theorem d_L_water_13 : decode b_L_water 13 = .ok (.ireturn, 1) := by decide +kernel
theorem d_L_permille_0 : decode b_L_permille 0 = .ok (.aload_n 0, 1) := by decide +kernel
theorem d_L_permille_1 : decode b_L_permille 1 = .ok (.iload_n 1, 1) := by decide +kernel
theorem d_L_permille_2 : decode b_L_permille 2 = .ok (.invokevirtual 46, 3) := by decide +kernel
theorem d_L_permille_5 : decode b_L_permille 5 = .ok (.goto 6, 3) := by decide +kernel
theorem d_L_permille_8 : decode b_L_permille 8 = .ok (.astore_n 2, 1) := by decide +kernel
theorem d_L_permille_9 : decode b_L_permille 9 = .ok (.iconst 1, 1) := by decide +kernel
theorem d_L_permille_10 : decode b_L_permille 10 = .ok (.ireturn, 1) := by decide +kernel
theorem d_L_permille_11 : decode b_L_permille 11 = .ok (.iconst 0, 1) := by decide +kernel
theorem d_L_permille_12 : decode b_L_permille 12 = .ok (.ireturn, 1) := by decide +kernel
theorem d_L_degrees_0 : decode b_L_degrees 0 = .ok (.aload_n 0, 1) := by decide +kernel
theorem d_L_degrees_1 : decode b_L_degrees 1 = .ok (.iload_n 1, 1) := by decide +kernel
theorem d_L_degrees_2 : decode b_L_degrees 2 = .ok (.iload_n 2, 1) := by decide +kernel
theorem d_L_degrees_3 : decode b_L_degrees 3 = .ok (.invokevirtual 49, 3) := by decide +kernel
theorem d_L_degrees_6 : decode b_L_degrees 6 = .ok (.goto 9, 3) := by decide +kernel
theorem d_L_degrees_9 : decode b_L_degrees 9 = .ok (.astore_n 3, 1) := by decide +kernel
theorem d_L_degrees_10 : decode b_L_degrees 10 = .ok (.iconst 1, 1) := by decide +kernel
theorem d_L_degrees_11 : decode b_L_degrees 11 = .ok (.ireturn, 1) := by decide +kernel
theorem d_L_degrees_12 : decode b_L_degrees 12 = .ok (.astore_n 3, 1) := by decide +kernel
theorem d_L_degrees_13 : decode b_L_degrees 13 = .ok (.iconst 2, 1) := by decide +kernel
theorem d_L_degrees_14 : decode b_L_degrees 14 = .ok (.ireturn, 1) := by decide +kernel
theorem d_L_degrees_15 : decode b_L_degrees 15 = .ok (.iconst 0, 1) := by decide +kernel
theorem d_L_degrees_16 : decode b_L_degrees 16 = .ok (.ireturn, 1) := by decide +kernel
theorem d_L_prepay_0 : decode b_L_prepay 0 = .ok (.aload_n 0, 1) := by decide +kernel
theorem d_L_prepay_1 : decode b_L_prepay 1 = .ok (.iload_n 1, 1) := by decide +kernel
theorem d_L_prepay_2 : decode b_L_prepay 2 = .ok (.iload_n 2, 1) := by decide +kernel
theorem d_L_prepay_3 : decode b_L_prepay 3 = .ok (.invokevirtual 52, 3) := by decide +kernel
theorem d_L_prepay_6 : decode b_L_prepay 6 = .ok (.goto 9, 3) := by decide +kernel
theorem d_L_prepay_9 : decode b_L_prepay 9 = .ok (.astore_n 3, 1) := by decide +kernel
theorem d_L_prepay_10 : decode b_L_prepay 10 = .ok (.iconst 1, 1) := by decide +kernel
theorem d_L_prepay_11 : decode b_L_prepay 11 = .ok (.ireturn, 1) := by decide +kernel
theorem d_L_prepay_12 : decode b_L_prepay 12 = .ok (.astore_n 3, 1) := by decide +kernel
theorem d_L_prepay_13 : decode b_L_prepay 13 = .ok (.iconst 2, 1) := by decide +kernel
theorem d_L_prepay_14 : decode b_L_prepay 14 = .ok (.ireturn, 1) := by decide +kernel
theorem d_L_prepay_15 : decode b_L_prepay 15 = .ok (.iconst 0, 1) := by decide +kernel
theorem d_L_prepay_16 : decode b_L_prepay 16 = .ok (.ireturn, 1) := by decide +kernel
theorem d_L_amount_0 : decode b_L_amount 0 = .ok (.aload_n 3, 1) := by decide +kernel
theorem d_L_amount_1 : decode b_L_amount 1 = .ok (.iconst 0, 1) := by decide +kernel
theorem d_L_amount_2 : decode b_L_amount 2 = .ok (.aload_n 0, 1) := by decide +kernel
theorem d_L_amount_3 : decode b_L_amount 3 = .ok (.iload_n 1, 1) := by decide +kernel
theorem d_L_amount_4 : decode b_L_amount 4 = .ok (.iload_n 2, 1) := by decide +kernel
theorem d_L_amount_5 : decode b_L_amount 5 = .ok (.invokevirtual 55, 3) := by decide +kernel
theorem d_L_amount_8 : decode b_L_amount 8 = .ok (.i2l, 1) := by decide +kernel
theorem d_L_amount_9 : decode b_L_amount 9 = .ok (.lastore, 1) := by decide +kernel
theorem d_L_amount_10 : decode b_L_amount 10 = .ok (.goto 11, 3) := by decide +kernel
theorem d_L_amount_13 : decode b_L_amount 13 = .ok (.astore 4, 2) := by decide +kernel
theorem d_L_amount_15 : decode b_L_amount 15 = .ok (.iconst 1, 1) := by decide +kernel
theorem d_L_amount_16 : decode b_L_amount 16 = .ok (.ireturn, 1) := by decide +kernel
theorem d_L_amount_17 : decode b_L_amount 17 = .ok (.astore 4, 2) := by decide +kernel
theorem d_L_amount_19 : decode b_L_amount 19 = .ok (.iconst 2, 1) := by decide +kernel
theorem d_L_amount_20 : decode b_L_amount 20 = .ok (.ireturn, 1) := by decide +kernel
theorem d_L_amount_21 : decode b_L_amount 21 = .ok (.iconst 0, 1) := by decide +kernel
theorem d_L_amount_22 : decode b_L_amount 22 = .ok (.ireturn, 1) := by decide +kernel
theorem d_L_paid_0 : decode b_L_paid 0 = .ok (.aload_n 2, 1) := by decide +kernel
theorem d_L_paid_1 : decode b_L_paid 1 = .ok (.iconst 0, 1) := by decide +kernel
theorem d_L_paid_2 : decode b_L_paid 2 = .ok (.aload_n 0, 1) := by decide +kernel
theorem d_L_paid_3 : decode b_L_paid 3 = .ok (.iload_n 1, 1) := by decide +kernel
theorem d_L_paid_4 : decode b_L_paid 4 = .ok (.invokevirtual 58, 3) := by decide +kernel
theorem d_L_paid_7 : decode b_L_paid 7 = .ok (.i2l, 1) := by decide +kernel
theorem d_L_paid_8 : decode b_L_paid 8 = .ok (.lastore, 1) := by decide +kernel
theorem d_L_paid_9 : decode b_L_paid 9 = .ok (.goto 6, 3) := by decide +kernel
theorem d_L_paid_12 : decode b_L_paid 12 = .ok (.astore_n 3, 1) := by decide +kernel
theorem d_L_paid_13 : decode b_L_paid 13 = .ok (.iconst 1, 1) := by decide +kernel
theorem d_L_paid_14 : decode b_L_paid 14 = .ok (.ireturn, 1) := by decide +kernel
theorem d_L_paid_15 : decode b_L_paid 15 = .ok (.iconst 0, 1) := by decide +kernel
theorem d_L_paid_16 : decode b_L_paid 16 = .ok (.ireturn, 1) := by decide +kernel
theorem d_L_part_0 : decode b_L_part 0 = .ok (.aload_n 2, 1) := by decide +kernel
theorem d_L_part_1 : decode b_L_part 1 = .ok (.iconst 0, 1) := by decide +kernel
theorem d_L_part_2 : decode b_L_part 2 = .ok (.aload_n 0, 1) := by decide +kernel
theorem d_L_part_3 : decode b_L_part 3 = .ok (.iload_n 1, 1) := by decide +kernel
theorem d_L_part_4 : decode b_L_part 4 = .ok (.invokevirtual 62, 3) := by decide +kernel
theorem d_L_part_7 : decode b_L_part 7 = .ok (.i2l, 1) := by decide +kernel
theorem d_L_part_8 : decode b_L_part 8 = .ok (.lastore, 1) := by decide +kernel
theorem d_L_part_9 : decode b_L_part 9 = .ok (.goto 9, 3) := by decide +kernel
theorem d_L_part_12 : decode b_L_part 12 = .ok (.astore_n 3, 1) := by decide +kernel
theorem d_L_part_13 : decode b_L_part 13 = .ok (.iconst 1, 1) := by decide +kernel
theorem d_L_part_14 : decode b_L_part 14 = .ok (.ireturn, 1) := by decide +kernel
theorem d_L_part_15 : decode b_L_part 15 = .ok (.astore_n 3, 1) := by decide +kernel
theorem d_L_part_16 : decode b_L_part 16 = .ok (.iconst 2, 1) := by decide +kernel
theorem d_L_part_17 : decode b_L_part 17 = .ok (.ireturn, 1) := by decide +kernel
theorem d_L_part_18 : decode b_L_part 18 = .ok (.iconst 0, 1) := by decide +kernel
theorem d_L_part_19 : decode b_L_part 19 = .ok (.ireturn, 1) := by decide +kernel
theorem d_L_replaced_0 : decode b_L_replaced 0 = .ok (.aload_n 2, 1) := by decide +kernel
theorem d_L_replaced_1 : decode b_L_replaced 1 = .ok (.iconst 0, 1) := by decide +kernel
theorem d_L_replaced_2 : decode b_L_replaced 2 = .ok (.aload_n 0, 1) := by decide +kernel
theorem d_L_replaced_3 : decode b_L_replaced 3 = .ok (.iload_n 1, 1) := by decide +kernel
theorem d_L_replaced_4 : decode b_L_replaced 4 = .ok (.invokevirtual 65, 3) := by decide +kernel
theorem d_L_replaced_7 : decode b_L_replaced 7 = .ok (.i2l, 1) := by decide +kernel
theorem d_L_replaced_8 : decode b_L_replaced 8 = .ok (.lastore, 1) := by decide +kernel
theorem d_L_replaced_9 : decode b_L_replaced 9 = .ok (.goto 6, 3) := by decide +kernel
theorem d_L_replaced_12 : decode b_L_replaced 12 = .ok (.astore_n 3, 1) := by decide +kernel
theorem d_L_replaced_13 : decode b_L_replaced 13 = .ok (.iconst 1, 1) := by decide +kernel
theorem d_L_replaced_14 : decode b_L_replaced 14 = .ok (.ireturn, 1) := by decide +kernel
theorem d_L_replaced_15 : decode b_L_replaced 15 = .ok (.iconst 0, 1) := by decide +kernel
theorem d_L_replaced_16 : decode b_L_replaced 16 = .ok (.ireturn, 1) := by decide +kernel
theorem d_L_send_0 : decode b_L_send 0 = .ok (.aload_n 1, 1) := by decide +kernel
theorem d_L_send_1 : decode b_L_send 1 = .ok (.iconst 0, 1) := by decide +kernel
theorem d_L_send_2 : decode b_L_send 2 = .ok (.aload_n 0, 1) := by decide +kernel
theorem d_L_send_3 : decode b_L_send 3 = .ok (.invokevirtual 68, 3) := by decide +kernel
theorem d_L_send_6 : decode b_L_send 6 = .ok (.i2l, 1) := by decide +kernel
theorem d_L_send_7 : decode b_L_send 7 = .ok (.lastore, 1) := by decide +kernel
theorem d_L_send_8 : decode b_L_send 8 = .ok (.goto 6, 3) := by decide +kernel
theorem d_L_send_11 : decode b_L_send 11 = .ok (.astore_n 2, 1) := by decide +kernel
theorem d_L_send_12 : decode b_L_send 12 = .ok (.iconst 1, 1) := by decide +kernel
theorem d_L_send_13 : decode b_L_send 13 = .ok (.ireturn, 1) := by decide +kernel
theorem d_L_send_14 : decode b_L_send 14 = .ok (.iconst 0, 1) := by decide +kernel
theorem d_L_send_15 : decode b_L_send 15 = .ok (.ireturn, 1) := by decide +kernel
theorem d_L_sent_0 : decode b_L_sent 0 = .ok (.aload_n 2, 1) := by decide +kernel
theorem d_L_sent_1 : decode b_L_sent 1 = .ok (.iconst 0, 1) := by decide +kernel
theorem d_L_sent_2 : decode b_L_sent 2 = .ok (.aload_n 0, 1) := by decide +kernel
theorem d_L_sent_3 : decode b_L_sent 3 = .ok (.iload_n 1, 1) := by decide +kernel
theorem d_L_sent_4 : decode b_L_sent 4 = .ok (.invokevirtual 72, 3) := by decide +kernel
theorem d_L_sent_7 : decode b_L_sent 7 = .ok (.i2l, 1) := by decide +kernel
theorem d_L_sent_8 : decode b_L_sent 8 = .ok (.lastore, 1) := by decide +kernel
theorem d_L_sent_9 : decode b_L_sent 9 = .ok (.goto 6, 3) := by decide +kernel
theorem d_L_sent_12 : decode b_L_sent 12 = .ok (.astore_n 3, 1) := by decide +kernel
theorem d_L_sent_13 : decode b_L_sent 13 = .ok (.iconst 1, 1) := by decide +kernel
theorem d_L_sent_14 : decode b_L_sent 14 = .ok (.ireturn, 1) := by decide +kernel
theorem d_L_sent_15 : decode b_L_sent 15 = .ok (.iconst 0, 1) := by decide +kernel
theorem d_L_sent_16 : decode b_L_sent 16 = .ok (.ireturn, 1) := by decide +kernel
theorem d_L_closeYear_0 : decode b_L_closeYear 0 = .ok (.aload_n 1, 1) := by decide +kernel
theorem d_L_closeYear_1 : decode b_L_closeYear 1 = .ok (.iconst 0, 1) := by decide +kernel
theorem d_L_closeYear_2 : decode b_L_closeYear 2 = .ok (.aload_n 0, 1) := by decide +kernel
theorem d_L_closeYear_3 : decode b_L_closeYear 3 = .ok (.invokevirtual 75, 3) := by decide +kernel
theorem d_L_closeYear_6 : decode b_L_closeYear 6 = .ok (.i2l, 1) := by decide +kernel
theorem d_L_closeYear_7 : decode b_L_closeYear 7 = .ok (.lastore, 1) := by decide +kernel
theorem d_L_closeYear_8 : decode b_L_closeYear 8 = .ok (.goto 6, 3) := by decide +kernel
theorem d_L_closeYear_11 : decode b_L_closeYear 11 = .ok (.astore_n 2, 1) := by decide +kernel
theorem d_L_closeYear_12 : decode b_L_closeYear 12 = .ok (.iconst 1, 1) := by decide +kernel
theorem d_L_closeYear_13 : decode b_L_closeYear 13 = .ok (.ireturn, 1) := by decide +kernel
theorem d_L_closeYear_14 : decode b_L_closeYear 14 = .ok (.iconst 0, 1) := by decide +kernel
theorem d_L_closeYear_15 : decode b_L_closeYear 15 = .ok (.ireturn, 1) := by decide +kernel
theorem d_L_known_0 : decode b_L_known 0 = .ok (.aload_n 2, 1) := by decide +kernel
theorem d_L_known_1 : decode b_L_known 1 = .ok (.iconst 0, 1) := by decide +kernel
theorem d_L_known_2 : decode b_L_known 2 = .ok (.aload_n 0, 1) := by decide +kernel
theorem d_L_known_3 : decode b_L_known 3 = .ok (.iload_n 1, 1) := by decide +kernel
theorem d_L_known_4 : decode b_L_known 4 = .ok (.invokevirtual 78, 3) := by decide +kernel
theorem d_L_known_7 : decode b_L_known 7 = .ok (.i2l, 1) := by decide +kernel
theorem d_L_known_8 : decode b_L_known 8 = .ok (.lastore, 1) := by decide +kernel
theorem d_L_known_9 : decode b_L_known 9 = .ok (.goto 6, 3) := by decide +kernel
theorem d_L_known_12 : decode b_L_known 12 = .ok (.astore_n 3, 1) := by decide +kernel
theorem d_L_known_13 : decode b_L_known 13 = .ok (.iconst 1, 1) := by decide +kernel
theorem d_L_known_14 : decode b_L_known 14 = .ok (.ireturn, 1) := by decide +kernel
theorem d_L_known_15 : decode b_L_known 15 = .ok (.iconst 0, 1) := by decide +kernel
theorem d_L_known_16 : decode b_L_known 16 = .ok (.ireturn, 1) := by decide +kernel
