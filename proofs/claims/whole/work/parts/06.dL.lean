theorem dL_turn_0 : decode cL_turn 0 = .ok (.aload 4, 2) := by decide +kernel
theorem dL_turn_2 : decode cL_turn 2 = .ok (.iconst 0, 1) := by decide +kernel
theorem dL_turn_3 : decode cL_turn 3 = .ok (.aload_n 0, 1) := by decide +kernel
theorem dL_turn_4 : decode cL_turn 4 = .ok (.iload_n 1, 1) := by decide +kernel
theorem dL_turn_5 : decode cL_turn 5 = .ok (.iload_n 2, 1) := by decide +kernel
theorem dL_turn_6 : decode cL_turn 6 = .ok (.iload_n 3, 1) := by decide +kernel
theorem dL_turn_7 : decode cL_turn 7 = .ok (.invokevirtual 37, 3) := by decide +kernel
theorem dL_turn_10 : decode cL_turn 10 = .ok (.i2l, 1) := by decide +kernel
theorem dL_turn_11 : decode cL_turn 11 = .ok (.lastore, 1) := by decide +kernel
theorem dL_turn_12 : decode cL_turn 12 = .ok (.goto 11, 3) := by decide +kernel
theorem dL_turn_15 : decode cL_turn 15 = .ok (.astore 5, 2) := by decide +kernel
theorem dL_turn_17 : decode cL_turn 17 = .ok (.iconst 1, 1) := by decide +kernel
theorem dL_turn_18 : decode cL_turn 18 = .ok (.ireturn, 1) := by decide +kernel
theorem dL_turn_19 : decode cL_turn 19 = .ok (.astore 5, 2) := by decide +kernel
theorem dL_turn_21 : decode cL_turn 21 = .ok (.iconst 2, 1) := by decide +kernel
theorem dL_turn_22 : decode cL_turn 22 = .ok (.ireturn, 1) := by decide +kernel
theorem dL_turn_23 : decode cL_turn 23 = .ok (.iconst 0, 1) := by decide +kernel
theorem dL_turn_24 : decode cL_turn 24 = .ok (.ireturn, 1) := by decide +kernel
theorem dL_power_0 : decode cL_power 0 = .ok (.aload 4, 2) := by decide +kernel
theorem dL_power_2 : decode cL_power 2 = .ok (.iconst 0, 1) := by decide +kernel
theorem dL_power_3 : decode cL_power 3 = .ok (.aload_n 0, 1) := by decide +kernel
theorem dL_power_4 : decode cL_power 4 = .ok (.iload_n 1, 1) := by decide +kernel
theorem dL_power_5 : decode cL_power 5 = .ok (.iload_n 2, 1) := by decide +kernel
theorem dL_power_6 : decode cL_power 6 = .ok (.iload_n 3, 1) := by decide +kernel
theorem dL_power_7 : decode cL_power 7 = .ok (.invokevirtual 40, 3) := by decide +kernel
theorem dL_power_10 : decode cL_power 10 = .ok (.i2l, 1) := by decide +kernel
theorem dL_power_11 : decode cL_power 11 = .ok (.lastore, 1) := by decide +kernel
theorem dL_power_12 : decode cL_power 12 = .ok (.goto 11, 3) := by decide +kernel
theorem dL_power_15 : decode cL_power 15 = .ok (.astore 5, 2) := by decide +kernel
theorem dL_power_17 : decode cL_power 17 = .ok (.iconst 1, 1) := by decide +kernel
theorem dL_power_18 : decode cL_power 18 = .ok (.ireturn, 1) := by decide +kernel
theorem dL_power_19 : decode cL_power 19 = .ok (.astore 5, 2) := by decide +kernel
theorem dL_power_21 : decode cL_power 21 = .ok (.iconst 2, 1) := by decide +kernel
theorem dL_power_22 : decode cL_power 22 = .ok (.ireturn, 1) := by decide +kernel
theorem dL_power_23 : decode cL_power 23 = .ok (.iconst 0, 1) := by decide +kernel
theorem dL_power_24 : decode cL_power 24 = .ok (.ireturn, 1) := by decide +kernel
theorem dL_root_0 : decode cL_root 0 = .ok (.aload_n 3, 1) := by decide +kernel
theorem dL_root_1 : decode cL_root 1 = .ok (.iconst 0, 1) := by decide +kernel
theorem dL_root_2 : decode cL_root 2 = .ok (.aload_n 0, 1) := by decide +kernel
theorem dL_root_3 : decode cL_root 3 = .ok (.iload_n 1, 1) := by decide +kernel
theorem dL_root_4 : decode cL_root 4 = .ok (.iload_n 2, 1) := by decide +kernel
theorem dL_root_5 : decode cL_root 5 = .ok (.invokevirtual 43, 3) := by decide +kernel
theorem dL_root_8 : decode cL_root 8 = .ok (.lastore, 1) := by decide +kernel
theorem dL_root_9 : decode cL_root 9 = .ok (.goto 11, 3) := by decide +kernel
theorem dL_root_12 : decode cL_root 12 = .ok (.astore 4, 2) := by decide +kernel
theorem dL_root_14 : decode cL_root 14 = .ok (.iconst 1, 1) := by decide +kernel
theorem dL_root_15 : decode cL_root 15 = .ok (.ireturn, 1) := by decide +kernel
theorem dL_root_16 : decode cL_root 16 = .ok (.astore 4, 2) := by decide +kernel
theorem dL_root_18 : decode cL_root 18 = .ok (.iconst 2, 1) := by decide +kernel
theorem dL_root_19 : decode cL_root 19 = .ok (.ireturn, 1) := by decide +kernel
theorem dL_root_20 : decode cL_root 20 = .ok (.iconst 0, 1) := by decide +kernel
theorem dL_root_21 : decode cL_root 21 = .ok (.ireturn, 1) := by decide +kernel
theorem dL_order_0 : decode cL_order 0 = .ok (.aload_n 2, 1) := by decide +kernel
theorem dL_order_1 : decode cL_order 1 = .ok (.iconst 0, 1) := by decide +kernel
theorem dL_order_2 : decode cL_order 2 = .ok (.aload_n 0, 1) := by decide +kernel
theorem dL_order_3 : decode cL_order 3 = .ok (.iload_n 1, 1) := by decide +kernel
theorem dL_order_4 : decode cL_order 4 = .ok (.invokevirtual 47, 3) := by decide +kernel
theorem dL_order_7 : decode cL_order 7 = .ok (.i2l, 1) := by decide +kernel
theorem dL_order_8 : decode cL_order 8 = .ok (.lastore, 1) := by decide +kernel
theorem dL_order_9 : decode cL_order 9 = .ok (.goto 6, 3) := by decide +kernel
theorem dL_order_12 : decode cL_order 12 = .ok (.astore_n 3, 1) := by decide +kernel
theorem dL_order_13 : decode cL_order 13 = .ok (.iconst 1, 1) := by decide +kernel
theorem dL_order_14 : decode cL_order 14 = .ok (.ireturn, 1) := by decide +kernel
theorem dL_order_15 : decode cL_order 15 = .ok (.iconst 0, 1) := by decide +kernel
theorem dL_order_16 : decode cL_order 16 = .ok (.ireturn, 1) := by decide +kernel
theorem dL_about_0 : decode cL_about 0 = .ok (.aload_n 3, 1) := by decide +kernel
theorem dL_about_1 : decode cL_about 1 = .ok (.iconst 0, 1) := by decide +kernel
theorem dL_about_2 : decode cL_about 2 = .ok (.aload_n 0, 1) := by decide +kernel
theorem dL_about_3 : decode cL_about 3 = .ok (.iload_n 1, 1) := by decide +kernel
theorem dL_about_4 : decode cL_about 4 = .ok (.iload_n 2, 1) := by decide +kernel
theorem dL_about_5 : decode cL_about 5 = .ok (.invokevirtual 50, 3) := by decide +kernel
theorem dL_about_8 : decode cL_about 8 = .ok (.i2l, 1) := by decide +kernel
theorem dL_about_9 : decode cL_about 9 = .ok (.lastore, 1) := by decide +kernel
theorem dL_about_10 : decode cL_about 10 = .ok (.goto 11, 3) := by decide +kernel
theorem dL_about_13 : decode cL_about 13 = .ok (.astore 4, 2) := by decide +kernel
theorem dL_about_15 : decode cL_about 15 = .ok (.iconst 1, 1) := by decide +kernel
theorem dL_about_16 : decode cL_about 16 = .ok (.ireturn, 1) := by decide +kernel
theorem dL_about_17 : decode cL_about 17 = .ok (.astore 4, 2) := by decide +kernel
theorem dL_about_19 : decode cL_about 19 = .ok (.iconst 2, 1) := by decide +kernel
theorem dL_about_20 : decode cL_about 20 = .ok (.ireturn, 1) := by decide +kernel
theorem dL_about_21 : decode cL_about 21 = .ok (.iconst 0, 1) := by decide +kernel
theorem dL_about_22 : decode cL_about 22 = .ok (.ireturn, 1) := by decide +kernel
theorem dL_same_0 : decode cL_same 0 = .ok (.aload_n 3, 1) := by decide +kernel
theorem dL_same_1 : decode cL_same 1 = .ok (.iconst 0, 1) := by decide +kernel
theorem dL_same_2 : decode cL_same 2 = .ok (.aload_n 0, 1) := by decide +kernel
theorem dL_same_3 : decode cL_same 3 = .ok (.iload_n 1, 1) := by decide +kernel
theorem dL_same_4 : decode cL_same 4 = .ok (.iload_n 2, 1) := by decide +kernel
theorem dL_same_5 : decode cL_same 5 = .ok (.invokevirtual 53, 3) := by decide +kernel
theorem dL_same_8 : decode cL_same 8 = .ok (.ifCond .eq 7, 3) := by decide +kernel
theorem dL_same_11 : decode cL_same 11 = .ok (.lconst 1, 1) := by decide +kernel
theorem dL_same_12 : decode cL_same 12 = .ok (.goto 4, 3) := by decide +kernel
theorem dL_same_15 : decode cL_same 15 = .ok (.lconst 0, 1) := by decide +kernel
theorem dL_same_16 : decode cL_same 16 = .ok (.lastore, 1) := by decide +kernel
theorem dL_same_17 : decode cL_same 17 = .ok (.goto 7, 3) := by decide +kernel
theorem dL_same_20 : decode cL_same 20 = .ok (.astore 4, 2) := by decide +kernel
theorem dL_same_22 : decode cL_same 22 = .ok (.iconst 1, 1) := by decide +kernel
theorem dL_same_23 : decode cL_same 23 = .ok (.ireturn, 1) := by decide +kernel
theorem dL_same_24 : decode cL_same 24 = .ok (.iconst 0, 1) := by decide +kernel
theorem dL_same_25 : decode cL_same 25 = .ok (.ireturn, 1) := by decide +kernel
theorem dL_divides_0 : decode cL_divides 0 = .ok (.aload_n 3, 1) := by decide +kernel
theorem dL_divides_1 : decode cL_divides 1 = .ok (.iconst 0, 1) := by decide +kernel
theorem dL_divides_2 : decode cL_divides 2 = .ok (.aload_n 0, 1) := by decide +kernel
theorem dL_divides_3 : decode cL_divides 3 = .ok (.iload_n 1, 1) := by decide +kernel
theorem dL_divides_4 : decode cL_divides 4 = .ok (.iload_n 2, 1) := by decide +kernel
theorem dL_divides_5 : decode cL_divides 5 = .ok (.invokevirtual 57, 3) := by decide +kernel
theorem dL_divides_8 : decode cL_divides 8 = .ok (.ifCond .eq 7, 3) := by decide +kernel
theorem dL_divides_11 : decode cL_divides 11 = .ok (.lconst 1, 1) := by decide +kernel
theorem dL_divides_12 : decode cL_divides 12 = .ok (.goto 4, 3) := by decide +kernel
theorem dL_divides_15 : decode cL_divides 15 = .ok (.lconst 0, 1) := by decide +kernel
theorem dL_divides_16 : decode cL_divides 16 = .ok (.lastore, 1) := by decide +kernel
theorem dL_divides_17 : decode cL_divides 17 = .ok (.goto 7, 3) := by decide +kernel
theorem dL_divides_20 : decode cL_divides 20 = .ok (.astore 4, 2) := by decide +kernel
theorem dL_divides_22 : decode cL_divides 22 = .ok (.iconst 1, 1) := by decide +kernel
theorem dL_divides_23 : decode cL_divides 23 = .ok (.ireturn, 1) := by decide +kernel
theorem dL_divides_24 : decode cL_divides 24 = .ok (.iconst 0, 1) := by decide +kernel
theorem dL_divides_25 : decode cL_divides 25 = .ok (.ireturn, 1) := by decide +kernel
