theorem dX0_turn_0 : decode cX0_turn 0 = .ok (.aload_n 0, 1) := by decide +kernel
theorem dX0_turn_1 : decode cX0_turn 1 = .ok (.iload_n 1, 1) := by decide +kernel
theorem dX0_turn_2 : decode cX0_turn 2 = .ok (.invokevirtual 39, 3) := by decide +kernel
theorem dX0_turn_5 : decode cX0_turn 5 = .ok (.aload_n 0, 1) := by decide +kernel
theorem dX0_turn_6 : decode cX0_turn 6 = .ok (.iload_n 2, 1) := by decide +kernel
theorem dX0_turn_7 : decode cX0_turn 7 = .ok (.invokevirtual 39, 3) := by decide +kernel
theorem dX0_turn_10 : decode cX0_turn 10 = .ok (.iload_n 3, 1) := by decide +kernel
theorem dX0_turn_11 : decode cX0_turn 11 = .ok (.iconst 2, 1) := by decide +kernel
theorem dX0_turn_12 : decode cX0_turn 12 = .ok (.irem, 1) := by decide +kernel
theorem dX0_turn_13 : decode cX0_turn 13 = .ok (.ifCond .ne 13, 3) := by decide +kernel
theorem dX0_turn_16 : decode cX0_turn 16 = .ok (.new 28, 3) := by decide +kernel
theorem dX0_turn_19 : decode cX0_turn 19 = .ok (.dup, 1) := by decide +kernel
theorem dX0_turn_20 : decode cX0_turn 20 = .ok (.ldc 77, 2) := by decide +kernel
theorem dX0_turn_22 : decode cX0_turn 22 = .ok (.invokespecial 32, 3) := by decide +kernel
theorem dX0_turn_25 : decode cX0_turn 25 = .ok (.athrow, 1) := by decide +kernel
theorem dX0_turn_26 : decode cX0_turn 26 = .ok (.iload_n 3, 1) := by decide +kernel
theorem dX0_turn_27 : decode cX0_turn 27 = .ok (.iconst 2, 1) := by decide +kernel
theorem dX0_turn_28 : decode cX0_turn 28 = .ok (.aload_n 0, 1) := by decide +kernel
theorem dX0_turn_29 : decode cX0_turn 29 = .ok (.getfield 58, 3) := by decide +kernel
theorem dX0_turn_32 : decode cX0_turn 32 = .ok (.imul, 1) := by decide +kernel
theorem dX0_turn_33 : decode cX0_turn 33 = .ok (.invokestatic 52, 3) := by decide +kernel
theorem dX0_turn_36 : decode cX0_turn 36 = .ok (.istore 4, 2) := by decide +kernel
theorem dX0_turn_38 : decode cX0_turn 38 = .ok (.iconst 0, 1) := by decide +kernel
theorem dX0_turn_39 : decode cX0_turn 39 = .ok (.istore 5, 2) := by decide +kernel
theorem dX0_turn_41 : decode cX0_turn 41 = .ok (.iload 5, 2) := by decide +kernel
theorem dX0_turn_43 : decode cX0_turn 43 = .ok (.aload_n 0, 1) := by decide +kernel
theorem dX0_turn_44 : decode cX0_turn 44 = .ok (.getfield 58, 3) := by decide +kernel
theorem dX0_turn_47 : decode cX0_turn 47 = .ok (.if_icmp .ge 31, 3) := by decide +kernel
theorem dX0_turn_50 : decode cX0_turn 50 = .ok (.aload_n 0, 1) := by decide +kernel
theorem dX0_turn_51 : decode cX0_turn 51 = .ok (.getfield 14, 3) := by decide +kernel
theorem dX0_turn_54 : decode cX0_turn 54 = .ok (.iload 5, 2) := by decide +kernel
theorem dX0_turn_56 : decode cX0_turn 56 = .ok (.aload_n 0, 1) := by decide +kernel
theorem dX0_turn_57 : decode cX0_turn 57 = .ok (.getfield 11, 3) := by decide +kernel
theorem dX0_turn_60 : decode cX0_turn 60 = .ok (.iload_n 2, 1) := by decide +kernel
theorem dX0_turn_61 : decode cX0_turn 61 = .ok (.aaload, 1) := by decide +kernel
theorem dX0_turn_62 : decode cX0_turn 62 = .ok (.aload_n 0, 1) := by decide +kernel
theorem dX0_turn_63 : decode cX0_turn 63 = .ok (.iload 5, 2) := by decide +kernel
theorem dX0_turn_65 : decode cX0_turn 65 = .ok (.iload 4, 2) := by decide +kernel
theorem dX0_turn_67 : decode cX0_turn 67 = .ok (.invokevirtual 79, 3) := by decide +kernel
theorem dX0_turn_70 : decode cX0_turn 70 = .ok (.iaload, 1) := by decide +kernel
theorem dX0_turn_71 : decode cX0_turn 71 = .ok (.iastore, 1) := by decide +kernel
theorem dX0_turn_72 : decode cX0_turn 72 = .ok (.iinc 5 1, 3) := by decide +kernel
theorem dX0_turn_75 : decode cX0_turn 75 = .ok (.goto (-34), 3) := by decide +kernel
theorem dX0_turn_78 : decode cX0_turn 78 = .ok (.aload_n 0, 1) := by decide +kernel
theorem dX0_turn_79 : decode cX0_turn 79 = .ok (.getfield 14, 3) := by decide +kernel
theorem dX0_turn_82 : decode cX0_turn 82 = .ok (.iconst 0, 1) := by decide +kernel
theorem dX0_turn_83 : decode cX0_turn 83 = .ok (.aload_n 0, 1) := by decide +kernel
theorem dX0_turn_84 : decode cX0_turn 84 = .ok (.getfield 11, 3) := by decide +kernel
theorem dX0_turn_87 : decode cX0_turn 87 = .ok (.iload_n 1, 1) := by decide +kernel
theorem dX0_turn_88 : decode cX0_turn 88 = .ok (.aaload, 1) := by decide +kernel
theorem dX0_turn_89 : decode cX0_turn 89 = .ok (.iconst 0, 1) := by decide +kernel
theorem dX0_turn_90 : decode cX0_turn 90 = .ok (.aload_n 0, 1) := by decide +kernel
theorem dX0_turn_91 : decode cX0_turn 91 = .ok (.getfield 58, 3) := by decide +kernel
theorem dX0_turn_94 : decode cX0_turn 94 = .ok (.invokestatic 82, 3) := by decide +kernel
theorem dX0_turn_97 : decode cX0_turn 97 = .ok (.aload_n 0, 1) := by decide +kernel
theorem dX0_turn_98 : decode cX0_turn 98 = .ok (.getfield 11, 3) := by decide +kernel
theorem dX0_turn_101 : decode cX0_turn 101 = .ok (.iload_n 1, 1) := by decide +kernel
theorem dX0_turn_102 : decode cX0_turn 102 = .ok (.aaload, 1) := by decide +kernel
theorem dX0_turn_103 : decode cX0_turn 103 = .ok (.iconst 0, 1) := by decide +kernel
theorem dX0_turn_104 : decode cX0_turn 104 = .ok (.iaload, 1) := by decide +kernel
theorem dX0_turn_105 : decode cX0_turn 105 = .ok (.ireturn, 1) := by decide +kernel
theorem dX0_power_0 : decode cX0_power 0 = .ok (.aload_n 0, 1) := by decide +kernel
theorem dX0_power_1 : decode cX0_power 1 = .ok (.iload_n 1, 1) := by decide +kernel
theorem dX0_power_2 : decode cX0_power 2 = .ok (.invokevirtual 39, 3) := by decide +kernel
theorem dX0_power_5 : decode cX0_power 5 = .ok (.aload_n 0, 1) := by decide +kernel
theorem dX0_power_6 : decode cX0_power 6 = .ok (.iload_n 2, 1) := by decide +kernel
theorem dX0_power_7 : decode cX0_power 7 = .ok (.invokevirtual 39, 3) := by decide +kernel
theorem dX0_power_10 : decode cX0_power 10 = .ok (.iload_n 3, 1) := by decide +kernel
theorem dX0_power_11 : decode cX0_power 11 = .ok (.ifCond .ge 8, 3) := by decide +kernel
theorem dX0_power_14 : decode cX0_power 14 = .ok (.aload_n 0, 1) := by decide +kernel
theorem dX0_power_15 : decode cX0_power 15 = .ok (.iload_n 2, 1) := by decide +kernel
theorem dX0_power_16 : decode cX0_power 16 = .ok (.invokevirtual 66, 3) := by decide +kernel
theorem dX0_power_19 : decode cX0_power 19 = .ok (.iload_n 3, 1) := by decide +kernel
theorem dX0_power_20 : decode cX0_power 20 = .ok (.ifCond .ge 16, 3) := by decide +kernel
theorem dX0_power_23 : decode cX0_power 23 = .ok (.iload_n 3, 1) := by decide +kernel
theorem dX0_power_24 : decode cX0_power 24 = .ok (.aload_n 0, 1) := by decide +kernel
theorem dX0_power_25 : decode cX0_power 25 = .ok (.getfield 49, 3) := by decide +kernel
theorem dX0_power_28 : decode cX0_power 28 = .ok (.iconst 1, 1) := by decide +kernel
theorem dX0_power_29 : decode cX0_power 29 = .ok (.isub, 1) := by decide +kernel
theorem dX0_power_30 : decode cX0_power 30 = .ok (.invokestatic 52, 3) := by decide +kernel
theorem dX0_power_33 : decode cX0_power 33 = .ok (.goto 4, 3) := by decide +kernel
theorem dX0_power_36 : decode cX0_power 36 = .ok (.iload_n 3, 1) := by decide +kernel
theorem dX0_power_37 : decode cX0_power 37 = .ok (.istore 4, 2) := by decide +kernel
theorem dX0_power_39 : decode cX0_power 39 = .ok (.iconst 0, 1) := by decide +kernel
theorem dX0_power_40 : decode cX0_power 40 = .ok (.istore 5, 2) := by decide +kernel
theorem dX0_power_42 : decode cX0_power 42 = .ok (.iload 5, 2) := by decide +kernel
theorem dX0_power_44 : decode cX0_power 44 = .ok (.aload_n 0, 1) := by decide +kernel
theorem dX0_power_45 : decode cX0_power 45 = .ok (.getfield 58, 3) := by decide +kernel
theorem dX0_power_48 : decode cX0_power 48 = .ok (.if_icmp .ge 33, 3) := by decide +kernel
theorem dX0_power_51 : decode cX0_power 51 = .ok (.aload_n 0, 1) := by decide +kernel
theorem dX0_power_52 : decode cX0_power 52 = .ok (.getfield 11, 3) := by decide +kernel
theorem dX0_power_55 : decode cX0_power 55 = .ok (.iload_n 1, 1) := by decide +kernel
theorem dX0_power_56 : decode cX0_power 56 = .ok (.aaload, 1) := by decide +kernel
theorem dX0_power_57 : decode cX0_power 57 = .ok (.iload 5, 2) := by decide +kernel
theorem dX0_power_59 : decode cX0_power 59 = .ok (.aload_n 0, 1) := by decide +kernel
theorem dX0_power_60 : decode cX0_power 60 = .ok (.aload_n 0, 1) := by decide +kernel
theorem dX0_power_61 : decode cX0_power 61 = .ok (.getfield 11, 3) := by decide +kernel
theorem dX0_power_64 : decode cX0_power 64 = .ok (.iload_n 2, 1) := by decide +kernel
theorem dX0_power_65 : decode cX0_power 65 = .ok (.aaload, 1) := by decide +kernel
theorem dX0_power_66 : decode cX0_power 66 = .ok (.iload 5, 2) := by decide +kernel
theorem dX0_power_68 : decode cX0_power 68 = .ok (.iaload, 1) := by decide +kernel
theorem dX0_power_69 : decode cX0_power 69 = .ok (.iload 4, 2) := by decide +kernel
theorem dX0_power_71 : decode cX0_power 71 = .ok (.invokevirtual 88, 3) := by decide +kernel
theorem dX0_power_74 : decode cX0_power 74 = .ok (.iastore, 1) := by decide +kernel
theorem dX0_power_75 : decode cX0_power 75 = .ok (.iinc 5 1, 3) := by decide +kernel
theorem dX0_power_78 : decode cX0_power 78 = .ok (.goto (-36), 3) := by decide +kernel
theorem dX0_power_81 : decode cX0_power 81 = .ok (.aload_n 0, 1) := by decide +kernel
theorem dX0_power_82 : decode cX0_power 82 = .ok (.aload_n 0, 1) := by decide +kernel
theorem dX0_power_83 : decode cX0_power 83 = .ok (.getfield 11, 3) := by decide +kernel
theorem dX0_power_86 : decode cX0_power 86 = .ok (.iload_n 1, 1) := by decide +kernel
theorem dX0_power_87 : decode cX0_power 87 = .ok (.aaload, 1) := by decide +kernel
theorem dX0_power_88 : decode cX0_power 88 = .ok (.invokevirtual 73, 3) := by decide +kernel
theorem dX0_power_91 : decode cX0_power 91 = .ok (.ireturn, 1) := by decide +kernel
theorem dX0_root_0 : decode cX0_root 0 = .ok (.aload_n 0, 1) := by decide +kernel
theorem dX0_root_1 : decode cX0_root 1 = .ok (.iload_n 1, 1) := by decide +kernel
theorem dX0_root_2 : decode cX0_root 2 = .ok (.invokevirtual 39, 3) := by decide +kernel
theorem dX0_root_5 : decode cX0_root 5 = .ok (.aload_n 0, 1) := by decide +kernel
theorem dX0_root_6 : decode cX0_root 6 = .ok (.iload_n 2, 1) := by decide +kernel
theorem dX0_root_7 : decode cX0_root 7 = .ok (.invokevirtual 39, 3) := by decide +kernel
theorem dX0_root_10 : decode cX0_root 10 = .ok (.iconst 0, 1) := by decide +kernel
theorem dX0_root_11 : decode cX0_root 11 = .ok (.istore_n 3, 1) := by decide +kernel
theorem dX0_root_12 : decode cX0_root 12 = .ok (.iload_n 3, 1) := by decide +kernel
theorem dX0_root_13 : decode cX0_root 13 = .ok (.aload_n 0, 1) := by decide +kernel
theorem dX0_root_14 : decode cX0_root 14 = .ok (.getfield 58, 3) := by decide +kernel
theorem dX0_root_17 : decode cX0_root 17 = .ok (.if_icmp .ge 46, 3) := by decide +kernel
theorem dX0_root_20 : decode cX0_root 20 = .ok (.aload_n 0, 1) := by decide +kernel
theorem dX0_root_21 : decode cX0_root 21 = .ok (.getfield 14, 3) := by decide +kernel
theorem dX0_root_24 : decode cX0_root 24 = .ok (.iload_n 3, 1) := by decide +kernel
theorem dX0_root_25 : decode cX0_root 25 = .ok (.aload_n 0, 1) := by decide +kernel
theorem dX0_root_26 : decode cX0_root 26 = .ok (.aload_n 0, 1) := by decide +kernel
theorem dX0_root_27 : decode cX0_root 27 = .ok (.getfield 11, 3) := by decide +kernel
theorem dX0_root_30 : decode cX0_root 30 = .ok (.iload_n 2, 1) := by decide +kernel
theorem dX0_root_31 : decode cX0_root 31 = .ok (.aaload, 1) := by decide +kernel
theorem dX0_root_32 : decode cX0_root 32 = .ok (.iload_n 3, 1) := by decide +kernel
theorem dX0_root_33 : decode cX0_root 33 = .ok (.iaload, 1) := by decide +kernel
theorem dX0_root_34 : decode cX0_root 34 = .ok (.invokevirtual 91, 3) := by decide +kernel
theorem dX0_root_37 : decode cX0_root 37 = .ok (.iastore, 1) := by decide +kernel
theorem dX0_root_38 : decode cX0_root 38 = .ok (.aload_n 0, 1) := by decide +kernel
theorem dX0_root_39 : decode cX0_root 39 = .ok (.getfield 14, 3) := by decide +kernel
theorem dX0_root_42 : decode cX0_root 42 = .ok (.iload_n 3, 1) := by decide +kernel
theorem dX0_root_43 : decode cX0_root 43 = .ok (.iaload, 1) := by decide +kernel
theorem dX0_root_44 : decode cX0_root 44 = .ok (.ifCond .ge 13, 3) := by decide +kernel
theorem dX0_root_47 : decode cX0_root 47 = .ok (.new 95, 3) := by decide +kernel
theorem dX0_root_50 : decode cX0_root 50 = .ok (.dup, 1) := by decide +kernel
theorem dX0_root_51 : decode cX0_root 51 = .ok (.ldc 97, 2) := by decide +kernel
theorem dX0_root_53 : decode cX0_root 53 = .ok (.invokespecial 99, 3) := by decide +kernel
theorem dX0_root_56 : decode cX0_root 56 = .ok (.athrow, 1) := by decide +kernel
theorem dX0_root_57 : decode cX0_root 57 = .ok (.iinc 3 1, 3) := by decide +kernel
theorem dX0_root_60 : decode cX0_root 60 = .ok (.goto (-48), 3) := by decide +kernel
theorem dX0_root_63 : decode cX0_root 63 = .ok (.aload_n 0, 1) := by decide +kernel
theorem dX0_root_64 : decode cX0_root 64 = .ok (.getfield 14, 3) := by decide +kernel
theorem dX0_root_67 : decode cX0_root 67 = .ok (.iconst 0, 1) := by decide +kernel
theorem dX0_root_68 : decode cX0_root 68 = .ok (.aload_n 0, 1) := by decide +kernel
theorem dX0_root_69 : decode cX0_root 69 = .ok (.getfield 11, 3) := by decide +kernel
theorem dX0_root_72 : decode cX0_root 72 = .ok (.iload_n 1, 1) := by decide +kernel
theorem dX0_root_73 : decode cX0_root 73 = .ok (.aaload, 1) := by decide +kernel
theorem dX0_root_74 : decode cX0_root 74 = .ok (.iconst 0, 1) := by decide +kernel
theorem dX0_root_75 : decode cX0_root 75 = .ok (.aload_n 0, 1) := by decide +kernel
theorem dX0_root_76 : decode cX0_root 76 = .ok (.getfield 58, 3) := by decide +kernel
theorem dX0_root_79 : decode cX0_root 79 = .ok (.invokestatic 82, 3) := by decide +kernel
theorem dX0_root_82 : decode cX0_root 82 = .ok (.lconst 1, 1) := by decide +kernel
theorem dX0_root_83 : decode cX0_root 83 = .ok (.aload_n 0, 1) := by decide +kernel
theorem dX0_root_84 : decode cX0_root 84 = .ok (.getfield 58, 3) := by decide +kernel
theorem dX0_root_87 : decode cX0_root 87 = .ok (.aload_n 0, 1) := by decide +kernel
theorem dX0_root_88 : decode cX0_root 88 = .ok (.aload_n 0, 1) := by decide +kernel
theorem dX0_root_89 : decode cX0_root 89 = .ok (.getfield 14, 3) := by decide +kernel
theorem dX0_root_92 : decode cX0_root 92 = .ok (.invokevirtual 73, 3) := by decide +kernel
theorem dX0_root_95 : decode cX0_root 95 = .ok (.isub, 1) := by decide +kernel
theorem dX0_root_96 : decode cX0_root 96 = .ok (.lshl, 1) := by decide +kernel
theorem dX0_root_97 : decode cX0_root 97 = .ok (.lreturn, 1) := by decide +kernel
theorem dX0_order_0 : decode cX0_order 0 = .ok (.aload_n 0, 1) := by decide +kernel
theorem dX0_order_1 : decode cX0_order 1 = .ok (.iload_n 1, 1) := by decide +kernel
theorem dX0_order_2 : decode cX0_order 2 = .ok (.invokevirtual 39, 3) := by decide +kernel
theorem dX0_order_5 : decode cX0_order 5 = .ok (.aload_n 0, 1) := by decide +kernel
theorem dX0_order_6 : decode cX0_order 6 = .ok (.aload_n 0, 1) := by decide +kernel
theorem dX0_order_7 : decode cX0_order 7 = .ok (.getfield 11, 3) := by decide +kernel
theorem dX0_order_10 : decode cX0_order 10 = .ok (.iload_n 1, 1) := by decide +kernel
theorem dX0_order_11 : decode cX0_order 11 = .ok (.aaload, 1) := by decide +kernel
theorem dX0_order_12 : decode cX0_order 12 = .ok (.invokevirtual 73, 3) := by decide +kernel
theorem dX0_order_15 : decode cX0_order 15 = .ok (.ifCond .le 5, 3) := by decide +kernel
theorem dX0_order_18 : decode cX0_order 18 = .ok (.iconst 0, 1) := by decide +kernel
theorem dX0_order_19 : decode cX0_order 19 = .ok (.ireturn, 1) := by decide +kernel
theorem dX0_order_20 : decode cX0_order 20 = .ok (.iconst 1, 1) := by decide +kernel
theorem dX0_order_21 : decode cX0_order 21 = .ok (.istore_n 2, 1) := by decide +kernel
theorem dX0_order_22 : decode cX0_order 22 = .ok (.iload_n 2, 1) := by decide +kernel
theorem dX0_order_23 : decode cX0_order 23 = .ok (.aload_n 0, 1) := by decide +kernel
theorem dX0_order_24 : decode cX0_order 24 = .ok (.getfield 49, 3) := by decide +kernel
theorem dX0_order_27 : decode cX0_order 27 = .ok (.iconst 1, 1) := by decide +kernel
theorem dX0_order_28 : decode cX0_order 28 = .ok (.isub, 1) := by decide +kernel
theorem dX0_order_29 : decode cX0_order 29 = .ok (.if_icmp .ge 23, 3) := by decide +kernel
theorem dX0_order_32 : decode cX0_order 32 = .ok (.aload_n 0, 1) := by decide +kernel
theorem dX0_order_33 : decode cX0_order 33 = .ok (.aload_n 0, 1) := by decide +kernel
theorem dX0_order_34 : decode cX0_order 34 = .ok (.getfield 11, 3) := by decide +kernel
theorem dX0_order_37 : decode cX0_order 37 = .ok (.iload_n 1, 1) := by decide +kernel
theorem dX0_order_38 : decode cX0_order 38 = .ok (.aaload, 1) := by decide +kernel
theorem dX0_order_39 : decode cX0_order 39 = .ok (.iload_n 2, 1) := by decide +kernel
theorem dX0_order_40 : decode cX0_order 40 = .ok (.invokevirtual 100, 3) := by decide +kernel
theorem dX0_order_43 : decode cX0_order 43 = .ok (.ifCond .ne 9, 3) := by decide +kernel
theorem dX0_order_46 : decode cX0_order 46 = .ok (.iinc 2 1, 3) := by decide +kernel
theorem dX0_order_49 : decode cX0_order 49 = .ok (.goto (-27), 3) := by decide +kernel
theorem dX0_order_52 : decode cX0_order 52 = .ok (.iload_n 2, 1) := by decide +kernel
theorem dX0_order_53 : decode cX0_order 53 = .ok (.ireturn, 1) := by decide +kernel
theorem dX0_about_0 : decode cX0_about 0 = .ok (.aload_n 0, 1) := by decide +kernel
theorem dX0_about_1 : decode cX0_about 1 = .ok (.iload_n 1, 1) := by decide +kernel
theorem dX0_about_2 : decode cX0_about 2 = .ok (.invokevirtual 39, 3) := by decide +kernel
theorem dX0_about_5 : decode cX0_about 5 = .ok (.iload_n 2, 1) := by decide +kernel
theorem dX0_about_6 : decode cX0_about 6 = .ok (.tableswitch 104 0 5 #[38, 49, 60, 71, 82, 93], 38) := by decide +kernel
theorem dX0_about_44 : decode cX0_about 44 = .ok (.aload_n 0, 1) := by decide +kernel
theorem dX0_about_45 : decode cX0_about 45 = .ok (.aload_n 0, 1) := by decide +kernel
theorem dX0_about_46 : decode cX0_about 46 = .ok (.getfield 11, 3) := by decide +kernel
theorem dX0_about_49 : decode cX0_about 49 = .ok (.iload_n 1, 1) := by decide +kernel
theorem dX0_about_50 : decode cX0_about 50 = .ok (.aaload, 1) := by decide +kernel
theorem dX0_about_51 : decode cX0_about 51 = .ok (.invokevirtual 104, 3) := by decide +kernel
theorem dX0_about_54 : decode cX0_about 54 = .ok (.ireturn, 1) := by decide +kernel
theorem dX0_about_55 : decode cX0_about 55 = .ok (.aload_n 0, 1) := by decide +kernel
theorem dX0_about_56 : decode cX0_about 56 = .ok (.aload_n 0, 1) := by decide +kernel
theorem dX0_about_57 : decode cX0_about 57 = .ok (.getfield 11, 3) := by decide +kernel
theorem dX0_about_60 : decode cX0_about 60 = .ok (.iload_n 1, 1) := by decide +kernel
theorem dX0_about_61 : decode cX0_about 61 = .ok (.aaload, 1) := by decide +kernel
theorem dX0_about_62 : decode cX0_about 62 = .ok (.invokevirtual 107, 3) := by decide +kernel
theorem dX0_about_65 : decode cX0_about 65 = .ok (.ireturn, 1) := by decide +kernel
theorem dX0_about_66 : decode cX0_about 66 = .ok (.aload_n 0, 1) := by decide +kernel
theorem dX0_about_67 : decode cX0_about 67 = .ok (.aload_n 0, 1) := by decide +kernel
theorem dX0_about_68 : decode cX0_about 68 = .ok (.getfield 11, 3) := by decide +kernel
theorem dX0_about_71 : decode cX0_about 71 = .ok (.iload_n 1, 1) := by decide +kernel
theorem dX0_about_72 : decode cX0_about 72 = .ok (.aaload, 1) := by decide +kernel
theorem dX0_about_73 : decode cX0_about 73 = .ok (.invokevirtual 73, 3) := by decide +kernel
theorem dX0_about_76 : decode cX0_about 76 = .ok (.ireturn, 1) := by decide +kernel
theorem dX0_about_77 : decode cX0_about 77 = .ok (.aload_n 0, 1) := by decide +kernel
theorem dX0_about_78 : decode cX0_about 78 = .ok (.aload_n 0, 1) := by decide +kernel
theorem dX0_about_79 : decode cX0_about 79 = .ok (.getfield 11, 3) := by decide +kernel
theorem dX0_about_82 : decode cX0_about 82 = .ok (.iload_n 1, 1) := by decide +kernel
theorem dX0_about_83 : decode cX0_about 83 = .ok (.aaload, 1) := by decide +kernel
theorem dX0_about_84 : decode cX0_about 84 = .ok (.invokevirtual 110, 3) := by decide +kernel
theorem dX0_about_87 : decode cX0_about 87 = .ok (.ireturn, 1) := by decide +kernel
theorem dX0_about_88 : decode cX0_about 88 = .ok (.aload_n 0, 1) := by decide +kernel
theorem dX0_about_89 : decode cX0_about 89 = .ok (.aload_n 0, 1) := by decide +kernel
theorem dX0_about_90 : decode cX0_about 90 = .ok (.getfield 11, 3) := by decide +kernel
theorem dX0_about_93 : decode cX0_about 93 = .ok (.iload_n 1, 1) := by decide +kernel
theorem dX0_about_94 : decode cX0_about 94 = .ok (.aaload, 1) := by decide +kernel
theorem dX0_about_95 : decode cX0_about 95 = .ok (.invokevirtual 113, 3) := by decide +kernel
theorem dX0_about_98 : decode cX0_about 98 = .ok (.ireturn, 1) := by decide +kernel
theorem dX0_about_99 : decode cX0_about 99 = .ok (.aload_n 0, 1) := by decide +kernel
theorem dX0_about_100 : decode cX0_about 100 = .ok (.aload_n 0, 1) := by decide +kernel
theorem dX0_about_101 : decode cX0_about 101 = .ok (.getfield 11, 3) := by decide +kernel
theorem dX0_about_104 : decode cX0_about 104 = .ok (.iload_n 1, 1) := by decide +kernel
theorem dX0_about_105 : decode cX0_about 105 = .ok (.aaload, 1) := by decide +kernel
theorem dX0_about_106 : decode cX0_about 106 = .ok (.invokevirtual 116, 3) := by decide +kernel
theorem dX0_about_109 : decode cX0_about 109 = .ok (.ireturn, 1) := by decide +kernel
theorem dX0_about_110 : decode cX0_about 110 = .ok (.new 28, 3) := by decide +kernel
theorem dX0_about_113 : decode cX0_about 113 = .ok (.dup, 1) := by decide +kernel
theorem dX0_about_114 : decode cX0_about 114 = .ok (.ldc 119, 2) := by decide +kernel
theorem dX0_about_116 : decode cX0_about 116 = .ok (.invokespecial 32, 3) := by decide +kernel
theorem dX0_about_119 : decode cX0_about 119 = .ok (.athrow, 1) := by decide +kernel
theorem dX0_same_0 : decode cX0_same 0 = .ok (.aload_n 0, 1) := by decide +kernel
theorem dX0_same_1 : decode cX0_same 1 = .ok (.iload_n 1, 1) := by decide +kernel
theorem dX0_same_2 : decode cX0_same 2 = .ok (.invokevirtual 39, 3) := by decide +kernel
theorem dX0_same_5 : decode cX0_same 5 = .ok (.aload_n 0, 1) := by decide +kernel
theorem dX0_same_6 : decode cX0_same 6 = .ok (.iload_n 2, 1) := by decide +kernel
theorem dX0_same_7 : decode cX0_same 7 = .ok (.invokevirtual 39, 3) := by decide +kernel
theorem dX0_same_10 : decode cX0_same 10 = .ok (.iconst 0, 1) := by decide +kernel
theorem dX0_same_11 : decode cX0_same 11 = .ok (.istore_n 3, 1) := by decide +kernel
theorem dX0_same_12 : decode cX0_same 12 = .ok (.iload_n 3, 1) := by decide +kernel
theorem dX0_same_13 : decode cX0_same 13 = .ok (.aload_n 0, 1) := by decide +kernel
theorem dX0_same_14 : decode cX0_same 14 = .ok (.getfield 58, 3) := by decide +kernel
theorem dX0_same_17 : decode cX0_same 17 = .ok (.if_icmp .ge 30, 3) := by decide +kernel
theorem dX0_same_20 : decode cX0_same 20 = .ok (.aload_n 0, 1) := by decide +kernel
theorem dX0_same_21 : decode cX0_same 21 = .ok (.getfield 11, 3) := by decide +kernel
theorem dX0_same_24 : decode cX0_same 24 = .ok (.iload_n 1, 1) := by decide +kernel
theorem dX0_same_25 : decode cX0_same 25 = .ok (.aaload, 1) := by decide +kernel
theorem dX0_same_26 : decode cX0_same 26 = .ok (.iload_n 3, 1) := by decide +kernel
theorem dX0_same_27 : decode cX0_same 27 = .ok (.iaload, 1) := by decide +kernel
theorem dX0_same_28 : decode cX0_same 28 = .ok (.aload_n 0, 1) := by decide +kernel
theorem dX0_same_29 : decode cX0_same 29 = .ok (.getfield 11, 3) := by decide +kernel
theorem dX0_same_32 : decode cX0_same 32 = .ok (.iload_n 2, 1) := by decide +kernel
theorem dX0_same_33 : decode cX0_same 33 = .ok (.aaload, 1) := by decide +kernel
theorem dX0_same_34 : decode cX0_same 34 = .ok (.iload_n 3, 1) := by decide +kernel
theorem dX0_same_35 : decode cX0_same 35 = .ok (.iaload, 1) := by decide +kernel
theorem dX0_same_36 : decode cX0_same 36 = .ok (.if_icmp .eq 5, 3) := by decide +kernel
theorem dX0_same_39 : decode cX0_same 39 = .ok (.iconst 0, 1) := by decide +kernel
theorem dX0_same_40 : decode cX0_same 40 = .ok (.ireturn, 1) := by decide +kernel
theorem dX0_same_41 : decode cX0_same 41 = .ok (.iinc 3 1, 3) := by decide +kernel
theorem dX0_same_44 : decode cX0_same 44 = .ok (.goto (-32), 3) := by decide +kernel
theorem dX0_same_47 : decode cX0_same 47 = .ok (.iconst 1, 1) := by decide +kernel
theorem dX0_same_48 : decode cX0_same 48 = .ok (.ireturn, 1) := by decide +kernel
theorem dX0_divides_0 : decode cX0_divides 0 = .ok (.aload_n 0, 1) := by decide +kernel
theorem dX0_divides_1 : decode cX0_divides 1 = .ok (.iload_n 1, 1) := by decide +kernel
theorem dX0_divides_2 : decode cX0_divides 2 = .ok (.invokevirtual 39, 3) := by decide +kernel
theorem dX0_divides_5 : decode cX0_divides 5 = .ok (.aload_n 0, 1) := by decide +kernel
theorem dX0_divides_6 : decode cX0_divides 6 = .ok (.iload_n 2, 1) := by decide +kernel
theorem dX0_divides_7 : decode cX0_divides 7 = .ok (.invokevirtual 39, 3) := by decide +kernel
theorem dX0_divides_10 : decode cX0_divides 10 = .ok (.iconst 0, 1) := by decide +kernel
theorem dX0_divides_11 : decode cX0_divides 11 = .ok (.istore_n 3, 1) := by decide +kernel
theorem dX0_divides_12 : decode cX0_divides 12 = .ok (.iload_n 3, 1) := by decide +kernel
theorem dX0_divides_13 : decode cX0_divides 13 = .ok (.aload_n 0, 1) := by decide +kernel
theorem dX0_divides_14 : decode cX0_divides 14 = .ok (.getfield 58, 3) := by decide +kernel
theorem dX0_divides_17 : decode cX0_divides 17 = .ok (.if_icmp .ge 33, 3) := by decide +kernel
theorem dX0_divides_20 : decode cX0_divides 20 = .ok (.aload_n 0, 1) := by decide +kernel
theorem dX0_divides_21 : decode cX0_divides 21 = .ok (.getfield 11, 3) := by decide +kernel
theorem dX0_divides_24 : decode cX0_divides 24 = .ok (.iload_n 2, 1) := by decide +kernel
theorem dX0_divides_25 : decode cX0_divides 25 = .ok (.aaload, 1) := by decide +kernel
theorem dX0_divides_26 : decode cX0_divides 26 = .ok (.iload_n 3, 1) := by decide +kernel
theorem dX0_divides_27 : decode cX0_divides 27 = .ok (.iaload, 1) := by decide +kernel
theorem dX0_divides_28 : decode cX0_divides 28 = .ok (.ifCond .ne 16, 3) := by decide +kernel
theorem dX0_divides_31 : decode cX0_divides 31 = .ok (.aload_n 0, 1) := by decide +kernel
theorem dX0_divides_32 : decode cX0_divides 32 = .ok (.getfield 11, 3) := by decide +kernel
theorem dX0_divides_35 : decode cX0_divides 35 = .ok (.iload_n 1, 1) := by decide +kernel
theorem dX0_divides_36 : decode cX0_divides 36 = .ok (.aaload, 1) := by decide +kernel
theorem dX0_divides_37 : decode cX0_divides 37 = .ok (.iload_n 3, 1) := by decide +kernel
theorem dX0_divides_38 : decode cX0_divides 38 = .ok (.iaload, 1) := by decide +kernel
theorem dX0_divides_39 : decode cX0_divides 39 = .ok (.ifCond .eq 5, 3) := by decide +kernel
theorem dX0_divides_42 : decode cX0_divides 42 = .ok (.iconst 0, 1) := by decide +kernel
theorem dX0_divides_43 : decode cX0_divides 43 = .ok (.ireturn, 1) := by decide +kernel
theorem dX0_divides_44 : decode cX0_divides 44 = .ok (.iinc 3 1, 3) := by decide +kernel
theorem dX0_divides_47 : decode cX0_divides 47 = .ok (.goto (-35), 3) := by decide +kernel
theorem dX0_divides_50 : decode cX0_divides 50 = .ok (.iconst 1, 1) := by decide +kernel
theorem dX0_divides_51 : decode cX0_divides 51 = .ok (.ireturn, 1) := by decide +kernel
theorem dX0_turnedPlace_0 : decode cX0_turnedPlace 0 = .ok (.iconst 2, 1) := by decide +kernel
theorem dX0_turnedPlace_1 : decode cX0_turnedPlace 1 = .ok (.iload_n 1, 1) := by decide +kernel
theorem dX0_turnedPlace_2 : decode cX0_turnedPlace 2 = .ok (.imul, 1) := by decide +kernel
theorem dX0_turnedPlace_3 : decode cX0_turnedPlace 3 = .ok (.iconst 1, 1) := by decide +kernel
theorem dX0_turnedPlace_4 : decode cX0_turnedPlace 4 = .ok (.iadd, 1) := by decide +kernel
theorem dX0_turnedPlace_5 : decode cX0_turnedPlace 5 = .ok (.iload_n 2, 1) := by decide +kernel
theorem dX0_turnedPlace_6 : decode cX0_turnedPlace 6 = .ok (.imul, 1) := by decide +kernel
theorem dX0_turnedPlace_7 : decode cX0_turnedPlace 7 = .ok (.iconst 2, 1) := by decide +kernel
theorem dX0_turnedPlace_8 : decode cX0_turnedPlace 8 = .ok (.aload_n 0, 1) := by decide +kernel
theorem dX0_turnedPlace_9 : decode cX0_turnedPlace 9 = .ok (.getfield 58, 3) := by decide +kernel
theorem dX0_turnedPlace_12 : decode cX0_turnedPlace 12 = .ok (.imul, 1) := by decide +kernel
theorem dX0_turnedPlace_13 : decode cX0_turnedPlace 13 = .ok (.irem, 1) := by decide +kernel
theorem dX0_turnedPlace_14 : decode cX0_turnedPlace 14 = .ok (.iconst 2, 1) := by decide +kernel
theorem dX0_turnedPlace_15 : decode cX0_turnedPlace 15 = .ok (.idiv, 1) := by decide +kernel
theorem dX0_turnedPlace_16 : decode cX0_turnedPlace 16 = .ok (.ireturn, 1) := by decide +kernel
theorem dX0_joined_0 : decode cX0_joined 0 = .ok (.iload_n 1, 1) := by decide +kernel
theorem dX0_joined_1 : decode cX0_joined 1 = .ok (.tableswitch 59 0 2 #[27, 36, 50], 27) := by decide +kernel
theorem dX0_joined_28 : decode cX0_joined 28 = .ok (.iload_n 2, 1) := by decide +kernel
theorem dX0_joined_29 : decode cX0_joined 29 = .ok (.iload_n 3, 1) := by decide +kernel
theorem dX0_joined_30 : decode cX0_joined 30 = .ok (.iadd, 1) := by decide +kernel
theorem dX0_joined_31 : decode cX0_joined 31 = .ok (.aload_n 0, 1) := by decide +kernel
theorem dX0_joined_32 : decode cX0_joined 32 = .ok (.getfield 49, 3) := by decide +kernel
theorem dX0_joined_35 : decode cX0_joined 35 = .ok (.irem, 1) := by decide +kernel
theorem dX0_joined_36 : decode cX0_joined 36 = .ok (.ireturn, 1) := by decide +kernel
theorem dX0_joined_37 : decode cX0_joined 37 = .ok (.iload_n 2, 1) := by decide +kernel
theorem dX0_joined_38 : decode cX0_joined 38 = .ok (.aload_n 0, 1) := by decide +kernel
theorem dX0_joined_39 : decode cX0_joined 39 = .ok (.getfield 49, 3) := by decide +kernel
theorem dX0_joined_42 : decode cX0_joined 42 = .ok (.iadd, 1) := by decide +kernel
theorem dX0_joined_43 : decode cX0_joined 43 = .ok (.iload_n 3, 1) := by decide +kernel
theorem dX0_joined_44 : decode cX0_joined 44 = .ok (.isub, 1) := by decide +kernel
theorem dX0_joined_45 : decode cX0_joined 45 = .ok (.aload_n 0, 1) := by decide +kernel
theorem dX0_joined_46 : decode cX0_joined 46 = .ok (.getfield 49, 3) := by decide +kernel
theorem dX0_joined_49 : decode cX0_joined 49 = .ok (.irem, 1) := by decide +kernel
theorem dX0_joined_50 : decode cX0_joined 50 = .ok (.ireturn, 1) := by decide +kernel
theorem dX0_joined_51 : decode cX0_joined 51 = .ok (.iload_n 2, 1) := by decide +kernel
theorem dX0_joined_52 : decode cX0_joined 52 = .ok (.iload_n 3, 1) := by decide +kernel
theorem dX0_joined_53 : decode cX0_joined 53 = .ok (.imul, 1) := by decide +kernel
theorem dX0_joined_54 : decode cX0_joined 54 = .ok (.aload_n 0, 1) := by decide +kernel
theorem dX0_joined_55 : decode cX0_joined 55 = .ok (.getfield 49, 3) := by decide +kernel
theorem dX0_joined_58 : decode cX0_joined 58 = .ok (.irem, 1) := by decide +kernel
theorem dX0_joined_59 : decode cX0_joined 59 = .ok (.ireturn, 1) := by decide +kernel
theorem dX0_joined_60 : decode cX0_joined 60 = .ok (.iload_n 2, 1) := by decide +kernel
theorem dX0_joined_61 : decode cX0_joined 61 = .ok (.aload_n 0, 1) := by decide +kernel
theorem dX0_joined_62 : decode cX0_joined 62 = .ok (.iload_n 3, 1) := by decide +kernel
theorem dX0_joined_63 : decode cX0_joined 63 = .ok (.invokevirtual 134, 3) := by decide +kernel
theorem dX0_joined_66 : decode cX0_joined 66 = .ok (.imul, 1) := by decide +kernel
theorem dX0_joined_67 : decode cX0_joined 67 = .ok (.aload_n 0, 1) := by decide +kernel
theorem dX0_joined_68 : decode cX0_joined 68 = .ok (.getfield 49, 3) := by decide +kernel
theorem dX0_joined_71 : decode cX0_joined 71 = .ok (.irem, 1) := by decide +kernel
theorem dX0_joined_72 : decode cX0_joined 72 = .ok (.ireturn, 1) := by decide +kernel
theorem dX0_leastRoot_0 : decode cX0_leastRoot 0 = .ok (.iconst 0, 1) := by decide +kernel
theorem dX0_leastRoot_1 : decode cX0_leastRoot 1 = .ok (.istore_n 2, 1) := by decide +kernel
theorem dX0_leastRoot_2 : decode cX0_leastRoot 2 = .ok (.iload_n 2, 1) := by decide +kernel
theorem dX0_leastRoot_3 : decode cX0_leastRoot 3 = .ok (.aload_n 0, 1) := by decide +kernel
theorem dX0_leastRoot_4 : decode cX0_leastRoot 4 = .ok (.getfield 49, 3) := by decide +kernel
theorem dX0_leastRoot_7 : decode cX0_leastRoot 7 = .ok (.iconst 2, 1) := by decide +kernel
theorem dX0_leastRoot_8 : decode cX0_leastRoot 8 = .ok (.idiv, 1) := by decide +kernel
theorem dX0_leastRoot_9 : decode cX0_leastRoot 9 = .ok (.if_icmp .gt 23, 3) := by decide +kernel
theorem dX0_leastRoot_12 : decode cX0_leastRoot 12 = .ok (.iload_n 2, 1) := by decide +kernel
theorem dX0_leastRoot_13 : decode cX0_leastRoot 13 = .ok (.iload_n 2, 1) := by decide +kernel
theorem dX0_leastRoot_14 : decode cX0_leastRoot 14 = .ok (.imul, 1) := by decide +kernel
theorem dX0_leastRoot_15 : decode cX0_leastRoot 15 = .ok (.aload_n 0, 1) := by decide +kernel
theorem dX0_leastRoot_16 : decode cX0_leastRoot 16 = .ok (.getfield 49, 3) := by decide +kernel
theorem dX0_leastRoot_19 : decode cX0_leastRoot 19 = .ok (.irem, 1) := by decide +kernel
theorem dX0_leastRoot_20 : decode cX0_leastRoot 20 = .ok (.iload_n 1, 1) := by decide +kernel
theorem dX0_leastRoot_21 : decode cX0_leastRoot 21 = .ok (.if_icmp .ne 5, 3) := by decide +kernel
theorem dX0_leastRoot_24 : decode cX0_leastRoot 24 = .ok (.iload_n 2, 1) := by decide +kernel
theorem dX0_leastRoot_25 : decode cX0_leastRoot 25 = .ok (.ireturn, 1) := by decide +kernel
theorem dX0_leastRoot_26 : decode cX0_leastRoot 26 = .ok (.iinc 2 1, 3) := by decide +kernel
theorem dX0_leastRoot_29 : decode cX0_leastRoot 29 = .ok (.goto (-27), 3) := by decide +kernel
theorem dX0_leastRoot_32 : decode cX0_leastRoot 32 = .ok (.iconst (-1), 1) := by decide +kernel
theorem dX0_leastRoot_33 : decode cX0_leastRoot 33 = .ok (.ireturn, 1) := by decide +kernel
theorem dX0_isOneAtPower_0 : decode cX0_isOneAtPower 0 = .ok (.iconst 0, 1) := by decide +kernel
theorem dX0_isOneAtPower_1 : decode cX0_isOneAtPower 1 = .ok (.istore_n 3, 1) := by decide +kernel
theorem dX0_isOneAtPower_2 : decode cX0_isOneAtPower 2 = .ok (.iload_n 3, 1) := by decide +kernel
theorem dX0_isOneAtPower_3 : decode cX0_isOneAtPower 3 = .ok (.aload_n 0, 1) := by decide +kernel
theorem dX0_isOneAtPower_4 : decode cX0_isOneAtPower 4 = .ok (.getfield 58, 3) := by decide +kernel
theorem dX0_isOneAtPower_7 : decode cX0_isOneAtPower 7 = .ok (.if_icmp .ge 23, 3) := by decide +kernel
theorem dX0_isOneAtPower_10 : decode cX0_isOneAtPower 10 = .ok (.aload_n 0, 1) := by decide +kernel
theorem dX0_isOneAtPower_11 : decode cX0_isOneAtPower 11 = .ok (.aload_n 1, 1) := by decide +kernel
theorem dX0_isOneAtPower_12 : decode cX0_isOneAtPower 12 = .ok (.iload_n 3, 1) := by decide +kernel
theorem dX0_isOneAtPower_13 : decode cX0_isOneAtPower 13 = .ok (.iaload, 1) := by decide +kernel
theorem dX0_isOneAtPower_14 : decode cX0_isOneAtPower 14 = .ok (.iload_n 2, 1) := by decide +kernel
theorem dX0_isOneAtPower_15 : decode cX0_isOneAtPower 15 = .ok (.invokevirtual 88, 3) := by decide +kernel
theorem dX0_isOneAtPower_18 : decode cX0_isOneAtPower 18 = .ok (.iconst 1, 1) := by decide +kernel
theorem dX0_isOneAtPower_19 : decode cX0_isOneAtPower 19 = .ok (.if_icmp .eq 5, 3) := by decide +kernel
theorem dX0_isOneAtPower_22 : decode cX0_isOneAtPower 22 = .ok (.iconst 0, 1) := by decide +kernel
theorem dX0_isOneAtPower_23 : decode cX0_isOneAtPower 23 = .ok (.ireturn, 1) := by decide +kernel
theorem dX0_isOneAtPower_24 : decode cX0_isOneAtPower 24 = .ok (.iinc 3 1, 3) := by decide +kernel
theorem dX0_isOneAtPower_27 : decode cX0_isOneAtPower 27 = .ok (.goto (-25), 3) := by decide +kernel
theorem dX0_isOneAtPower_30 : decode cX0_isOneAtPower 30 = .ok (.iconst 1, 1) := by decide +kernel
theorem dX0_isOneAtPower_31 : decode cX0_isOneAtPower 31 = .ok (.ireturn, 1) := by decide +kernel
theorem dX0_product_0 : decode cX0_product 0 = .ok (.iconst 1, 1) := by decide +kernel
theorem dX0_product_1 : decode cX0_product 1 = .ok (.istore_n 2, 1) := by decide +kernel
theorem dX0_product_2 : decode cX0_product 2 = .ok (.iconst 0, 1) := by decide +kernel
theorem dX0_product_3 : decode cX0_product 3 = .ok (.istore_n 3, 1) := by decide +kernel
theorem dX0_product_4 : decode cX0_product 4 = .ok (.iload_n 3, 1) := by decide +kernel
theorem dX0_product_5 : decode cX0_product 5 = .ok (.aload_n 0, 1) := by decide +kernel
theorem dX0_product_6 : decode cX0_product 6 = .ok (.getfield 58, 3) := by decide +kernel
theorem dX0_product_9 : decode cX0_product 9 = .ok (.if_icmp .ge 20, 3) := by decide +kernel
theorem dX0_product_12 : decode cX0_product 12 = .ok (.iload_n 2, 1) := by decide +kernel
theorem dX0_product_13 : decode cX0_product 13 = .ok (.aload_n 1, 1) := by decide +kernel
theorem dX0_product_14 : decode cX0_product 14 = .ok (.iload_n 3, 1) := by decide +kernel
theorem dX0_product_15 : decode cX0_product 15 = .ok (.iaload, 1) := by decide +kernel
theorem dX0_product_16 : decode cX0_product 16 = .ok (.imul, 1) := by decide +kernel
theorem dX0_product_17 : decode cX0_product 17 = .ok (.aload_n 0, 1) := by decide +kernel
theorem dX0_product_18 : decode cX0_product 18 = .ok (.getfield 49, 3) := by decide +kernel
theorem dX0_product_21 : decode cX0_product 21 = .ok (.irem, 1) := by decide +kernel
theorem dX0_product_22 : decode cX0_product 22 = .ok (.istore_n 2, 1) := by decide +kernel
theorem dX0_product_23 : decode cX0_product 23 = .ok (.iinc 3 1, 3) := by decide +kernel
theorem dX0_product_26 : decode cX0_product 26 = .ok (.goto (-22), 3) := by decide +kernel
theorem dX0_product_29 : decode cX0_product 29 = .ok (.iload_n 2, 1) := by decide +kernel
theorem dX0_product_30 : decode cX0_product 30 = .ok (.ireturn, 1) := by decide +kernel
theorem dX0_sum_0 : decode cX0_sum 0 = .ok (.iconst 0, 1) := by decide +kernel
theorem dX0_sum_1 : decode cX0_sum 1 = .ok (.istore_n 2, 1) := by decide +kernel
theorem dX0_sum_2 : decode cX0_sum 2 = .ok (.iconst 0, 1) := by decide +kernel
theorem dX0_sum_3 : decode cX0_sum 3 = .ok (.istore_n 3, 1) := by decide +kernel
theorem dX0_sum_4 : decode cX0_sum 4 = .ok (.iload_n 3, 1) := by decide +kernel
theorem dX0_sum_5 : decode cX0_sum 5 = .ok (.aload_n 0, 1) := by decide +kernel
theorem dX0_sum_6 : decode cX0_sum 6 = .ok (.getfield 58, 3) := by decide +kernel
theorem dX0_sum_9 : decode cX0_sum 9 = .ok (.if_icmp .ge 20, 3) := by decide +kernel
theorem dX0_sum_12 : decode cX0_sum 12 = .ok (.iload_n 2, 1) := by decide +kernel
theorem dX0_sum_13 : decode cX0_sum 13 = .ok (.aload_n 1, 1) := by decide +kernel
theorem dX0_sum_14 : decode cX0_sum 14 = .ok (.iload_n 3, 1) := by decide +kernel
theorem dX0_sum_15 : decode cX0_sum 15 = .ok (.iaload, 1) := by decide +kernel
theorem dX0_sum_16 : decode cX0_sum 16 = .ok (.iadd, 1) := by decide +kernel
theorem dX0_sum_17 : decode cX0_sum 17 = .ok (.aload_n 0, 1) := by decide +kernel
theorem dX0_sum_18 : decode cX0_sum 18 = .ok (.getfield 49, 3) := by decide +kernel
theorem dX0_sum_21 : decode cX0_sum 21 = .ok (.irem, 1) := by decide +kernel
theorem dX0_sum_22 : decode cX0_sum 22 = .ok (.istore_n 2, 1) := by decide +kernel
theorem dX0_sum_23 : decode cX0_sum 23 = .ok (.iinc 3 1, 3) := by decide +kernel
theorem dX0_sum_26 : decode cX0_sum 26 = .ok (.goto (-22), 3) := by decide +kernel
theorem dX0_sum_29 : decode cX0_sum 29 = .ok (.iload_n 2, 1) := by decide +kernel
theorem dX0_sum_30 : decode cX0_sum 30 = .ok (.ireturn, 1) := by decide +kernel
theorem dX0_differentValues_0 : decode cX0_differentValues 0 = .ok (.iconst 0, 1) := by decide +kernel
theorem dX0_differentValues_1 : decode cX0_differentValues 1 = .ok (.istore_n 2, 1) := by decide +kernel
theorem dX0_differentValues_2 : decode cX0_differentValues 2 = .ok (.iconst 0, 1) := by decide +kernel
theorem dX0_differentValues_3 : decode cX0_differentValues 3 = .ok (.istore_n 3, 1) := by decide +kernel
theorem dX0_differentValues_4 : decode cX0_differentValues 4 = .ok (.iload_n 3, 1) := by decide +kernel
theorem dX0_differentValues_5 : decode cX0_differentValues 5 = .ok (.aload_n 0, 1) := by decide +kernel
theorem dX0_differentValues_6 : decode cX0_differentValues 6 = .ok (.getfield 58, 3) := by decide +kernel
theorem dX0_differentValues_9 : decode cX0_differentValues 9 = .ok (.if_icmp .ge 21, 3) := by decide +kernel
theorem dX0_differentValues_12 : decode cX0_differentValues 12 = .ok (.aload_n 0, 1) := by decide +kernel
theorem dX0_differentValues_13 : decode cX0_differentValues 13 = .ok (.aload_n 1, 1) := by decide +kernel
theorem dX0_differentValues_14 : decode cX0_differentValues 14 = .ok (.iload_n 3, 1) := by decide +kernel
theorem dX0_differentValues_15 : decode cX0_differentValues 15 = .ok (.invokevirtual 155, 3) := by decide +kernel
theorem dX0_differentValues_18 : decode cX0_differentValues 18 = .ok (.ifCond .eq 6, 3) := by decide +kernel
theorem dX0_differentValues_21 : decode cX0_differentValues 21 = .ok (.iinc 2 1, 3) := by decide +kernel
theorem dX0_differentValues_24 : decode cX0_differentValues 24 = .ok (.iinc 3 1, 3) := by decide +kernel
theorem dX0_differentValues_27 : decode cX0_differentValues 27 = .ok (.goto (-23), 3) := by decide +kernel
theorem dX0_differentValues_30 : decode cX0_differentValues 30 = .ok (.iload_n 2, 1) := by decide +kernel
theorem dX0_differentValues_31 : decode cX0_differentValues 31 = .ok (.ireturn, 1) := by decide +kernel
theorem dX0_isFirstSuchValue_0 : decode cX0_isFirstSuchValue 0 = .ok (.iconst 0, 1) := by decide +kernel
theorem dX0_isFirstSuchValue_1 : decode cX0_isFirstSuchValue 1 = .ok (.istore_n 3, 1) := by decide +kernel
theorem dX0_isFirstSuchValue_2 : decode cX0_isFirstSuchValue 2 = .ok (.iload_n 3, 1) := by decide +kernel
theorem dX0_isFirstSuchValue_3 : decode cX0_isFirstSuchValue 3 = .ok (.iload_n 2, 1) := by decide +kernel
theorem dX0_isFirstSuchValue_4 : decode cX0_isFirstSuchValue 4 = .ok (.if_icmp .ge 20, 3) := by decide +kernel
theorem dX0_isFirstSuchValue_7 : decode cX0_isFirstSuchValue 7 = .ok (.aload_n 1, 1) := by decide +kernel
theorem dX0_isFirstSuchValue_8 : decode cX0_isFirstSuchValue 8 = .ok (.iload_n 3, 1) := by decide +kernel
theorem dX0_isFirstSuchValue_9 : decode cX0_isFirstSuchValue 9 = .ok (.iaload, 1) := by decide +kernel
theorem dX0_isFirstSuchValue_10 : decode cX0_isFirstSuchValue 10 = .ok (.aload_n 1, 1) := by decide +kernel
theorem dX0_isFirstSuchValue_11 : decode cX0_isFirstSuchValue 11 = .ok (.iload_n 2, 1) := by decide +kernel
theorem dX0_isFirstSuchValue_12 : decode cX0_isFirstSuchValue 12 = .ok (.iaload, 1) := by decide +kernel
theorem dX0_isFirstSuchValue_13 : decode cX0_isFirstSuchValue 13 = .ok (.if_icmp .ne 5, 3) := by decide +kernel
theorem dX0_isFirstSuchValue_16 : decode cX0_isFirstSuchValue 16 = .ok (.iconst 0, 1) := by decide +kernel
theorem dX0_isFirstSuchValue_17 : decode cX0_isFirstSuchValue 17 = .ok (.ireturn, 1) := by decide +kernel
theorem dX0_isFirstSuchValue_18 : decode cX0_isFirstSuchValue 18 = .ok (.iinc 3 1, 3) := by decide +kernel
theorem dX0_isFirstSuchValue_21 : decode cX0_isFirstSuchValue 21 = .ok (.goto (-19), 3) := by decide +kernel
theorem dX0_isFirstSuchValue_24 : decode cX0_isFirstSuchValue 24 = .ok (.iconst 1, 1) := by decide +kernel
theorem dX0_isFirstSuchValue_25 : decode cX0_isFirstSuchValue 25 = .ok (.ireturn, 1) := by decide +kernel
theorem dX0_degree_0 : decode cX0_degree 0 = .ok (.aload_n 0, 1) := by decide +kernel
theorem dX0_degree_1 : decode cX0_degree 1 = .ok (.getfield 58, 3) := by decide +kernel
theorem dX0_degree_4 : decode cX0_degree 4 = .ok (.iconst 1, 1) := by decide +kernel
theorem dX0_degree_5 : decode cX0_degree 5 = .ok (.isub, 1) := by decide +kernel
theorem dX0_degree_6 : decode cX0_degree 6 = .ok (.istore_n 2, 1) := by decide +kernel
theorem dX0_degree_7 : decode cX0_degree 7 = .ok (.iload_n 2, 1) := by decide +kernel
theorem dX0_degree_8 : decode cX0_degree 8 = .ok (.ifCond .lt 18, 3) := by decide +kernel
theorem dX0_degree_11 : decode cX0_degree 11 = .ok (.aload_n 0, 1) := by decide +kernel
theorem dX0_degree_12 : decode cX0_degree 12 = .ok (.aload_n 1, 1) := by decide +kernel
theorem dX0_degree_13 : decode cX0_degree 13 = .ok (.iload_n 2, 1) := by decide +kernel
theorem dX0_degree_14 : decode cX0_degree 14 = .ok (.invokevirtual 45, 3) := by decide +kernel
theorem dX0_degree_17 : decode cX0_degree 17 = .ok (.ifCond .ne 9, 3) := by decide +kernel
theorem dX0_degree_20 : decode cX0_degree 20 = .ok (.iinc 2 (-1), 3) := by decide +kernel
theorem dX0_degree_23 : decode cX0_degree 23 = .ok (.goto (-16), 3) := by decide +kernel
theorem dX0_degree_26 : decode cX0_degree 26 = .ok (.iload_n 2, 1) := by decide +kernel
theorem dX0_degree_27 : decode cX0_degree 27 = .ok (.ireturn, 1) := by decide +kernel
theorem dX0_turnsByThree_0 : decode cX0_turnsByThree 0 = .ok (.iconst 1, 1) := by decide +kernel
theorem dX0_turnsByThree_1 : decode cX0_turnsByThree 1 = .ok (.istore_n 2, 1) := by decide +kernel
theorem dX0_turnsByThree_2 : decode cX0_turnsByThree 2 = .ok (.iconst 3, 1) := by decide +kernel
theorem dX0_turnsByThree_3 : decode cX0_turnsByThree 3 = .ok (.istore_n 3, 1) := by decide +kernel
theorem dX0_turnsByThree_4 : decode cX0_turnsByThree 4 = .ok (.iload_n 2, 1) := by decide +kernel
theorem dX0_turnsByThree_5 : decode cX0_turnsByThree 5 = .ok (.aload_n 0, 1) := by decide +kernel
theorem dX0_turnsByThree_6 : decode cX0_turnsByThree 6 = .ok (.getfield 58, 3) := by decide +kernel
theorem dX0_turnsByThree_9 : decode cX0_turnsByThree 9 = .ok (.if_icmp .ge 29, 3) := by decide +kernel
theorem dX0_turnsByThree_12 : decode cX0_turnsByThree 12 = .ok (.aload_n 0, 1) := by decide +kernel
theorem dX0_turnsByThree_13 : decode cX0_turnsByThree 13 = .ok (.aload_n 1, 1) := by decide +kernel
theorem dX0_turnsByThree_14 : decode cX0_turnsByThree 14 = .ok (.iload_n 3, 1) := by decide +kernel
theorem dX0_turnsByThree_15 : decode cX0_turnsByThree 15 = .ok (.invokevirtual 158, 3) := by decide +kernel
theorem dX0_turnsByThree_18 : decode cX0_turnsByThree 18 = .ok (.ifCond .ne 20, 3) := by decide +kernel
theorem dX0_turnsByThree_21 : decode cX0_turnsByThree 21 = .ok (.iinc 2 1, 3) := by decide +kernel
theorem dX0_turnsByThree_24 : decode cX0_turnsByThree 24 = .ok (.iload_n 3, 1) := by decide +kernel
theorem dX0_turnsByThree_25 : decode cX0_turnsByThree 25 = .ok (.iconst 3, 1) := by decide +kernel
theorem dX0_turnsByThree_26 : decode cX0_turnsByThree 26 = .ok (.imul, 1) := by decide +kernel
theorem dX0_turnsByThree_27 : decode cX0_turnsByThree 27 = .ok (.iconst 2, 1) := by decide +kernel
theorem dX0_turnsByThree_28 : decode cX0_turnsByThree 28 = .ok (.aload_n 0, 1) := by decide +kernel
theorem dX0_turnsByThree_29 : decode cX0_turnsByThree 29 = .ok (.getfield 58, 3) := by decide +kernel
theorem dX0_turnsByThree_32 : decode cX0_turnsByThree 32 = .ok (.imul, 1) := by decide +kernel
theorem dX0_turnsByThree_33 : decode cX0_turnsByThree 33 = .ok (.irem, 1) := by decide +kernel
theorem dX0_turnsByThree_34 : decode cX0_turnsByThree 34 = .ok (.istore_n 3, 1) := by decide +kernel
theorem dX0_turnsByThree_35 : decode cX0_turnsByThree 35 = .ok (.goto (-31), 3) := by decide +kernel
theorem dX0_turnsByThree_38 : decode cX0_turnsByThree 38 = .ok (.iload_n 2, 1) := by decide +kernel
theorem dX0_turnsByThree_39 : decode cX0_turnsByThree 39 = .ok (.ireturn, 1) := by decide +kernel
theorem dX0_isSameTurned_0 : decode cX0_isSameTurned 0 = .ok (.iconst 0, 1) := by decide +kernel
theorem dX0_isSameTurned_1 : decode cX0_isSameTurned 1 = .ok (.istore_n 3, 1) := by decide +kernel
theorem dX0_isSameTurned_2 : decode cX0_isSameTurned 2 = .ok (.iload_n 3, 1) := by decide +kernel
theorem dX0_isSameTurned_3 : decode cX0_isSameTurned 3 = .ok (.aload_n 0, 1) := by decide +kernel
theorem dX0_isSameTurned_4 : decode cX0_isSameTurned 4 = .ok (.getfield 58, 3) := by decide +kernel
theorem dX0_isSameTurned_7 : decode cX0_isSameTurned 7 = .ok (.if_icmp .ge 25, 3) := by decide +kernel
theorem dX0_isSameTurned_10 : decode cX0_isSameTurned 10 = .ok (.aload_n 1, 1) := by decide +kernel
theorem dX0_isSameTurned_11 : decode cX0_isSameTurned 11 = .ok (.aload_n 0, 1) := by decide +kernel
theorem dX0_isSameTurned_12 : decode cX0_isSameTurned 12 = .ok (.iload_n 3, 1) := by decide +kernel
theorem dX0_isSameTurned_13 : decode cX0_isSameTurned 13 = .ok (.iload_n 2, 1) := by decide +kernel
theorem dX0_isSameTurned_14 : decode cX0_isSameTurned 14 = .ok (.invokevirtual 79, 3) := by decide +kernel
theorem dX0_isSameTurned_17 : decode cX0_isSameTurned 17 = .ok (.iaload, 1) := by decide +kernel
theorem dX0_isSameTurned_18 : decode cX0_isSameTurned 18 = .ok (.aload_n 1, 1) := by decide +kernel
theorem dX0_isSameTurned_19 : decode cX0_isSameTurned 19 = .ok (.iload_n 3, 1) := by decide +kernel
theorem dX0_isSameTurned_20 : decode cX0_isSameTurned 20 = .ok (.iaload, 1) := by decide +kernel
theorem dX0_isSameTurned_21 : decode cX0_isSameTurned 21 = .ok (.if_icmp .eq 5, 3) := by decide +kernel
theorem dX0_isSameTurned_24 : decode cX0_isSameTurned 24 = .ok (.iconst 0, 1) := by decide +kernel
theorem dX0_isSameTurned_25 : decode cX0_isSameTurned 25 = .ok (.ireturn, 1) := by decide +kernel
theorem dX0_isSameTurned_26 : decode cX0_isSameTurned 26 = .ok (.iinc 3 1, 3) := by decide +kernel
theorem dX0_isSameTurned_29 : decode cX0_isSameTurned 29 = .ok (.goto (-27), 3) := by decide +kernel
theorem dX0_isSameTurned_32 : decode cX0_isSameTurned 32 = .ok (.iconst 1, 1) := by decide +kernel
theorem dX0_isSameTurned_33 : decode cX0_isSameTurned 33 = .ok (.ireturn, 1) := by decide +kernel
