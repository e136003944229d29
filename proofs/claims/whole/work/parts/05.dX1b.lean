theorem dX1_join_181 : decode cX1_join 181 = .ok (.getfield 13, 3) := by decide +kernel
theorem dX1_join_184 : decode cX1_join 184 = .ok (.i2l, 1) := by decide +kernel
theorem dX1_join_185 : decode cX1_join 185 = .ok (.ldc2_w 85, 3) := by decide +kernel
theorem dX1_join_188 : decode cX1_join 188 = .ok (.lsub, 1) := by decide +kernel
theorem dX1_join_189 : decode cX1_join 189 = .ok (.invokevirtual 87, 3) := by decide +kernel
theorem dX1_join_192 : decode cX1_join 192 = .ok (.aload_n 0, 1) := by decide +kernel
theorem dX1_join_193 : decode cX1_join 193 = .ok (.aload_n 0, 1) := by decide +kernel
theorem dX1_join_194 : decode cX1_join 194 = .ok (.getfield 20, 3) := by decide +kernel
theorem dX1_join_197 : decode cX1_join 197 = .ok (.aload_n 0, 1) := by decide +kernel
theorem dX1_join_198 : decode cX1_join 198 = .ok (.getfield 23, 3) := by decide +kernel
theorem dX1_join_201 : decode cX1_join 201 = .ok (.invokevirtual 73, 3) := by decide +kernel
theorem dX1_join_204 : decode cX1_join 204 = .ok (.aload_n 0, 1) := by decide +kernel
theorem dX1_join_205 : decode cX1_join 205 = .ok (.iload_n 1, 1) := by decide +kernel
theorem dX1_join_206 : decode cX1_join 206 = .ok (.aload_n 0, 1) := by decide +kernel
theorem dX1_join_207 : decode cX1_join 207 = .ok (.getfield 26, 3) := by decide +kernel
theorem dX1_join_210 : decode cX1_join 210 = .ok (.invokevirtual 70, 3) := by decide +kernel
theorem dX1_join_213 : decode cX1_join 213 = .ok (.aload_n 0, 1) := by decide +kernel
theorem dX1_join_214 : decode cX1_join 214 = .ok (.aload_n 0, 1) := by decide +kernel
theorem dX1_join_215 : decode cX1_join 215 = .ok (.getfield 26, 3) := by decide +kernel
theorem dX1_join_218 : decode cX1_join 218 = .ok (.invokevirtual 77, 3) := by decide +kernel
theorem dX1_join_221 : decode cX1_join 221 = .ok (.ireturn, 1) := by decide +kernel
theorem dX1_turn1_0 : decode cX1_turn1 0 = .ok (.iconst 0, 1) := by decide +kernel
theorem dX1_turn1_1 : decode cX1_turn1 1 = .ok (.istore_n 2, 1) := by decide +kernel
theorem dX1_turn1_2 : decode cX1_turn1 2 = .ok (.iload_n 2, 1) := by decide +kernel
theorem dX1_turn1_3 : decode cX1_turn1 3 = .ok (.aload_n 0, 1) := by decide +kernel
theorem dX1_turn1_4 : decode cX1_turn1 4 = .ok (.getfield 7, 3) := by decide +kernel
theorem dX1_turn1_7 : decode cX1_turn1 7 = .ok (.if_icmp .ge 63, 3) := by decide +kernel
theorem dX1_turn1_10 : decode cX1_turn1 10 = .ok (.iload_n 2, 1) := by decide +kernel
theorem dX1_turn1_11 : decode cX1_turn1 11 = .ok (.iload_n 1, 1) := by decide +kernel
theorem dX1_turn1_12 : decode cX1_turn1 12 = .ok (.imul, 1) := by decide +kernel
theorem dX1_turn1_13 : decode cX1_turn1 13 = .ok (.iconst 2, 1) := by decide +kernel
theorem dX1_turn1_14 : decode cX1_turn1 14 = .ok (.aload_n 0, 1) := by decide +kernel
theorem dX1_turn1_15 : decode cX1_turn1 15 = .ok (.getfield 7, 3) := by decide +kernel
theorem dX1_turn1_18 : decode cX1_turn1 18 = .ok (.imul, 1) := by decide +kernel
theorem dX1_turn1_19 : decode cX1_turn1 19 = .ok (.invokestatic 91, 3) := by decide +kernel
theorem dX1_turn1_22 : decode cX1_turn1 22 = .ok (.istore_n 3, 1) := by decide +kernel
theorem dX1_turn1_23 : decode cX1_turn1 23 = .ok (.aload_n 0, 1) := by decide +kernel
theorem dX1_turn1_24 : decode cX1_turn1 24 = .ok (.getfield 23, 3) := by decide +kernel
theorem dX1_turn1_27 : decode cX1_turn1 27 = .ok (.iload_n 3, 1) := by decide +kernel
theorem dX1_turn1_28 : decode cX1_turn1 28 = .ok (.aload_n 0, 1) := by decide +kernel
theorem dX1_turn1_29 : decode cX1_turn1 29 = .ok (.getfield 7, 3) := by decide +kernel
theorem dX1_turn1_32 : decode cX1_turn1 32 = .ok (.irem, 1) := by decide +kernel
theorem dX1_turn1_33 : decode cX1_turn1 33 = .ok (.aload_n 0, 1) := by decide +kernel
theorem dX1_turn1_34 : decode cX1_turn1 34 = .ok (.iload_n 3, 1) := by decide +kernel
theorem dX1_turn1_35 : decode cX1_turn1 35 = .ok (.aload_n 0, 1) := by decide +kernel
theorem dX1_turn1_36 : decode cX1_turn1 36 = .ok (.getfield 7, 3) := by decide +kernel
theorem dX1_turn1_39 : decode cX1_turn1 39 = .ok (.if_icmp .ge 13, 3) := by decide +kernel
theorem dX1_turn1_42 : decode cX1_turn1 42 = .ok (.aload_n 0, 1) := by decide +kernel
theorem dX1_turn1_43 : decode cX1_turn1 43 = .ok (.getfield 20, 3) := by decide +kernel
theorem dX1_turn1_46 : decode cX1_turn1 46 = .ok (.iload_n 2, 1) := by decide +kernel
theorem dX1_turn1_47 : decode cX1_turn1 47 = .ok (.iaload, 1) := by decide +kernel
theorem dX1_turn1_48 : decode cX1_turn1 48 = .ok (.i2l, 1) := by decide +kernel
theorem dX1_turn1_49 : decode cX1_turn1 49 = .ok (.goto 11, 3) := by decide +kernel
theorem dX1_turn1_52 : decode cX1_turn1 52 = .ok (.aload_n 0, 1) := by decide +kernel
theorem dX1_turn1_53 : decode cX1_turn1 53 = .ok (.getfield 20, 3) := by decide +kernel
theorem dX1_turn1_56 : decode cX1_turn1 56 = .ok (.iload_n 2, 1) := by decide +kernel
theorem dX1_turn1_57 : decode cX1_turn1 57 = .ok (.iaload, 1) := by decide +kernel
theorem dX1_turn1_58 : decode cX1_turn1 58 = .ok (.ineg, 1) := by decide +kernel
theorem dX1_turn1_59 : decode cX1_turn1 59 = .ok (.i2l, 1) := by decide +kernel
theorem dX1_turn1_60 : decode cX1_turn1 60 = .ok (.invokevirtual 54, 3) := by decide +kernel
theorem dX1_turn1_63 : decode cX1_turn1 63 = .ok (.iastore, 1) := by decide +kernel
theorem dX1_turn1_64 : decode cX1_turn1 64 = .ok (.iinc 2 1, 3) := by decide +kernel
theorem dX1_turn1_67 : decode cX1_turn1 67 = .ok (.goto (-65), 3) := by decide +kernel
theorem dX1_turn1_70 : decode cX1_turn1 70 = .ok (.return_, 1) := by decide +kernel
theorem dX1_turn_0 : decode cX1_turn 0 = .ok (.aload_n 0, 1) := by decide +kernel
theorem dX1_turn_1 : decode cX1_turn 1 = .ok (.iload_n 1, 1) := by decide +kernel
theorem dX1_turn_2 : decode cX1_turn 2 = .ok (.invokestatic 46, 3) := by decide +kernel
theorem dX1_turn_5 : decode cX1_turn 5 = .ok (.ifCond .ne 10, 3) := by decide +kernel
theorem dX1_turn_8 : decode cX1_turn 8 = .ok (.iload_n 2, 1) := by decide +kernel
theorem dX1_turn_9 : decode cX1_turn 9 = .ok (.invokestatic 46, 3) := by decide +kernel
theorem dX1_turn_12 : decode cX1_turn 12 = .ok (.ifCond .eq 7, 3) := by decide +kernel
theorem dX1_turn_15 : decode cX1_turn 15 = .ok (.iconst 1, 1) := by decide +kernel
theorem dX1_turn_16 : decode cX1_turn 16 = .ok (.goto 14, 3) := by decide +kernel
theorem dX1_turn_19 : decode cX1_turn 19 = .ok (.iload_n 3, 1) := by decide +kernel
theorem dX1_turn_20 : decode cX1_turn 20 = .ok (.iconst 1, 1) := by decide +kernel
theorem dX1_turn_21 : decode cX1_turn 21 = .ok (.iand, 1) := by decide +kernel
theorem dX1_turn_22 : decode cX1_turn 22 = .ok (.ifCond .ne 7, 3) := by decide +kernel
theorem dX1_turn_25 : decode cX1_turn 25 = .ok (.iconst 2, 1) := by decide +kernel
theorem dX1_turn_26 : decode cX1_turn 26 = .ok (.goto 4, 3) := by decide +kernel
theorem dX1_turn_29 : decode cX1_turn 29 = .ok (.iconst 0, 1) := by decide +kernel
theorem dX1_turn_30 : decode cX1_turn 30 = .ok (.putfield 32, 3) := by decide +kernel
theorem dX1_turn_33 : decode cX1_turn 33 = .ok (.aload_n 0, 1) := by decide +kernel
theorem dX1_turn_34 : decode cX1_turn 34 = .ok (.getfield 32, 3) := by decide +kernel
theorem dX1_turn_37 : decode cX1_turn 37 = .ok (.ifCond .le 5, 3) := by decide +kernel
theorem dX1_turn_40 : decode cX1_turn 40 = .ok (.iconst 0, 1) := by decide +kernel
theorem dX1_turn_41 : decode cX1_turn 41 = .ok (.ireturn, 1) := by decide +kernel
theorem dX1_turn_42 : decode cX1_turn 42 = .ok (.aload_n 0, 1) := by decide +kernel
theorem dX1_turn_43 : decode cX1_turn 43 = .ok (.iload_n 2, 1) := by decide +kernel
theorem dX1_turn_44 : decode cX1_turn 44 = .ok (.aload_n 0, 1) := by decide +kernel
theorem dX1_turn_45 : decode cX1_turn 45 = .ok (.getfield 20, 3) := by decide +kernel
theorem dX1_turn_48 : decode cX1_turn 48 = .ok (.invokevirtual 62, 3) := by decide +kernel
theorem dX1_turn_51 : decode cX1_turn 51 = .ok (.aload_n 0, 1) := by decide +kernel
theorem dX1_turn_52 : decode cX1_turn 52 = .ok (.iload_n 3, 1) := by decide +kernel
theorem dX1_turn_53 : decode cX1_turn 53 = .ok (.iconst 2, 1) := by decide +kernel
theorem dX1_turn_54 : decode cX1_turn 54 = .ok (.aload_n 0, 1) := by decide +kernel
theorem dX1_turn_55 : decode cX1_turn 55 = .ok (.getfield 7, 3) := by decide +kernel
theorem dX1_turn_58 : decode cX1_turn 58 = .ok (.imul, 1) := by decide +kernel
theorem dX1_turn_59 : decode cX1_turn 59 = .ok (.invokestatic 91, 3) := by decide +kernel
theorem dX1_turn_62 : decode cX1_turn 62 = .ok (.invokevirtual 96, 3) := by decide +kernel
theorem dX1_turn_65 : decode cX1_turn 65 = .ok (.aload_n 0, 1) := by decide +kernel
theorem dX1_turn_66 : decode cX1_turn 66 = .ok (.iload_n 1, 1) := by decide +kernel
theorem dX1_turn_67 : decode cX1_turn 67 = .ok (.aload_n 0, 1) := by decide +kernel
theorem dX1_turn_68 : decode cX1_turn 68 = .ok (.getfield 23, 3) := by decide +kernel
theorem dX1_turn_71 : decode cX1_turn 71 = .ok (.invokevirtual 70, 3) := by decide +kernel
theorem dX1_turn_74 : decode cX1_turn 74 = .ok (.aload_n 0, 1) := by decide +kernel
theorem dX1_turn_75 : decode cX1_turn 75 = .ok (.aload_n 0, 1) := by decide +kernel
theorem dX1_turn_76 : decode cX1_turn 76 = .ok (.getfield 23, 3) := by decide +kernel
theorem dX1_turn_79 : decode cX1_turn 79 = .ok (.iconst 0, 1) := by decide +kernel
theorem dX1_turn_80 : decode cX1_turn 80 = .ok (.invokevirtual 58, 3) := by decide +kernel
theorem dX1_turn_83 : decode cX1_turn 83 = .ok (.ireturn, 1) := by decide +kernel
theorem dX1_power_0 : decode cX1_power 0 = .ok (.aload_n 0, 1) := by decide +kernel
theorem dX1_power_1 : decode cX1_power 1 = .ok (.iload_n 1, 1) := by decide +kernel
theorem dX1_power_2 : decode cX1_power 2 = .ok (.invokestatic 46, 3) := by decide +kernel
theorem dX1_power_5 : decode cX1_power 5 = .ok (.ifCond .ne 10, 3) := by decide +kernel
theorem dX1_power_8 : decode cX1_power 8 = .ok (.iload_n 2, 1) := by decide +kernel
theorem dX1_power_9 : decode cX1_power 9 = .ok (.invokestatic 46, 3) := by decide +kernel
theorem dX1_power_12 : decode cX1_power 12 = .ok (.ifCond .eq 7, 3) := by decide +kernel
theorem dX1_power_15 : decode cX1_power 15 = .ok (.iconst 1, 1) := by decide +kernel
theorem dX1_power_16 : decode cX1_power 16 = .ok (.goto 4, 3) := by decide +kernel
theorem dX1_power_19 : decode cX1_power 19 = .ok (.iconst 0, 1) := by decide +kernel
theorem dX1_power_20 : decode cX1_power 20 = .ok (.putfield 32, 3) := by decide +kernel
theorem dX1_power_23 : decode cX1_power 23 = .ok (.aload_n 0, 1) := by decide +kernel
theorem dX1_power_24 : decode cX1_power 24 = .ok (.getfield 32, 3) := by decide +kernel
theorem dX1_power_27 : decode cX1_power 27 = .ok (.ifCond .le 5, 3) := by decide +kernel
theorem dX1_power_30 : decode cX1_power 30 = .ok (.iconst 0, 1) := by decide +kernel
theorem dX1_power_31 : decode cX1_power 31 = .ok (.ireturn, 1) := by decide +kernel
theorem dX1_power_32 : decode cX1_power 32 = .ok (.aload_n 0, 1) := by decide +kernel
theorem dX1_power_33 : decode cX1_power 33 = .ok (.iload_n 2, 1) := by decide +kernel
theorem dX1_power_34 : decode cX1_power 34 = .ok (.aload_n 0, 1) := by decide +kernel
theorem dX1_power_35 : decode cX1_power 35 = .ok (.getfield 20, 3) := by decide +kernel
theorem dX1_power_38 : decode cX1_power 38 = .ok (.invokevirtual 62, 3) := by decide +kernel
theorem dX1_power_41 : decode cX1_power 41 = .ok (.iload_n 3, 1) := by decide +kernel
theorem dX1_power_42 : decode cX1_power 42 = .ok (.ifCond .ge 37, 3) := by decide +kernel
theorem dX1_power_45 : decode cX1_power 45 = .ok (.aload_n 0, 1) := by decide +kernel
theorem dX1_power_46 : decode cX1_power 46 = .ok (.aload_n 0, 1) := by decide +kernel
theorem dX1_power_47 : decode cX1_power 47 = .ok (.getfield 20, 3) := by decide +kernel
theorem dX1_power_50 : decode cX1_power 50 = .ok (.invokevirtual 77, 3) := by decide +kernel
theorem dX1_power_53 : decode cX1_power 53 = .ok (.ifCond .le 9, 3) := by decide +kernel
theorem dX1_power_56 : decode cX1_power 56 = .ok (.aload_n 0, 1) := by decide +kernel
theorem dX1_power_57 : decode cX1_power 57 = .ok (.iconst 2, 1) := by decide +kernel
theorem dX1_power_58 : decode cX1_power 58 = .ok (.invokevirtual 81, 3) := by decide +kernel
theorem dX1_power_61 : decode cX1_power 61 = .ok (.ireturn, 1) := by decide +kernel
theorem dX1_power_62 : decode cX1_power 62 = .ok (.aload_n 0, 1) := by decide +kernel
theorem dX1_power_63 : decode cX1_power 63 = .ok (.aload_n 0, 1) := by decide +kernel
theorem dX1_power_64 : decode cX1_power 64 = .ok (.getfield 20, 3) := by decide +kernel
theorem dX1_power_67 : decode cX1_power 67 = .ok (.aload_n 0, 1) := by decide +kernel
theorem dX1_power_68 : decode cX1_power 68 = .ok (.getfield 13, 3) := by decide +kernel
theorem dX1_power_71 : decode cX1_power 71 = .ok (.i2l, 1) := by decide +kernel
theorem dX1_power_72 : decode cX1_power 72 = .ok (.ldc2_w 85, 3) := by decide +kernel
theorem dX1_power_75 : decode cX1_power 75 = .ok (.lsub, 1) := by decide +kernel
theorem dX1_power_76 : decode cX1_power 76 = .ok (.invokevirtual 87, 3) := by decide +kernel
theorem dX1_power_79 : decode cX1_power 79 = .ok (.aload_n 0, 1) := by decide +kernel
theorem dX1_power_80 : decode cX1_power 80 = .ok (.aload_n 0, 1) := by decide +kernel
theorem dX1_power_81 : decode cX1_power 81 = .ok (.getfield 20, 3) := by decide +kernel
theorem dX1_power_84 : decode cX1_power 84 = .ok (.iload_n 3, 1) := by decide +kernel
theorem dX1_power_85 : decode cX1_power 85 = .ok (.ifCond .ge 9, 3) := by decide +kernel
theorem dX1_power_88 : decode cX1_power 88 = .ok (.iload_n 3, 1) := by decide +kernel
theorem dX1_power_89 : decode cX1_power 89 = .ok (.i2l, 1) := by decide +kernel
theorem dX1_power_90 : decode cX1_power 90 = .ok (.lneg, 1) := by decide +kernel
theorem dX1_power_91 : decode cX1_power 91 = .ok (.goto 5, 3) := by decide +kernel
theorem dX1_power_94 : decode cX1_power 94 = .ok (.iload_n 3, 1) := by decide +kernel
theorem dX1_power_95 : decode cX1_power 95 = .ok (.i2l, 1) := by decide +kernel
theorem dX1_power_96 : decode cX1_power 96 = .ok (.invokevirtual 87, 3) := by decide +kernel
theorem dX1_power_99 : decode cX1_power 99 = .ok (.aload_n 0, 1) := by decide +kernel
theorem dX1_power_100 : decode cX1_power 100 = .ok (.iload_n 1, 1) := by decide +kernel
theorem dX1_power_101 : decode cX1_power 101 = .ok (.aload_n 0, 1) := by decide +kernel
theorem dX1_power_102 : decode cX1_power 102 = .ok (.getfield 20, 3) := by decide +kernel
theorem dX1_power_105 : decode cX1_power 105 = .ok (.invokevirtual 70, 3) := by decide +kernel
theorem dX1_power_108 : decode cX1_power 108 = .ok (.aload_n 0, 1) := by decide +kernel
theorem dX1_power_109 : decode cX1_power 109 = .ok (.aload_n 0, 1) := by decide +kernel
theorem dX1_power_110 : decode cX1_power 110 = .ok (.getfield 20, 3) := by decide +kernel
theorem dX1_power_113 : decode cX1_power 113 = .ok (.invokevirtual 77, 3) := by decide +kernel
theorem dX1_power_116 : decode cX1_power 116 = .ok (.ireturn, 1) := by decide +kernel
theorem dX1_root_0 : decode cX1_root 0 = .ok (.aload_n 0, 1) := by decide +kernel
theorem dX1_root_1 : decode cX1_root 1 = .ok (.iload_n 1, 1) := by decide +kernel
theorem dX1_root_2 : decode cX1_root 2 = .ok (.invokestatic 46, 3) := by decide +kernel
theorem dX1_root_5 : decode cX1_root 5 = .ok (.ifCond .ne 10, 3) := by decide +kernel
theorem dX1_root_8 : decode cX1_root 8 = .ok (.iload_n 2, 1) := by decide +kernel
theorem dX1_root_9 : decode cX1_root 9 = .ok (.invokestatic 46, 3) := by decide +kernel
theorem dX1_root_12 : decode cX1_root 12 = .ok (.ifCond .eq 7, 3) := by decide +kernel
theorem dX1_root_15 : decode cX1_root 15 = .ok (.iconst 1, 1) := by decide +kernel
theorem dX1_root_16 : decode cX1_root 16 = .ok (.goto 4, 3) := by decide +kernel
theorem dX1_root_19 : decode cX1_root 19 = .ok (.iconst 0, 1) := by decide +kernel
theorem dX1_root_20 : decode cX1_root 20 = .ok (.putfield 32, 3) := by decide +kernel
theorem dX1_root_23 : decode cX1_root 23 = .ok (.aload_n 0, 1) := by decide +kernel
theorem dX1_root_24 : decode cX1_root 24 = .ok (.getfield 32, 3) := by decide +kernel
theorem dX1_root_27 : decode cX1_root 27 = .ok (.ifCond .le 5, 3) := by decide +kernel
theorem dX1_root_30 : decode cX1_root 30 = .ok (.lconst 0, 1) := by decide +kernel
theorem dX1_root_31 : decode cX1_root 31 = .ok (.lreturn, 1) := by decide +kernel
theorem dX1_root_32 : decode cX1_root 32 = .ok (.aload_n 0, 1) := by decide +kernel
theorem dX1_root_33 : decode cX1_root 33 = .ok (.iload_n 2, 1) := by decide +kernel
theorem dX1_root_34 : decode cX1_root 34 = .ok (.aload_n 0, 1) := by decide +kernel
theorem dX1_root_35 : decode cX1_root 35 = .ok (.getfield 20, 3) := by decide +kernel
theorem dX1_root_38 : decode cX1_root 38 = .ok (.invokevirtual 62, 3) := by decide +kernel
theorem dX1_root_41 : decode cX1_root 41 = .ok (.iconst 0, 1) := by decide +kernel
theorem dX1_root_42 : decode cX1_root 42 = .ok (.istore_n 3, 1) := by decide +kernel
theorem dX1_root_43 : decode cX1_root 43 = .ok (.iload_n 3, 1) := by decide +kernel
theorem dX1_root_44 : decode cX1_root 44 = .ok (.aload_n 0, 1) := by decide +kernel
theorem dX1_root_45 : decode cX1_root 45 = .ok (.getfield 7, 3) := by decide +kernel
theorem dX1_root_48 : decode cX1_root 48 = .ok (.if_icmp .ge 16, 3) := by decide +kernel
theorem dX1_root_51 : decode cX1_root 51 = .ok (.aload_n 0, 1) := by decide +kernel
theorem dX1_root_52 : decode cX1_root 52 = .ok (.getfield 23, 3) := by decide +kernel
theorem dX1_root_55 : decode cX1_root 55 = .ok (.iload_n 3, 1) := by decide +kernel
theorem dX1_root_56 : decode cX1_root 56 = .ok (.iconst 0, 1) := by decide +kernel
theorem dX1_root_57 : decode cX1_root 57 = .ok (.iastore, 1) := by decide +kernel
theorem dX1_root_58 : decode cX1_root 58 = .ok (.iinc 3 1, 3) := by decide +kernel
theorem dX1_root_61 : decode cX1_root 61 = .ok (.goto (-18), 3) := by decide +kernel
theorem dX1_root_64 : decode cX1_root 64 = .ok (.lconst 1, 1) := by decide +kernel
theorem dX1_root_65 : decode cX1_root 65 = .ok (.lstore_n 3, 1) := by decide +kernel
theorem dX1_root_66 : decode cX1_root 66 = .ok (.iconst 0, 1) := by decide +kernel
theorem dX1_root_67 : decode cX1_root 67 = .ok (.istore 5, 2) := by decide +kernel
theorem dX1_root_69 : decode cX1_root 69 = .ok (.iload 5, 2) := by decide +kernel
theorem dX1_root_71 : decode cX1_root 71 = .ok (.aload_n 0, 1) := by decide +kernel
theorem dX1_root_72 : decode cX1_root 72 = .ok (.getfield 7, 3) := by decide +kernel
theorem dX1_root_75 : decode cX1_root 75 = .ok (.if_icmp .ge 93, 3) := by decide +kernel
theorem dX1_root_78 : decode cX1_root 78 = .ok (.aload_n 0, 1) := by decide +kernel
theorem dX1_root_79 : decode cX1_root 79 = .ok (.aload_n 0, 1) := by decide +kernel
theorem dX1_root_80 : decode cX1_root 80 = .ok (.getfield 20, 3) := by decide +kernel
theorem dX1_root_83 : decode cX1_root 83 = .ok (.iload 5, 2) := by decide +kernel
theorem dX1_root_85 : decode cX1_root 85 = .ok (.invokevirtual 58, 3) := by decide +kernel
theorem dX1_root_88 : decode cX1_root 88 = .ok (.istore 6, 2) := by decide +kernel
theorem dX1_root_90 : decode cX1_root 90 = .ok (.iconst 0, 1) := by decide +kernel
theorem dX1_root_91 : decode cX1_root 91 = .ok (.istore 7, 2) := by decide +kernel
theorem dX1_root_93 : decode cX1_root 93 = .ok (.iload 7, 2) := by decide +kernel
theorem dX1_root_95 : decode cX1_root 95 = .ok (.aload_n 0, 1) := by decide +kernel
theorem dX1_root_96 : decode cX1_root 96 = .ok (.getfield 13, 3) := by decide +kernel
theorem dX1_root_99 : decode cX1_root 99 = .ok (.if_icmp .ge 24, 3) := by decide +kernel
theorem dX1_root_102 : decode cX1_root 102 = .ok (.iload 7, 2) := by decide +kernel
theorem dX1_root_104 : decode cX1_root 104 = .ok (.iload 7, 2) := by decide +kernel
theorem dX1_root_106 : decode cX1_root 106 = .ok (.imul, 1) := by decide +kernel
theorem dX1_root_107 : decode cX1_root 107 = .ok (.aload_n 0, 1) := by decide +kernel
theorem dX1_root_108 : decode cX1_root 108 = .ok (.getfield 13, 3) := by decide +kernel
theorem dX1_root_111 : decode cX1_root 111 = .ok (.irem, 1) := by decide +kernel
theorem dX1_root_112 : decode cX1_root 112 = .ok (.iload 6, 2) := by decide +kernel
theorem dX1_root_114 : decode cX1_root 114 = .ok (.if_icmp .eq 9, 3) := by decide +kernel
theorem dX1_root_117 : decode cX1_root 117 = .ok (.iinc 7 1, 3) := by decide +kernel
theorem dX1_root_120 : decode cX1_root 120 = .ok (.goto (-27), 3) := by decide +kernel
theorem dX1_root_123 : decode cX1_root 123 = .ok (.iload 7, 2) := by decide +kernel
theorem dX1_root_125 : decode cX1_root 125 = .ok (.aload_n 0, 1) := by decide +kernel
theorem dX1_root_126 : decode cX1_root 126 = .ok (.getfield 13, 3) := by decide +kernel
theorem dX1_root_129 : decode cX1_root 129 = .ok (.if_icmp .ne 10, 3) := by decide +kernel
theorem dX1_root_132 : decode cX1_root 132 = .ok (.aload_n 0, 1) := by decide +kernel
theorem dX1_root_133 : decode cX1_root 133 = .ok (.iconst 2, 1) := by decide +kernel
theorem dX1_root_134 : decode cX1_root 134 = .ok (.invokevirtual 81, 3) := by decide +kernel
theorem dX1_root_137 : decode cX1_root 137 = .ok (.i2l, 1) := by decide +kernel
theorem dX1_root_138 : decode cX1_root 138 = .ok (.lreturn, 1) := by decide +kernel
theorem dX1_root_139 : decode cX1_root 139 = .ok (.iload 6, 2) := by decide +kernel
theorem dX1_root_141 : decode cX1_root 141 = .ok (.ifCond .eq 9, 3) := by decide +kernel
theorem dX1_root_144 : decode cX1_root 144 = .ok (.lload_n 3, 1) := by decide +kernel
theorem dX1_root_145 : decode cX1_root 145 = .ok (.ldc2_w 85, 3) := by decide +kernel
theorem dX1_root_148 : decode cX1_root 148 = .ok (.lmul, 1) := by decide +kernel
theorem dX1_root_149 : decode cX1_root 149 = .ok (.lstore_n 3, 1) := by decide +kernel
theorem dX1_root_150 : decode cX1_root 150 = .ok (.aload_n 0, 1) := by decide +kernel
theorem dX1_root_151 : decode cX1_root 151 = .ok (.aload_n 0, 1) := by decide +kernel
theorem dX1_root_152 : decode cX1_root 152 = .ok (.getfield 23, 3) := by decide +kernel
theorem dX1_root_155 : decode cX1_root 155 = .ok (.iload 5, 2) := by decide +kernel
theorem dX1_root_157 : decode cX1_root 157 = .ok (.iload 7, 2) := by decide +kernel
theorem dX1_root_159 : decode cX1_root 159 = .ok (.invokevirtual 66, 3) := by decide +kernel
theorem dX1_root_162 : decode cX1_root 162 = .ok (.iinc 5 1, 3) := by decide +kernel
theorem dX1_root_165 : decode cX1_root 165 = .ok (.goto (-96), 3) := by decide +kernel
theorem dX1_root_168 : decode cX1_root 168 = .ok (.aload_n 0, 1) := by decide +kernel
theorem dX1_root_169 : decode cX1_root 169 = .ok (.iload_n 1, 1) := by decide +kernel
theorem dX1_root_170 : decode cX1_root 170 = .ok (.aload_n 0, 1) := by decide +kernel
theorem dX1_root_171 : decode cX1_root 171 = .ok (.getfield 23, 3) := by decide +kernel
theorem dX1_root_174 : decode cX1_root 174 = .ok (.invokevirtual 70, 3) := by decide +kernel
theorem dX1_root_177 : decode cX1_root 177 = .ok (.lload_n 3, 1) := by decide +kernel
theorem dX1_root_178 : decode cX1_root 178 = .ok (.lreturn, 1) := by decide +kernel
theorem dX1_order_0 : decode cX1_order 0 = .ok (.aload_n 0, 1) := by decide +kernel
theorem dX1_order_1 : decode cX1_order 1 = .ok (.iload_n 1, 1) := by decide +kernel
theorem dX1_order_2 : decode cX1_order 2 = .ok (.invokestatic 46, 3) := by decide +kernel
theorem dX1_order_5 : decode cX1_order 5 = .ok (.ifCond .eq 7, 3) := by decide +kernel
theorem dX1_order_8 : decode cX1_order 8 = .ok (.iconst 1, 1) := by decide +kernel
theorem dX1_order_9 : decode cX1_order 9 = .ok (.goto 4, 3) := by decide +kernel
theorem dX1_order_12 : decode cX1_order 12 = .ok (.iconst 0, 1) := by decide +kernel
theorem dX1_order_13 : decode cX1_order 13 = .ok (.putfield 32, 3) := by decide +kernel
theorem dX1_order_16 : decode cX1_order 16 = .ok (.aload_n 0, 1) := by decide +kernel
theorem dX1_order_17 : decode cX1_order 17 = .ok (.getfield 32, 3) := by decide +kernel
theorem dX1_order_20 : decode cX1_order 20 = .ok (.ifCond .le 5, 3) := by decide +kernel
theorem dX1_order_23 : decode cX1_order 23 = .ok (.iconst 0, 1) := by decide +kernel
theorem dX1_order_24 : decode cX1_order 24 = .ok (.ireturn, 1) := by decide +kernel
theorem dX1_order_25 : decode cX1_order 25 = .ok (.aload_n 0, 1) := by decide +kernel
theorem dX1_order_26 : decode cX1_order 26 = .ok (.iload_n 1, 1) := by decide +kernel
theorem dX1_order_27 : decode cX1_order 27 = .ok (.aload_n 0, 1) := by decide +kernel
theorem dX1_order_28 : decode cX1_order 28 = .ok (.getfield 20, 3) := by decide +kernel
theorem dX1_order_31 : decode cX1_order 31 = .ok (.invokevirtual 62, 3) := by decide +kernel
theorem dX1_order_34 : decode cX1_order 34 = .ok (.aload_n 0, 1) := by decide +kernel
theorem dX1_order_35 : decode cX1_order 35 = .ok (.aload_n 0, 1) := by decide +kernel
theorem dX1_order_36 : decode cX1_order 36 = .ok (.getfield 20, 3) := by decide +kernel
theorem dX1_order_39 : decode cX1_order 39 = .ok (.invokevirtual 77, 3) := by decide +kernel
theorem dX1_order_42 : decode cX1_order 42 = .ok (.ifCond .le 5, 3) := by decide +kernel
theorem dX1_order_45 : decode cX1_order 45 = .ok (.iconst 0, 1) := by decide +kernel
theorem dX1_order_46 : decode cX1_order 46 = .ok (.ireturn, 1) := by decide +kernel
theorem dX1_order_47 : decode cX1_order 47 = .ok (.aload_n 0, 1) := by decide +kernel
theorem dX1_order_48 : decode cX1_order 48 = .ok (.iload_n 1, 1) := by decide +kernel
theorem dX1_order_49 : decode cX1_order 49 = .ok (.aload_n 0, 1) := by decide +kernel
theorem dX1_order_50 : decode cX1_order 50 = .ok (.getfield 23, 3) := by decide +kernel
theorem dX1_order_53 : decode cX1_order 53 = .ok (.invokevirtual 62, 3) := by decide +kernel
theorem dX1_order_56 : decode cX1_order 56 = .ok (.iconst 1, 1) := by decide +kernel
theorem dX1_order_57 : decode cX1_order 57 = .ok (.istore_n 2, 1) := by decide +kernel
theorem dX1_order_58 : decode cX1_order 58 = .ok (.aload_n 0, 1) := by decide +kernel
theorem dX1_order_59 : decode cX1_order 59 = .ok (.invokevirtual 100, 3) := by decide +kernel
theorem dX1_order_62 : decode cX1_order 62 = .ok (.ifCond .ne 49, 3) := by decide +kernel
theorem dX1_order_65 : decode cX1_order 65 = .ok (.aload_n 0, 1) := by decide +kernel
theorem dX1_order_66 : decode cX1_order 66 = .ok (.aload_n 0, 1) := by decide +kernel
theorem dX1_order_67 : decode cX1_order 67 = .ok (.getfield 23, 3) := by decide +kernel
theorem dX1_order_70 : decode cX1_order 70 = .ok (.aload_n 0, 1) := by decide +kernel
theorem dX1_order_71 : decode cX1_order 71 = .ok (.getfield 20, 3) := by decide +kernel
theorem dX1_order_74 : decode cX1_order 74 = .ok (.invokevirtual 73, 3) := by decide +kernel
theorem dX1_order_77 : decode cX1_order 77 = .ok (.iconst 0, 1) := by decide +kernel
theorem dX1_order_78 : decode cX1_order 78 = .ok (.istore_n 3, 1) := by decide +kernel
theorem dX1_order_79 : decode cX1_order 79 = .ok (.iload_n 3, 1) := by decide +kernel
theorem dX1_order_80 : decode cX1_order 80 = .ok (.aload_n 0, 1) := by decide +kernel
theorem dX1_order_81 : decode cX1_order 81 = .ok (.getfield 7, 3) := by decide +kernel
theorem dX1_order_84 : decode cX1_order 84 = .ok (.if_icmp .ge 21, 3) := by decide +kernel
theorem dX1_order_87 : decode cX1_order 87 = .ok (.aload_n 0, 1) := by decide +kernel
theorem dX1_order_88 : decode cX1_order 88 = .ok (.getfield 23, 3) := by decide +kernel
theorem dX1_order_91 : decode cX1_order 91 = .ok (.iload_n 3, 1) := by decide +kernel
theorem dX1_order_92 : decode cX1_order 92 = .ok (.aload_n 0, 1) := by decide +kernel
theorem dX1_order_93 : decode cX1_order 93 = .ok (.getfield 26, 3) := by decide +kernel
theorem dX1_order_96 : decode cX1_order 96 = .ok (.iload_n 3, 1) := by decide +kernel
theorem dX1_order_97 : decode cX1_order 97 = .ok (.iaload, 1) := by decide +kernel
theorem dX1_order_98 : decode cX1_order 98 = .ok (.iastore, 1) := by decide +kernel
theorem dX1_order_99 : decode cX1_order 99 = .ok (.iinc 3 1, 3) := by decide +kernel
theorem dX1_order_102 : decode cX1_order 102 = .ok (.goto (-23), 3) := by decide +kernel
theorem dX1_order_105 : decode cX1_order 105 = .ok (.iinc 2 1, 3) := by decide +kernel
theorem dX1_order_108 : decode cX1_order 108 = .ok (.goto (-50), 3) := by decide +kernel
theorem dX1_order_111 : decode cX1_order 111 = .ok (.iload_n 2, 1) := by decide +kernel
theorem dX1_order_112 : decode cX1_order 112 = .ok (.ireturn, 1) := by decide +kernel
theorem dX1_one_0 : decode cX1_one 0 = .ok (.aload_n 0, 1) := by decide +kernel
theorem dX1_one_1 : decode cX1_one 1 = .ok (.getfield 23, 3) := by decide +kernel
theorem dX1_one_4 : decode cX1_one 4 = .ok (.iconst 0, 1) := by decide +kernel
theorem dX1_one_5 : decode cX1_one 5 = .ok (.iaload, 1) := by decide +kernel
theorem dX1_one_6 : decode cX1_one 6 = .ok (.iconst 1, 1) := by decide +kernel
theorem dX1_one_7 : decode cX1_one 7 = .ok (.if_icmp .ne 7, 3) := by decide +kernel
theorem dX1_one_10 : decode cX1_one 10 = .ok (.iconst 1, 1) := by decide +kernel
theorem dX1_one_11 : decode cX1_one 11 = .ok (.goto 4, 3) := by decide +kernel
theorem dX1_one_14 : decode cX1_one 14 = .ok (.iconst 0, 1) := by decide +kernel
theorem dX1_one_15 : decode cX1_one 15 = .ok (.istore_n 1, 1) := by decide +kernel
theorem dX1_one_16 : decode cX1_one 16 = .ok (.iconst 1, 1) := by decide +kernel
theorem dX1_one_17 : decode cX1_one 17 = .ok (.istore_n 2, 1) := by decide +kernel
theorem dX1_one_18 : decode cX1_one 18 = .ok (.iload_n 2, 1) := by decide +kernel
theorem dX1_one_19 : decode cX1_one 19 = .ok (.aload_n 0, 1) := by decide +kernel
theorem dX1_one_20 : decode cX1_one 20 = .ok (.getfield 7, 3) := by decide +kernel
theorem dX1_one_23 : decode cX1_one 23 = .ok (.if_icmp .ge 26, 3) := by decide +kernel
theorem dX1_one_26 : decode cX1_one 26 = .ok (.iload_n 1, 1) := by decide +kernel
theorem dX1_one_27 : decode cX1_one 27 = .ok (.aload_n 0, 1) := by decide +kernel
theorem dX1_one_28 : decode cX1_one 28 = .ok (.getfield 23, 3) := by decide +kernel
theorem dX1_one_31 : decode cX1_one 31 = .ok (.iload_n 2, 1) := by decide +kernel
theorem dX1_one_32 : decode cX1_one 32 = .ok (.iaload, 1) := by decide +kernel
theorem dX1_one_33 : decode cX1_one 33 = .ok (.ifCond .ne 7, 3) := by decide +kernel
theorem dX1_one_36 : decode cX1_one 36 = .ok (.iconst 1, 1) := by decide +kernel
theorem dX1_one_37 : decode cX1_one 37 = .ok (.goto 4, 3) := by decide +kernel
theorem dX1_one_40 : decode cX1_one 40 = .ok (.iconst 0, 1) := by decide +kernel
theorem dX1_one_41 : decode cX1_one 41 = .ok (.iand, 1) := by decide +kernel
theorem dX1_one_42 : decode cX1_one 42 = .ok (.istore_n 1, 1) := by decide +kernel
theorem dX1_one_43 : decode cX1_one 43 = .ok (.iinc 2 1, 3) := by decide +kernel
theorem dX1_one_46 : decode cX1_one 46 = .ok (.goto (-28), 3) := by decide +kernel
theorem dX1_one_49 : decode cX1_one 49 = .ok (.iload_n 1, 1) := by decide +kernel
theorem dX1_one_50 : decode cX1_one 50 = .ok (.ireturn, 1) := by decide +kernel
theorem dX1_about_0 : decode cX1_about 0 = .ok (.aload_n 0, 1) := by decide +kernel
theorem dX1_about_1 : decode cX1_about 1 = .ok (.iload_n 1, 1) := by decide +kernel
theorem dX1_about_2 : decode cX1_about 2 = .ok (.invokestatic 46, 3) := by decide +kernel
theorem dX1_about_5 : decode cX1_about 5 = .ok (.ifCond .eq 7, 3) := by decide +kernel
theorem dX1_about_8 : decode cX1_about 8 = .ok (.iconst 1, 1) := by decide +kernel
theorem dX1_about_9 : decode cX1_about 9 = .ok (.goto 17, 3) := by decide +kernel
theorem dX1_about_12 : decode cX1_about 12 = .ok (.iload_n 2, 1) := by decide +kernel
theorem dX1_about_13 : decode cX1_about 13 = .ok (.ifCond .lt 8, 3) := by decide +kernel
theorem dX1_about_16 : decode cX1_about 16 = .ok (.iload_n 2, 1) := by decide +kernel
theorem dX1_about_17 : decode cX1_about 17 = .ok (.iconst 5, 1) := by decide +kernel
theorem dX1_about_18 : decode cX1_about 18 = .ok (.if_icmp .le 7, 3) := by decide +kernel
theorem dX1_about_21 : decode cX1_about 21 = .ok (.iconst 2, 1) := by decide +kernel
theorem dX1_about_22 : decode cX1_about 22 = .ok (.goto 4, 3) := by decide +kernel
theorem dX1_about_25 : decode cX1_about 25 = .ok (.iconst 0, 1) := by decide +kernel
theorem dX1_about_26 : decode cX1_about 26 = .ok (.putfield 32, 3) := by decide +kernel
theorem dX1_about_29 : decode cX1_about 29 = .ok (.aload_n 0, 1) := by decide +kernel
theorem dX1_about_30 : decode cX1_about 30 = .ok (.getfield 32, 3) := by decide +kernel
theorem dX1_about_33 : decode cX1_about 33 = .ok (.ifCond .le 5, 3) := by decide +kernel
theorem dX1_about_36 : decode cX1_about 36 = .ok (.iconst 0, 1) := by decide +kernel
theorem dX1_about_37 : decode cX1_about 37 = .ok (.ireturn, 1) := by decide +kernel
theorem dX1_about_38 : decode cX1_about 38 = .ok (.aload_n 0, 1) := by decide +kernel
theorem dX1_about_39 : decode cX1_about 39 = .ok (.iload_n 1, 1) := by decide +kernel
theorem dX1_about_40 : decode cX1_about 40 = .ok (.aload_n 0, 1) := by decide +kernel
theorem dX1_about_41 : decode cX1_about 41 = .ok (.getfield 20, 3) := by decide +kernel
theorem dX1_about_44 : decode cX1_about 44 = .ok (.invokevirtual 62, 3) := by decide +kernel
theorem dX1_about_47 : decode cX1_about 47 = .ok (.iload_n 2, 1) := by decide +kernel
theorem dX1_about_48 : decode cX1_about 48 = .ok (.ifCond .ne 7, 3) := by decide +kernel
theorem dX1_about_51 : decode cX1_about 51 = .ok (.iconst 1, 1) := by decide +kernel
theorem dX1_about_52 : decode cX1_about 52 = .ok (.goto 4, 3) := by decide +kernel
theorem dX1_about_55 : decode cX1_about 55 = .ok (.iconst 0, 1) := by decide +kernel
theorem dX1_about_56 : decode cX1_about 56 = .ok (.istore_n 3, 1) := by decide +kernel
theorem dX1_about_57 : decode cX1_about 57 = .ok (.iload_n 2, 1) := by decide +kernel
theorem dX1_about_58 : decode cX1_about 58 = .ok (.tableswitch 221 0 4 #[34, 72, 110, 119, 193], 34) := by decide +kernel
theorem dX1_about_92 : decode cX1_about 92 = .ok (.iconst 0, 1) := by decide +kernel
theorem dX1_about_93 : decode cX1_about 93 = .ok (.istore 4, 2) := by decide +kernel
theorem dX1_about_95 : decode cX1_about 95 = .ok (.iload 4, 2) := by decide +kernel
theorem dX1_about_97 : decode cX1_about 97 = .ok (.aload_n 0, 1) := by decide +kernel
theorem dX1_about_98 : decode cX1_about 98 = .ok (.getfield 7, 3) := by decide +kernel
theorem dX1_about_101 : decode cX1_about 101 = .ok (.if_icmp .ge 27, 3) := by decide +kernel
theorem dX1_about_104 : decode cX1_about 104 = .ok (.iload_n 3, 1) := by decide +kernel
theorem dX1_about_105 : decode cX1_about 105 = .ok (.aload_n 0, 1) := by decide +kernel
theorem dX1_about_106 : decode cX1_about 106 = .ok (.aload_n 0, 1) := by decide +kernel
theorem dX1_about_107 : decode cX1_about 107 = .ok (.getfield 20, 3) := by decide +kernel
theorem dX1_about_110 : decode cX1_about 110 = .ok (.iload 4, 2) := by decide +kernel
theorem dX1_about_112 : decode cX1_about 112 = .ok (.invokevirtual 58, 3) := by decide +kernel
theorem dX1_about_115 : decode cX1_about 115 = .ok (.imul, 1) := by decide +kernel
theorem dX1_about_116 : decode cX1_about 116 = .ok (.aload_n 0, 1) := by decide +kernel
theorem dX1_about_117 : decode cX1_about 117 = .ok (.getfield 13, 3) := by decide +kernel
theorem dX1_about_120 : decode cX1_about 120 = .ok (.irem, 1) := by decide +kernel
theorem dX1_about_121 : decode cX1_about 121 = .ok (.istore_n 3, 1) := by decide +kernel
theorem dX1_about_122 : decode cX1_about 122 = .ok (.iinc 4 1, 3) := by decide +kernel
theorem dX1_about_125 : decode cX1_about 125 = .ok (.goto (-30), 3) := by decide +kernel
theorem dX1_about_128 : decode cX1_about 128 = .ok (.iload_n 3, 1) := by decide +kernel
theorem dX1_about_129 : decode cX1_about 129 = .ok (.ireturn, 1) := by decide +kernel
theorem dX1_about_130 : decode cX1_about 130 = .ok (.iconst 0, 1) := by decide +kernel
theorem dX1_about_131 : decode cX1_about 131 = .ok (.istore 4, 2) := by decide +kernel
theorem dX1_about_133 : decode cX1_about 133 = .ok (.iload 4, 2) := by decide +kernel
theorem dX1_about_135 : decode cX1_about 135 = .ok (.aload_n 0, 1) := by decide +kernel
theorem dX1_about_136 : decode cX1_about 136 = .ok (.getfield 7, 3) := by decide +kernel
theorem dX1_about_139 : decode cX1_about 139 = .ok (.if_icmp .ge 27, 3) := by decide +kernel
theorem dX1_about_142 : decode cX1_about 142 = .ok (.iload_n 3, 1) := by decide +kernel
theorem dX1_about_143 : decode cX1_about 143 = .ok (.aload_n 0, 1) := by decide +kernel
theorem dX1_about_144 : decode cX1_about 144 = .ok (.aload_n 0, 1) := by decide +kernel
theorem dX1_about_145 : decode cX1_about 145 = .ok (.getfield 20, 3) := by decide +kernel
theorem dX1_about_148 : decode cX1_about 148 = .ok (.iload 4, 2) := by decide +kernel
theorem dX1_about_150 : decode cX1_about 150 = .ok (.invokevirtual 58, 3) := by decide +kernel
theorem dX1_about_153 : decode cX1_about 153 = .ok (.iadd, 1) := by decide +kernel
theorem dX1_about_154 : decode cX1_about 154 = .ok (.aload_n 0, 1) := by decide +kernel
theorem dX1_about_155 : decode cX1_about 155 = .ok (.getfield 13, 3) := by decide +kernel
theorem dX1_about_158 : decode cX1_about 158 = .ok (.irem, 1) := by decide +kernel
theorem dX1_about_159 : decode cX1_about 159 = .ok (.istore_n 3, 1) := by decide +kernel
theorem dX1_about_160 : decode cX1_about 160 = .ok (.iinc 4 1, 3) := by decide +kernel
theorem dX1_about_163 : decode cX1_about 163 = .ok (.goto (-30), 3) := by decide +kernel
theorem dX1_about_166 : decode cX1_about 166 = .ok (.iload_n 3, 1) := by decide +kernel
theorem dX1_about_167 : decode cX1_about 167 = .ok (.ireturn, 1) := by decide +kernel
theorem dX1_about_168 : decode cX1_about 168 = .ok (.aload_n 0, 1) := by decide +kernel
theorem dX1_about_169 : decode cX1_about 169 = .ok (.aload_n 0, 1) := by decide +kernel
theorem dX1_about_170 : decode cX1_about 170 = .ok (.getfield 20, 3) := by decide +kernel
theorem dX1_about_173 : decode cX1_about 173 = .ok (.invokevirtual 77, 3) := by decide +kernel
theorem dX1_about_176 : decode cX1_about 176 = .ok (.ireturn, 1) := by decide +kernel
theorem dX1_about_177 : decode cX1_about 177 = .ok (.iconst 0, 1) := by decide +kernel
theorem dX1_about_178 : decode cX1_about 178 = .ok (.istore 4, 2) := by decide +kernel
theorem dX1_about_180 : decode cX1_about 180 = .ok (.iload 4, 2) := by decide +kernel
theorem dX1_about_182 : decode cX1_about 182 = .ok (.aload_n 0, 1) := by decide +kernel
theorem dX1_about_183 : decode cX1_about 183 = .ok (.getfield 13, 3) := by decide +kernel
theorem dX1_about_186 : decode cX1_about 186 = .ok (.if_icmp .ge 63, 3) := by decide +kernel
theorem dX1_about_189 : decode cX1_about 189 = .ok (.iconst 0, 1) := by decide +kernel
theorem dX1_about_190 : decode cX1_about 190 = .ok (.istore 5, 2) := by decide +kernel
theorem dX1_about_192 : decode cX1_about 192 = .ok (.iconst 0, 1) := by decide +kernel
theorem dX1_about_193 : decode cX1_about 193 = .ok (.istore 6, 2) := by decide +kernel
theorem dX1_about_195 : decode cX1_about 195 = .ok (.iload 6, 2) := by decide +kernel
theorem dX1_about_197 : decode cX1_about 197 = .ok (.aload_n 0, 1) := by decide +kernel
theorem dX1_about_198 : decode cX1_about 198 = .ok (.getfield 7, 3) := by decide +kernel
theorem dX1_about_201 : decode cX1_about 201 = .ok (.if_icmp .ge 34, 3) := by decide +kernel
theorem dX1_about_204 : decode cX1_about 204 = .ok (.iload 5, 2) := by decide +kernel
theorem dX1_about_206 : decode cX1_about 206 = .ok (.aload_n 0, 1) := by decide +kernel
theorem dX1_about_207 : decode cX1_about 207 = .ok (.aload_n 0, 1) := by decide +kernel
theorem dX1_about_208 : decode cX1_about 208 = .ok (.getfield 20, 3) := by decide +kernel
theorem dX1_about_211 : decode cX1_about 211 = .ok (.iload 6, 2) := by decide +kernel
theorem dX1_about_213 : decode cX1_about 213 = .ok (.invokevirtual 58, 3) := by decide +kernel
theorem dX1_about_216 : decode cX1_about 216 = .ok (.iload 4, 2) := by decide +kernel
theorem dX1_about_218 : decode cX1_about 218 = .ok (.if_icmp .ne 7, 3) := by decide +kernel
theorem dX1_about_221 : decode cX1_about 221 = .ok (.iconst 1, 1) := by decide +kernel
theorem dX1_about_222 : decode cX1_about 222 = .ok (.goto 4, 3) := by decide +kernel
theorem dX1_about_225 : decode cX1_about 225 = .ok (.iconst 0, 1) := by decide +kernel
theorem dX1_about_226 : decode cX1_about 226 = .ok (.ior, 1) := by decide +kernel
theorem dX1_about_227 : decode cX1_about 227 = .ok (.istore 5, 2) := by decide +kernel
theorem dX1_about_229 : decode cX1_about 229 = .ok (.iinc 6 1, 3) := by decide +kernel
theorem dX1_about_232 : decode cX1_about 232 = .ok (.goto (-37), 3) := by decide +kernel
theorem dX1_about_235 : decode cX1_about 235 = .ok (.iload 5, 2) := by decide +kernel
theorem dX1_about_237 : decode cX1_about 237 = .ok (.ifCond .eq 6, 3) := by decide +kernel
theorem dX1_about_240 : decode cX1_about 240 = .ok (.iinc 3 1, 3) := by decide +kernel
theorem dX1_about_243 : decode cX1_about 243 = .ok (.iinc 4 1, 3) := by decide +kernel
theorem dX1_about_246 : decode cX1_about 246 = .ok (.goto (-66), 3) := by decide +kernel
theorem dX1_about_249 : decode cX1_about 249 = .ok (.iload_n 3, 1) := by decide +kernel
theorem dX1_about_250 : decode cX1_about 250 = .ok (.ireturn, 1) := by decide +kernel
theorem dX1_about_251 : decode cX1_about 251 = .ok (.aload_n 0, 1) := by decide +kernel
theorem dX1_about_252 : decode cX1_about 252 = .ok (.getfield 7, 3) := by decide +kernel
theorem dX1_about_255 : decode cX1_about 255 = .ok (.iconst 1, 1) := by decide +kernel
theorem dX1_about_256 : decode cX1_about 256 = .ok (.isub, 1) := by decide +kernel
theorem dX1_about_257 : decode cX1_about 257 = .ok (.istore_n 3, 1) := by decide +kernel
theorem dX1_about_258 : decode cX1_about 258 = .ok (.iload_n 3, 1) := by decide +kernel
theorem dX1_about_259 : decode cX1_about 259 = .ok (.ifCond .lt 18, 3) := by decide +kernel
theorem dX1_about_262 : decode cX1_about 262 = .ok (.aload_n 0, 1) := by decide +kernel
theorem dX1_about_263 : decode cX1_about 263 = .ok (.getfield 20, 3) := by decide +kernel
theorem dX1_about_266 : decode cX1_about 266 = .ok (.iload_n 3, 1) := by decide +kernel
theorem dX1_about_267 : decode cX1_about 267 = .ok (.iaload, 1) := by decide +kernel
theorem dX1_about_268 : decode cX1_about 268 = .ok (.ifCond .ne 9, 3) := by decide +kernel
theorem dX1_about_271 : decode cX1_about 271 = .ok (.iinc 3 (-1), 3) := by decide +kernel
theorem dX1_about_274 : decode cX1_about 274 = .ok (.goto (-16), 3) := by decide +kernel
theorem dX1_about_277 : decode cX1_about 277 = .ok (.iload_n 3, 1) := by decide +kernel
theorem dX1_about_278 : decode cX1_about 278 = .ok (.ireturn, 1) := by decide +kernel
theorem dX1_about_279 : decode cX1_about 279 = .ok (.iconst 1, 1) := by decide +kernel
theorem dX1_about_280 : decode cX1_about 280 = .ok (.istore 4, 2) := by decide +kernel
theorem dX1_about_282 : decode cX1_about 282 = .ok (.iconst 0, 1) := by decide +kernel
theorem dX1_about_283 : decode cX1_about 283 = .ok (.istore 5, 2) := by decide +kernel
theorem dX1_about_285 : decode cX1_about 285 = .ok (.iload 5, 2) := by decide +kernel
theorem dX1_about_287 : decode cX1_about 287 = .ok (.ifCond .ne 76, 3) := by decide +kernel
theorem dX1_about_290 : decode cX1_about 290 = .ok (.iinc 3 1, 3) := by decide +kernel
theorem dX1_about_293 : decode cX1_about 293 = .ok (.iconst 3, 1) := by decide +kernel
theorem dX1_about_294 : decode cX1_about 294 = .ok (.iload 4, 2) := by decide +kernel
theorem dX1_about_296 : decode cX1_about 296 = .ok (.imul, 1) := by decide +kernel
theorem dX1_about_297 : decode cX1_about 297 = .ok (.iconst 2, 1) := by decide +kernel
theorem dX1_about_298 : decode cX1_about 298 = .ok (.aload_n 0, 1) := by decide +kernel
theorem dX1_about_299 : decode cX1_about 299 = .ok (.getfield 7, 3) := by decide +kernel
theorem dX1_about_302 : decode cX1_about 302 = .ok (.imul, 1) := by decide +kernel
theorem dX1_about_303 : decode cX1_about 303 = .ok (.irem, 1) := by decide +kernel
theorem dX1_about_304 : decode cX1_about 304 = .ok (.istore 4, 2) := by decide +kernel
theorem dX1_about_306 : decode cX1_about 306 = .ok (.aload_n 0, 1) := by decide +kernel
theorem dX1_about_307 : decode cX1_about 307 = .ok (.iload 4, 2) := by decide +kernel
theorem dX1_about_309 : decode cX1_about 309 = .ok (.invokevirtual 96, 3) := by decide +kernel
theorem dX1_about_312 : decode cX1_about 312 = .ok (.iconst 1, 1) := by decide +kernel
theorem dX1_about_313 : decode cX1_about 313 = .ok (.istore 5, 2) := by decide +kernel
theorem dX1_about_315 : decode cX1_about 315 = .ok (.iconst 0, 1) := by decide +kernel
theorem dX1_about_316 : decode cX1_about 316 = .ok (.istore 6, 2) := by decide +kernel
theorem dX1_about_318 : decode cX1_about 318 = .ok (.iload 6, 2) := by decide +kernel
theorem dX1_about_320 : decode cX1_about 320 = .ok (.aload_n 0, 1) := by decide +kernel
theorem dX1_about_321 : decode cX1_about 321 = .ok (.getfield 7, 3) := by decide +kernel
theorem dX1_about_324 : decode cX1_about 324 = .ok (.if_icmp .ge 36, 3) := by decide +kernel
theorem dX1_about_327 : decode cX1_about 327 = .ok (.iload 5, 2) := by decide +kernel
theorem dX1_about_329 : decode cX1_about 329 = .ok (.aload_n 0, 1) := by decide +kernel
theorem dX1_about_330 : decode cX1_about 330 = .ok (.getfield 20, 3) := by decide +kernel
theorem dX1_about_333 : decode cX1_about 333 = .ok (.iload 6, 2) := by decide +kernel
theorem dX1_about_335 : decode cX1_about 335 = .ok (.iaload, 1) := by decide +kernel
theorem dX1_about_336 : decode cX1_about 336 = .ok (.aload_n 0, 1) := by decide +kernel
theorem dX1_about_337 : decode cX1_about 337 = .ok (.getfield 23, 3) := by decide +kernel
theorem dX1_about_340 : decode cX1_about 340 = .ok (.iload 6, 2) := by decide +kernel
theorem dX1_about_342 : decode cX1_about 342 = .ok (.iaload, 1) := by decide +kernel
theorem dX1_about_343 : decode cX1_about 343 = .ok (.if_icmp .ne 7, 3) := by decide +kernel
theorem dX1_about_346 : decode cX1_about 346 = .ok (.iconst 1, 1) := by decide +kernel
theorem dX1_about_347 : decode cX1_about 347 = .ok (.goto 4, 3) := by decide +kernel
theorem dX1_about_350 : decode cX1_about 350 = .ok (.iconst 0, 1) := by decide +kernel
theorem dX1_about_351 : decode cX1_about 351 = .ok (.iand, 1) := by decide +kernel
theorem dX1_about_352 : decode cX1_about 352 = .ok (.istore 5, 2) := by decide +kernel
theorem dX1_about_354 : decode cX1_about 354 = .ok (.iinc 6 1, 3) := by decide +kernel
theorem dX1_about_357 : decode cX1_about 357 = .ok (.goto (-39), 3) := by decide +kernel
theorem dX1_about_360 : decode cX1_about 360 = .ok (.goto (-75), 3) := by decide +kernel
theorem dX1_about_363 : decode cX1_about 363 = .ok (.iload_n 3, 1) := by decide +kernel
theorem dX1_about_364 : decode cX1_about 364 = .ok (.ireturn, 1) := by decide +kernel
theorem dX1_same_0 : decode cX1_same 0 = .ok (.aload_n 0, 1) := by decide +kernel
theorem dX1_same_1 : decode cX1_same 1 = .ok (.iload_n 1, 1) := by decide +kernel
theorem dX1_same_2 : decode cX1_same 2 = .ok (.invokestatic 46, 3) := by decide +kernel
theorem dX1_same_5 : decode cX1_same 5 = .ok (.ifCond .ne 10, 3) := by decide +kernel
theorem dX1_same_8 : decode cX1_same 8 = .ok (.iload_n 2, 1) := by decide +kernel
theorem dX1_same_9 : decode cX1_same 9 = .ok (.invokestatic 46, 3) := by decide +kernel
theorem dX1_same_12 : decode cX1_same 12 = .ok (.ifCond .eq 7, 3) := by decide +kernel
theorem dX1_same_15 : decode cX1_same 15 = .ok (.iconst 1, 1) := by decide +kernel
theorem dX1_same_16 : decode cX1_same 16 = .ok (.goto 4, 3) := by decide +kernel
theorem dX1_same_19 : decode cX1_same 19 = .ok (.iconst 0, 1) := by decide +kernel
theorem dX1_same_20 : decode cX1_same 20 = .ok (.putfield 32, 3) := by decide +kernel
theorem dX1_same_23 : decode cX1_same 23 = .ok (.aload_n 0, 1) := by decide +kernel
theorem dX1_same_24 : decode cX1_same 24 = .ok (.getfield 32, 3) := by decide +kernel
theorem dX1_same_27 : decode cX1_same 27 = .ok (.ifCond .le 5, 3) := by decide +kernel
theorem dX1_same_30 : decode cX1_same 30 = .ok (.iconst 0, 1) := by decide +kernel
theorem dX1_same_31 : decode cX1_same 31 = .ok (.ireturn, 1) := by decide +kernel
theorem dX1_same_32 : decode cX1_same 32 = .ok (.iconst 0, 1) := by decide +kernel
theorem dX1_same_33 : decode cX1_same 33 = .ok (.istore_n 3, 1) := by decide +kernel
theorem dX1_same_34 : decode cX1_same 34 = .ok (.iload_n 3, 1) := by decide +kernel
theorem dX1_same_35 : decode cX1_same 35 = .ok (.aload_n 0, 1) := by decide +kernel
theorem dX1_same_36 : decode cX1_same 36 = .ok (.getfield 7, 3) := by decide +kernel
theorem dX1_same_39 : decode cX1_same 39 = .ok (.if_icmp .ge 36, 3) := by decide +kernel
theorem dX1_same_42 : decode cX1_same 42 = .ok (.aload_n 0, 1) := by decide +kernel
theorem dX1_same_43 : decode cX1_same 43 = .ok (.getfield 16, 3) := by decide +kernel
theorem dX1_same_46 : decode cX1_same 46 = .ok (.bipush 32, 2) := by decide +kernel
theorem dX1_same_48 : decode cX1_same 48 = .ok (.iload_n 1, 1) := by decide +kernel
theorem dX1_same_49 : decode cX1_same 49 = .ok (.imul, 1) := by decide +kernel
theorem dX1_same_50 : decode cX1_same 50 = .ok (.iload_n 3, 1) := by decide +kernel
theorem dX1_same_51 : decode cX1_same 51 = .ok (.iadd, 1) := by decide +kernel
theorem dX1_same_52 : decode cX1_same 52 = .ok (.iaload, 1) := by decide +kernel
theorem dX1_same_53 : decode cX1_same 53 = .ok (.aload_n 0, 1) := by decide +kernel
theorem dX1_same_54 : decode cX1_same 54 = .ok (.getfield 16, 3) := by decide +kernel
theorem dX1_same_57 : decode cX1_same 57 = .ok (.bipush 32, 2) := by decide +kernel
theorem dX1_same_59 : decode cX1_same 59 = .ok (.iload_n 2, 1) := by decide +kernel
theorem dX1_same_60 : decode cX1_same 60 = .ok (.imul, 1) := by decide +kernel
theorem dX1_same_61 : decode cX1_same 61 = .ok (.iload_n 3, 1) := by decide +kernel
theorem dX1_same_62 : decode cX1_same 62 = .ok (.iadd, 1) := by decide +kernel
theorem dX1_same_63 : decode cX1_same 63 = .ok (.iaload, 1) := by decide +kernel
theorem dX1_same_64 : decode cX1_same 64 = .ok (.if_icmp .eq 5, 3) := by decide +kernel
theorem dX1_same_67 : decode cX1_same 67 = .ok (.iconst 0, 1) := by decide +kernel
theorem dX1_same_68 : decode cX1_same 68 = .ok (.ireturn, 1) := by decide +kernel
theorem dX1_same_69 : decode cX1_same 69 = .ok (.iinc 3 1, 3) := by decide +kernel
theorem dX1_same_72 : decode cX1_same 72 = .ok (.goto (-38), 3) := by decide +kernel
theorem dX1_same_75 : decode cX1_same 75 = .ok (.iconst 1, 1) := by decide +kernel
theorem dX1_same_76 : decode cX1_same 76 = .ok (.ireturn, 1) := by decide +kernel
theorem dX1_divides_0 : decode cX1_divides 0 = .ok (.aload_n 0, 1) := by decide +kernel
theorem dX1_divides_1 : decode cX1_divides 1 = .ok (.iload_n 1, 1) := by decide +kernel
theorem dX1_divides_2 : decode cX1_divides 2 = .ok (.invokestatic 46, 3) := by decide +kernel
theorem dX1_divides_5 : decode cX1_divides 5 = .ok (.ifCond .ne 10, 3) := by decide +kernel
theorem dX1_divides_8 : decode cX1_divides 8 = .ok (.iload_n 2, 1) := by decide +kernel
theorem dX1_divides_9 : decode cX1_divides 9 = .ok (.invokestatic 46, 3) := by decide +kernel
theorem dX1_divides_12 : decode cX1_divides 12 = .ok (.ifCond .eq 7, 3) := by decide +kernel
theorem dX1_divides_15 : decode cX1_divides 15 = .ok (.iconst 1, 1) := by decide +kernel
theorem dX1_divides_16 : decode cX1_divides 16 = .ok (.goto 4, 3) := by decide +kernel
theorem dX1_divides_19 : decode cX1_divides 19 = .ok (.iconst 0, 1) := by decide +kernel
theorem dX1_divides_20 : decode cX1_divides 20 = .ok (.putfield 32, 3) := by decide +kernel
theorem dX1_divides_23 : decode cX1_divides 23 = .ok (.aload_n 0, 1) := by decide +kernel
theorem dX1_divides_24 : decode cX1_divides 24 = .ok (.getfield 32, 3) := by decide +kernel
theorem dX1_divides_27 : decode cX1_divides 27 = .ok (.ifCond .le 5, 3) := by decide +kernel
theorem dX1_divides_30 : decode cX1_divides 30 = .ok (.iconst 0, 1) := by decide +kernel
theorem dX1_divides_31 : decode cX1_divides 31 = .ok (.ireturn, 1) := by decide +kernel
theorem dX1_divides_32 : decode cX1_divides 32 = .ok (.aload_n 0, 1) := by decide +kernel
theorem dX1_divides_33 : decode cX1_divides 33 = .ok (.iload_n 1, 1) := by decide +kernel
theorem dX1_divides_34 : decode cX1_divides 34 = .ok (.aload_n 0, 1) := by decide +kernel
theorem dX1_divides_35 : decode cX1_divides 35 = .ok (.getfield 20, 3) := by decide +kernel
theorem dX1_divides_38 : decode cX1_divides 38 = .ok (.invokevirtual 62, 3) := by decide +kernel
theorem dX1_divides_41 : decode cX1_divides 41 = .ok (.aload_n 0, 1) := by decide +kernel
theorem dX1_divides_42 : decode cX1_divides 42 = .ok (.iload_n 2, 1) := by decide +kernel
theorem dX1_divides_43 : decode cX1_divides 43 = .ok (.aload_n 0, 1) := by decide +kernel
theorem dX1_divides_44 : decode cX1_divides 44 = .ok (.getfield 23, 3) := by decide +kernel
theorem dX1_divides_47 : decode cX1_divides 47 = .ok (.invokevirtual 62, 3) := by decide +kernel
theorem dX1_divides_50 : decode cX1_divides 50 = .ok (.iconst 0, 1) := by decide +kernel
theorem dX1_divides_51 : decode cX1_divides 51 = .ok (.istore_n 3, 1) := by decide +kernel
theorem dX1_divides_52 : decode cX1_divides 52 = .ok (.iload_n 3, 1) := by decide +kernel
theorem dX1_divides_53 : decode cX1_divides 53 = .ok (.aload_n 0, 1) := by decide +kernel
theorem dX1_divides_54 : decode cX1_divides 54 = .ok (.getfield 7, 3) := by decide +kernel
theorem dX1_divides_57 : decode cX1_divides 57 = .ok (.if_icmp .ge 35, 3) := by decide +kernel
theorem dX1_divides_60 : decode cX1_divides 60 = .ok (.aload_n 0, 1) := by decide +kernel
theorem dX1_divides_61 : decode cX1_divides 61 = .ok (.aload_n 0, 1) := by decide +kernel
theorem dX1_divides_62 : decode cX1_divides 62 = .ok (.getfield 23, 3) := by decide +kernel
theorem dX1_divides_65 : decode cX1_divides 65 = .ok (.iload_n 3, 1) := by decide +kernel
theorem dX1_divides_66 : decode cX1_divides 66 = .ok (.invokevirtual 58, 3) := by decide +kernel
theorem dX1_divides_69 : decode cX1_divides 69 = .ok (.ifCond .ne 17, 3) := by decide +kernel
theorem dX1_divides_72 : decode cX1_divides 72 = .ok (.aload_n 0, 1) := by decide +kernel
theorem dX1_divides_73 : decode cX1_divides 73 = .ok (.aload_n 0, 1) := by decide +kernel
theorem dX1_divides_74 : decode cX1_divides 74 = .ok (.getfield 20, 3) := by decide +kernel
theorem dX1_divides_77 : decode cX1_divides 77 = .ok (.iload_n 3, 1) := by decide +kernel
theorem dX1_divides_78 : decode cX1_divides 78 = .ok (.invokevirtual 58, 3) := by decide +kernel
theorem dX1_divides_81 : decode cX1_divides 81 = .ok (.ifCond .eq 5, 3) := by decide +kernel
theorem dX1_divides_84 : decode cX1_divides 84 = .ok (.iconst 0, 1) := by decide +kernel
theorem dX1_divides_85 : decode cX1_divides 85 = .ok (.ireturn, 1) := by decide +kernel
theorem dX1_divides_86 : decode cX1_divides 86 = .ok (.iinc 3 1, 3) := by decide +kernel
theorem dX1_divides_89 : decode cX1_divides 89 = .ok (.goto (-37), 3) := by decide +kernel
theorem dX1_divides_92 : decode cX1_divides 92 = .ok (.iconst 1, 1) := by decide +kernel
theorem dX1_divides_93 : decode cX1_divides 93 = .ok (.ireturn, 1) := by decide +kernel
theorem dX1_count_0 : decode cX1_count 0 = .ok (.aload_n 0, 1) := by decide +kernel
theorem dX1_count_1 : decode cX1_count 1 = .ok (.iconst 0, 1) := by decide +kernel
theorem dX1_count_2 : decode cX1_count 2 = .ok (.putfield 32, 3) := by decide +kernel
theorem dX1_count_5 : decode cX1_count 5 = .ok (.iload_n 1, 1) := by decide +kernel
theorem dX1_count_6 : decode cX1_count 6 = .ok (.tableswitch 95 0 4 #[34, 39, 44, 49, 54], 34) := by decide +kernel
theorem dX1_count_40 : decode cX1_count 40 = .ok (.aload_n 0, 1) := by decide +kernel
theorem dX1_count_41 : decode cX1_count 41 = .ok (.getfield 39, 3) := by decide +kernel
theorem dX1_count_44 : decode cX1_count 44 = .ok (.ireturn, 1) := by decide +kernel
theorem dX1_count_45 : decode cX1_count 45 = .ok (.aload_n 0, 1) := by decide +kernel
theorem dX1_count_46 : decode cX1_count 46 = .ok (.getfield 7, 3) := by decide +kernel
theorem dX1_count_49 : decode cX1_count 49 = .ok (.ireturn, 1) := by decide +kernel
theorem dX1_count_50 : decode cX1_count 50 = .ok (.aload_n 0, 1) := by decide +kernel
theorem dX1_count_51 : decode cX1_count 51 = .ok (.getfield 13, 3) := by decide +kernel
theorem dX1_count_54 : decode cX1_count 54 = .ok (.ireturn, 1) := by decide +kernel
theorem dX1_count_55 : decode cX1_count 55 = .ok (.aload_n 0, 1) := by decide +kernel
theorem dX1_count_56 : decode cX1_count 56 = .ok (.invokevirtual 42, 3) := by decide +kernel
theorem dX1_count_59 : decode cX1_count 59 = .ok (.ireturn, 1) := by decide +kernel
theorem dX1_count_60 : decode cX1_count 60 = .ok (.iconst 0, 1) := by decide +kernel
theorem dX1_count_61 : decode cX1_count 61 = .ok (.istore_n 2, 1) := by decide +kernel
theorem dX1_count_62 : decode cX1_count 62 = .ok (.iconst 0, 1) := by decide +kernel
theorem dX1_count_63 : decode cX1_count 63 = .ok (.istore_n 3, 1) := by decide +kernel
theorem dX1_count_64 : decode cX1_count 64 = .ok (.iload_n 3, 1) := by decide +kernel
theorem dX1_count_65 : decode cX1_count 65 = .ok (.bipush 16, 2) := by decide +kernel
theorem dX1_count_67 : decode cX1_count 67 = .ok (.if_icmp .ge 32, 3) := by decide +kernel
theorem dX1_count_70 : decode cX1_count 70 = .ok (.aload_n 0, 1) := by decide +kernel
theorem dX1_count_71 : decode cX1_count 71 = .ok (.iload_n 3, 1) := by decide +kernel
theorem dX1_count_72 : decode cX1_count 72 = .ok (.aload_n 0, 1) := by decide +kernel
theorem dX1_count_73 : decode cX1_count 73 = .ok (.getfield 20, 3) := by decide +kernel
theorem dX1_count_76 : decode cX1_count 76 = .ok (.invokevirtual 62, 3) := by decide +kernel
theorem dX1_count_79 : decode cX1_count 79 = .ok (.aload_n 0, 1) := by decide +kernel
theorem dX1_count_80 : decode cX1_count 80 = .ok (.aload_n 0, 1) := by decide +kernel
theorem dX1_count_81 : decode cX1_count 81 = .ok (.getfield 20, 3) := by decide +kernel
theorem dX1_count_84 : decode cX1_count 84 = .ok (.invokevirtual 77, 3) := by decide +kernel
theorem dX1_count_87 : decode cX1_count 87 = .ok (.ifCond .ne 6, 3) := by decide +kernel
theorem dX1_count_90 : decode cX1_count 90 = .ok (.iinc 2 1, 3) := by decide +kernel
theorem dX1_count_93 : decode cX1_count 93 = .ok (.iinc 3 1, 3) := by decide +kernel
theorem dX1_count_96 : decode cX1_count 96 = .ok (.goto (-32), 3) := by decide +kernel
theorem dX1_count_99 : decode cX1_count 99 = .ok (.iload_n 2, 1) := by decide +kernel
theorem dX1_count_100 : decode cX1_count 100 = .ok (.ireturn, 1) := by decide +kernel
theorem dX1_count_101 : decode cX1_count 101 = .ok (.iconst (-1), 1) := by decide +kernel
theorem dX1_count_102 : decode cX1_count 102 = .ok (.ireturn, 1) := by decide +kernel
