theorem dX1_init_0 : decode cX1_init 0 = .ok (.aload_n 0, 1) := by decide +kernel
theorem dX1_init_1 : decode cX1_init 1 = .ok (.invokespecial 1, 3) := by decide +kernel
theorem dX1_init_4 : decode cX1_init 4 = .ok (.aload_n 0, 1) := by decide +kernel
theorem dX1_init_5 : decode cX1_init 5 = .ok (.iconst 4, 1) := by decide +kernel
theorem dX1_init_6 : decode cX1_init 6 = .ok (.putfield 7, 3) := by decide +kernel
theorem dX1_init_9 : decode cX1_init 9 = .ok (.aload_n 0, 1) := by decide +kernel
theorem dX1_init_10 : decode cX1_init 10 = .ok (.bipush 17, 2) := by decide +kernel
theorem dX1_init_12 : decode cX1_init 12 = .ok (.putfield 13, 3) := by decide +kernel
theorem dX1_init_15 : decode cX1_init 15 = .ok (.aload_n 0, 1) := by decide +kernel
theorem dX1_init_16 : decode cX1_init 16 = .ok (.sipush 512, 3) := by decide +kernel
theorem dX1_init_19 : decode cX1_init 19 = .ok (.newarray .int, 2) := by decide +kernel
theorem dX1_init_21 : decode cX1_init 21 = .ok (.putfield 16, 3) := by decide +kernel
theorem dX1_init_24 : decode cX1_init 24 = .ok (.aload_n 0, 1) := by decide +kernel
theorem dX1_init_25 : decode cX1_init 25 = .ok (.bipush 32, 2) := by decide +kernel
theorem dX1_init_27 : decode cX1_init 27 = .ok (.newarray .int, 2) := by decide +kernel
theorem dX1_init_29 : decode cX1_init 29 = .ok (.putfield 20, 3) := by decide +kernel
theorem dX1_init_32 : decode cX1_init 32 = .ok (.aload_n 0, 1) := by decide +kernel
theorem dX1_init_33 : decode cX1_init 33 = .ok (.bipush 32, 2) := by decide +kernel
theorem dX1_init_35 : decode cX1_init 35 = .ok (.newarray .int, 2) := by decide +kernel
theorem dX1_init_37 : decode cX1_init 37 = .ok (.putfield 23, 3) := by decide +kernel
theorem dX1_init_40 : decode cX1_init 40 = .ok (.aload_n 0, 1) := by decide +kernel
theorem dX1_init_41 : decode cX1_init 41 = .ok (.bipush 32, 2) := by decide +kernel
theorem dX1_init_43 : decode cX1_init 43 = .ok (.newarray .int, 2) := by decide +kernel
theorem dX1_init_45 : decode cX1_init 45 = .ok (.putfield 26, 3) := by decide +kernel
theorem dX1_init_48 : decode cX1_init 48 = .ok (.aload_n 0, 1) := by decide +kernel
theorem dX1_init_49 : decode cX1_init 49 = .ok (.bipush 32, 2) := by decide +kernel
theorem dX1_init_51 : decode cX1_init 51 = .ok (.newarray .int, 2) := by decide +kernel
theorem dX1_init_53 : decode cX1_init 53 = .ok (.putfield 29, 3) := by decide +kernel
theorem dX1_init_56 : decode cX1_init 56 = .ok (.return_, 1) := by decide +kernel
theorem dX1_thrown_0 : decode cX1_thrown 0 = .ok (.aload_n 0, 1) := by decide +kernel
theorem dX1_thrown_1 : decode cX1_thrown 1 = .ok (.getfield 32, 3) := by decide +kernel
theorem dX1_thrown_4 : decode cX1_thrown 4 = .ok (.ireturn, 1) := by decide +kernel
theorem dX1_fail_0 : decode cX1_fail 0 = .ok (.aload_n 0, 1) := by decide +kernel
theorem dX1_fail_1 : decode cX1_fail 1 = .ok (.iload_n 1, 1) := by decide +kernel
theorem dX1_fail_2 : decode cX1_fail 2 = .ok (.putfield 32, 3) := by decide +kernel
theorem dX1_fail_5 : decode cX1_fail 5 = .ok (.iconst 0, 1) := by decide +kernel
theorem dX1_fail_6 : decode cX1_fail 6 = .ok (.ireturn, 1) := by decide +kernel
theorem dX1_none_0 : decode cX1_none 0 = .ok (.iload_n 0, 1) := by decide +kernel
theorem dX1_none_1 : decode cX1_none 1 = .ok (.ifCond .lt 9, 3) := by decide +kernel
theorem dX1_none_4 : decode cX1_none 4 = .ok (.iload_n 0, 1) := by decide +kernel
theorem dX1_none_5 : decode cX1_none 5 = .ok (.bipush 15, 2) := by decide +kernel
theorem dX1_none_7 : decode cX1_none 7 = .ok (.if_icmp .le 7, 3) := by decide +kernel
theorem dX1_none_10 : decode cX1_none 10 = .ok (.iconst 1, 1) := by decide +kernel
theorem dX1_none_11 : decode cX1_none 11 = .ok (.goto 4, 3) := by decide +kernel
theorem dX1_none_14 : decode cX1_none 14 = .ok (.iconst 0, 1) := by decide +kernel
theorem dX1_none_15 : decode cX1_none 15 = .ok (.ireturn, 1) := by decide +kernel
theorem dX1_of_0 : decode cX1_of 0 = .ok (.lload_n 1, 1) := by decide +kernel
theorem dX1_of_1 : decode cX1_of 1 = .ok (.aload_n 0, 1) := by decide +kernel
theorem dX1_of_2 : decode cX1_of 2 = .ok (.getfield 13, 3) := by decide +kernel
theorem dX1_of_5 : decode cX1_of 5 = .ok (.i2l, 1) := by decide +kernel
theorem dX1_of_6 : decode cX1_of 6 = .ok (.lrem, 1) := by decide +kernel
theorem dX1_of_7 : decode cX1_of 7 = .ok (.l2i, 1) := by decide +kernel
theorem dX1_of_8 : decode cX1_of 8 = .ok (.istore_n 3, 1) := by decide +kernel
theorem dX1_of_9 : decode cX1_of 9 = .ok (.iload_n 3, 1) := by decide +kernel
theorem dX1_of_10 : decode cX1_of 10 = .ok (.ifCond .ge 12, 3) := by decide +kernel
theorem dX1_of_13 : decode cX1_of 13 = .ok (.iload_n 3, 1) := by decide +kernel
theorem dX1_of_14 : decode cX1_of 14 = .ok (.aload_n 0, 1) := by decide +kernel
theorem dX1_of_15 : decode cX1_of 15 = .ok (.getfield 13, 3) := by decide +kernel
theorem dX1_of_18 : decode cX1_of 18 = .ok (.iadd, 1) := by decide +kernel
theorem dX1_of_19 : decode cX1_of 19 = .ok (.goto 4, 3) := by decide +kernel
theorem dX1_of_22 : decode cX1_of 22 = .ok (.iload_n 3, 1) := by decide +kernel
theorem dX1_of_23 : decode cX1_of 23 = .ok (.ireturn, 1) := by decide +kernel
theorem dX1_least_0 : decode cX1_least 0 = .ok (.iconst 2, 1) := by decide +kernel
theorem dX1_least_1 : decode cX1_least 1 = .ok (.istore_n 1, 1) := by decide +kernel
theorem dX1_least_2 : decode cX1_least 2 = .ok (.aload_n 0, 1) := by decide +kernel
theorem dX1_least_3 : decode cX1_least 3 = .ok (.iload_n 1, 1) := by decide +kernel
theorem dX1_least_4 : decode cX1_least 4 = .ok (.aload_n 0, 1) := by decide +kernel
theorem dX1_least_5 : decode cX1_least 5 = .ok (.getfield 7, 3) := by decide +kernel
theorem dX1_least_8 : decode cX1_least 8 = .ok (.invokevirtual 35, 3) := by decide +kernel
theorem dX1_least_11 : decode cX1_least 11 = .ok (.aload_n 0, 1) := by decide +kernel
theorem dX1_least_12 : decode cX1_least 12 = .ok (.getfield 13, 3) := by decide +kernel
theorem dX1_least_15 : decode cX1_least 15 = .ok (.iconst 1, 1) := by decide +kernel
theorem dX1_least_16 : decode cX1_least 16 = .ok (.isub, 1) := by decide +kernel
theorem dX1_least_17 : decode cX1_least 17 = .ok (.if_icmp .eq 9, 3) := by decide +kernel
theorem dX1_least_20 : decode cX1_least 20 = .ok (.iinc 1 1, 3) := by decide +kernel
theorem dX1_least_23 : decode cX1_least 23 = .ok (.goto (-21), 3) := by decide +kernel
theorem dX1_least_26 : decode cX1_least 26 = .ok (.iload_n 1, 1) := by decide +kernel
theorem dX1_least_27 : decode cX1_least 27 = .ok (.ireturn, 1) := by decide +kernel
theorem dX1_raised_0 : decode cX1_raised 0 = .ok (.iconst 1, 1) := by decide +kernel
theorem dX1_raised_1 : decode cX1_raised 1 = .ok (.istore_n 3, 1) := by decide +kernel
theorem dX1_raised_2 : decode cX1_raised 2 = .ok (.iconst 0, 1) := by decide +kernel
theorem dX1_raised_3 : decode cX1_raised 3 = .ok (.istore 4, 2) := by decide +kernel
theorem dX1_raised_5 : decode cX1_raised 5 = .ok (.iload 4, 2) := by decide +kernel
theorem dX1_raised_7 : decode cX1_raised 7 = .ok (.iload_n 2, 1) := by decide +kernel
theorem dX1_raised_8 : decode cX1_raised 8 = .ok (.if_icmp .ge 18, 3) := by decide +kernel
theorem dX1_raised_11 : decode cX1_raised 11 = .ok (.iload_n 3, 1) := by decide +kernel
theorem dX1_raised_12 : decode cX1_raised 12 = .ok (.iload_n 1, 1) := by decide +kernel
theorem dX1_raised_13 : decode cX1_raised 13 = .ok (.imul, 1) := by decide +kernel
theorem dX1_raised_14 : decode cX1_raised 14 = .ok (.aload_n 0, 1) := by decide +kernel
theorem dX1_raised_15 : decode cX1_raised 15 = .ok (.getfield 13, 3) := by decide +kernel
theorem dX1_raised_18 : decode cX1_raised 18 = .ok (.irem, 1) := by decide +kernel
theorem dX1_raised_19 : decode cX1_raised 19 = .ok (.istore_n 3, 1) := by decide +kernel
theorem dX1_raised_20 : decode cX1_raised 20 = .ok (.iinc 4 1, 3) := by decide +kernel
theorem dX1_raised_23 : decode cX1_raised 23 = .ok (.goto (-18), 3) := by decide +kernel
theorem dX1_raised_26 : decode cX1_raised 26 = .ok (.iload_n 3, 1) := by decide +kernel
theorem dX1_raised_27 : decode cX1_raised 27 = .ok (.ireturn, 1) := by decide +kernel
theorem dX1_begin_0 : decode cX1_begin 0 = .ok (.aload_n 0, 1) := by decide +kernel
theorem dX1_begin_1 : decode cX1_begin 1 = .ok (.iload_n 1, 1) := by decide +kernel
theorem dX1_begin_2 : decode cX1_begin 2 = .ok (.ifCond .lt 8, 3) := by decide +kernel
theorem dX1_begin_5 : decode cX1_begin 5 = .ok (.iload_n 1, 1) := by decide +kernel
theorem dX1_begin_6 : decode cX1_begin 6 = .ok (.iconst 3, 1) := by decide +kernel
theorem dX1_begin_7 : decode cX1_begin 7 = .ok (.if_icmp .le 7, 3) := by decide +kernel
theorem dX1_begin_10 : decode cX1_begin 10 = .ok (.iconst 1, 1) := by decide +kernel
theorem dX1_begin_11 : decode cX1_begin 11 = .ok (.goto 4, 3) := by decide +kernel
theorem dX1_begin_14 : decode cX1_begin 14 = .ok (.iconst 0, 1) := by decide +kernel
theorem dX1_begin_15 : decode cX1_begin 15 = .ok (.putfield 32, 3) := by decide +kernel
theorem dX1_begin_18 : decode cX1_begin 18 = .ok (.aload_n 0, 1) := by decide +kernel
theorem dX1_begin_19 : decode cX1_begin 19 = .ok (.getfield 32, 3) := by decide +kernel
theorem dX1_begin_22 : decode cX1_begin 22 = .ok (.ifCond .le 5, 3) := by decide +kernel
theorem dX1_begin_25 : decode cX1_begin 25 = .ok (.iconst 0, 1) := by decide +kernel
theorem dX1_begin_26 : decode cX1_begin 26 = .ok (.ireturn, 1) := by decide +kernel
theorem dX1_begin_27 : decode cX1_begin 27 = .ok (.aload_n 0, 1) := by decide +kernel
theorem dX1_begin_28 : decode cX1_begin 28 = .ok (.iload_n 1, 1) := by decide +kernel
theorem dX1_begin_29 : decode cX1_begin 29 = .ok (.putfield 39, 3) := by decide +kernel
theorem dX1_begin_32 : decode cX1_begin 32 = .ok (.aload_n 0, 1) := by decide +kernel
theorem dX1_begin_33 : decode cX1_begin 33 = .ok (.iconst 4, 1) := by decide +kernel
theorem dX1_begin_34 : decode cX1_begin 34 = .ok (.iload_n 1, 1) := by decide +kernel
theorem dX1_begin_35 : decode cX1_begin 35 = .ok (.ishl, 1) := by decide +kernel
theorem dX1_begin_36 : decode cX1_begin 36 = .ok (.putfield 7, 3) := by decide +kernel
theorem dX1_begin_39 : decode cX1_begin 39 = .ok (.aload_n 0, 1) := by decide +kernel
theorem dX1_begin_40 : decode cX1_begin 40 = .ok (.iload_n 1, 1) := by decide +kernel
theorem dX1_begin_41 : decode cX1_begin 41 = .ok (.iconst 2, 1) := by decide +kernel
theorem dX1_begin_42 : decode cX1_begin 42 = .ok (.if_icmp .ge 8, 3) := by decide +kernel
theorem dX1_begin_45 : decode cX1_begin 45 = .ok (.bipush 17, 2) := by decide +kernel
theorem dX1_begin_47 : decode cX1_begin 47 = .ok (.goto 16, 3) := by decide +kernel
theorem dX1_begin_50 : decode cX1_begin 50 = .ok (.iload_n 1, 1) := by decide +kernel
theorem dX1_begin_51 : decode cX1_begin 51 = .ok (.iconst 2, 1) := by decide +kernel
theorem dX1_begin_52 : decode cX1_begin 52 = .ok (.if_icmp .ne 8, 3) := by decide +kernel
theorem dX1_begin_55 : decode cX1_begin 55 = .ok (.bipush 97, 2) := by decide +kernel
theorem dX1_begin_57 : decode cX1_begin 57 = .ok (.goto 6, 3) := by decide +kernel
theorem dX1_begin_60 : decode cX1_begin 60 = .ok (.sipush 193, 3) := by decide +kernel
theorem dX1_begin_63 : decode cX1_begin 63 = .ok (.putfield 13, 3) := by decide +kernel
theorem dX1_begin_66 : decode cX1_begin 66 = .ok (.iconst 0, 1) := by decide +kernel
theorem dX1_begin_67 : decode cX1_begin 67 = .ok (.istore_n 2, 1) := by decide +kernel
theorem dX1_begin_68 : decode cX1_begin 68 = .ok (.iload_n 2, 1) := by decide +kernel
theorem dX1_begin_69 : decode cX1_begin 69 = .ok (.aload_n 0, 1) := by decide +kernel
theorem dX1_begin_70 : decode cX1_begin 70 = .ok (.getfield 16, 3) := by decide +kernel
theorem dX1_begin_73 : decode cX1_begin 73 = .ok (.arraylength, 1) := by decide +kernel
theorem dX1_begin_74 : decode cX1_begin 74 = .ok (.if_icmp .ge 16, 3) := by decide +kernel
theorem dX1_begin_77 : decode cX1_begin 77 = .ok (.aload_n 0, 1) := by decide +kernel
theorem dX1_begin_78 : decode cX1_begin 78 = .ok (.getfield 16, 3) := by decide +kernel
theorem dX1_begin_81 : decode cX1_begin 81 = .ok (.iload_n 2, 1) := by decide +kernel
theorem dX1_begin_82 : decode cX1_begin 82 = .ok (.iconst 0, 1) := by decide +kernel
theorem dX1_begin_83 : decode cX1_begin 83 = .ok (.iastore, 1) := by decide +kernel
theorem dX1_begin_84 : decode cX1_begin 84 = .ok (.iinc 2 1, 3) := by decide +kernel
theorem dX1_begin_87 : decode cX1_begin 87 = .ok (.goto (-19), 3) := by decide +kernel
theorem dX1_begin_90 : decode cX1_begin 90 = .ok (.aload_n 0, 1) := by decide +kernel
theorem dX1_begin_91 : decode cX1_begin 91 = .ok (.invokevirtual 42, 3) := by decide +kernel
theorem dX1_begin_94 : decode cX1_begin 94 = .ok (.ireturn, 1) := by decide +kernel
theorem dX1_no_0 : decode cX1_no 0 = .ok (.aload_n 0, 1) := by decide +kernel
theorem dX1_no_1 : decode cX1_no 1 = .ok (.iload_n 1, 1) := by decide +kernel
theorem dX1_no_2 : decode cX1_no 2 = .ok (.invokestatic 46, 3) := by decide +kernel
theorem dX1_no_5 : decode cX1_no 5 = .ok (.ifCond .ne 15, 3) := by decide +kernel
theorem dX1_no_8 : decode cX1_no 8 = .ok (.iload_n 2, 1) := by decide +kernel
theorem dX1_no_9 : decode cX1_no 9 = .ok (.ifCond .lt 11, 3) := by decide +kernel
theorem dX1_no_12 : decode cX1_no 12 = .ok (.iload_n 2, 1) := by decide +kernel
theorem dX1_no_13 : decode cX1_no 13 = .ok (.aload_n 0, 1) := by decide +kernel
theorem dX1_no_14 : decode cX1_no 14 = .ok (.getfield 7, 3) := by decide +kernel
theorem dX1_no_17 : decode cX1_no 17 = .ok (.if_icmp .lt 7, 3) := by decide +kernel
theorem dX1_no_20 : decode cX1_no 20 = .ok (.iconst 1, 1) := by decide +kernel
theorem dX1_no_21 : decode cX1_no 21 = .ok (.goto 4, 3) := by decide +kernel
theorem dX1_no_24 : decode cX1_no 24 = .ok (.iconst 0, 1) := by decide +kernel
theorem dX1_no_25 : decode cX1_no 25 = .ok (.putfield 32, 3) := by decide +kernel
theorem dX1_no_28 : decode cX1_no 28 = .ok (.aload_n 0, 1) := by decide +kernel
theorem dX1_no_29 : decode cX1_no 29 = .ok (.getfield 32, 3) := by decide +kernel
theorem dX1_no_32 : decode cX1_no 32 = .ok (.ifCond .le 7, 3) := by decide +kernel
theorem dX1_no_35 : decode cX1_no 35 = .ok (.iconst 1, 1) := by decide +kernel
theorem dX1_no_36 : decode cX1_no 36 = .ok (.goto 4, 3) := by decide +kernel
theorem dX1_no_39 : decode cX1_no 39 = .ok (.iconst 0, 1) := by decide +kernel
theorem dX1_no_40 : decode cX1_no 40 = .ok (.ireturn, 1) := by decide +kernel
theorem dX1_set_0 : decode cX1_set 0 = .ok (.aload_n 0, 1) := by decide +kernel
theorem dX1_set_1 : decode cX1_set 1 = .ok (.iload_n 1, 1) := by decide +kernel
theorem dX1_set_2 : decode cX1_set 2 = .ok (.iload_n 2, 1) := by decide +kernel
theorem dX1_set_3 : decode cX1_set 3 = .ok (.invokevirtual 50, 3) := by decide +kernel
theorem dX1_set_6 : decode cX1_set 6 = .ok (.ifCond .eq 5, 3) := by decide +kernel
theorem dX1_set_9 : decode cX1_set 9 = .ok (.iconst 0, 1) := by decide +kernel
theorem dX1_set_10 : decode cX1_set 10 = .ok (.ireturn, 1) := by decide +kernel
theorem dX1_set_11 : decode cX1_set 11 = .ok (.aload_n 0, 1) := by decide +kernel
theorem dX1_set_12 : decode cX1_set 12 = .ok (.getfield 16, 3) := by decide +kernel
theorem dX1_set_15 : decode cX1_set 15 = .ok (.bipush 32, 2) := by decide +kernel
theorem dX1_set_17 : decode cX1_set 17 = .ok (.iload_n 1, 1) := by decide +kernel
theorem dX1_set_18 : decode cX1_set 18 = .ok (.imul, 1) := by decide +kernel
theorem dX1_set_19 : decode cX1_set 19 = .ok (.iload_n 2, 1) := by decide +kernel
theorem dX1_set_20 : decode cX1_set 20 = .ok (.iadd, 1) := by decide +kernel
theorem dX1_set_21 : decode cX1_set 21 = .ok (.iaload, 1) := by decide +kernel
theorem dX1_set_22 : decode cX1_set 22 = .ok (.istore 4, 2) := by decide +kernel
theorem dX1_set_24 : decode cX1_set 24 = .ok (.aload_n 0, 1) := by decide +kernel
theorem dX1_set_25 : decode cX1_set 25 = .ok (.getfield 16, 3) := by decide +kernel
theorem dX1_set_28 : decode cX1_set 28 = .ok (.bipush 32, 2) := by decide +kernel
theorem dX1_set_30 : decode cX1_set 30 = .ok (.iload_n 1, 1) := by decide +kernel
theorem dX1_set_31 : decode cX1_set 31 = .ok (.imul, 1) := by decide +kernel
theorem dX1_set_32 : decode cX1_set 32 = .ok (.iload_n 2, 1) := by decide +kernel
theorem dX1_set_33 : decode cX1_set 33 = .ok (.iadd, 1) := by decide +kernel
theorem dX1_set_34 : decode cX1_set 34 = .ok (.aload_n 0, 1) := by decide +kernel
theorem dX1_set_35 : decode cX1_set 35 = .ok (.iload_n 3, 1) := by decide +kernel
theorem dX1_set_36 : decode cX1_set 36 = .ok (.i2l, 1) := by decide +kernel
theorem dX1_set_37 : decode cX1_set 37 = .ok (.invokevirtual 54, 3) := by decide +kernel
theorem dX1_set_40 : decode cX1_set 40 = .ok (.iastore, 1) := by decide +kernel
theorem dX1_set_41 : decode cX1_set 41 = .ok (.iload 4, 2) := by decide +kernel
theorem dX1_set_43 : decode cX1_set 43 = .ok (.ireturn, 1) := by decide +kernel
theorem dX1_get_0 : decode cX1_get 0 = .ok (.aload_n 0, 1) := by decide +kernel
theorem dX1_get_1 : decode cX1_get 1 = .ok (.iload_n 1, 1) := by decide +kernel
theorem dX1_get_2 : decode cX1_get 2 = .ok (.iload_n 2, 1) := by decide +kernel
theorem dX1_get_3 : decode cX1_get 3 = .ok (.invokevirtual 50, 3) := by decide +kernel
theorem dX1_get_6 : decode cX1_get 6 = .ok (.ifCond .eq 7, 3) := by decide +kernel
theorem dX1_get_9 : decode cX1_get 9 = .ok (.iconst 0, 1) := by decide +kernel
theorem dX1_get_10 : decode cX1_get 10 = .ok (.goto 14, 3) := by decide +kernel
theorem dX1_get_13 : decode cX1_get 13 = .ok (.aload_n 0, 1) := by decide +kernel
theorem dX1_get_14 : decode cX1_get 14 = .ok (.getfield 16, 3) := by decide +kernel
theorem dX1_get_17 : decode cX1_get 17 = .ok (.bipush 32, 2) := by decide +kernel
theorem dX1_get_19 : decode cX1_get 19 = .ok (.iload_n 1, 1) := by decide +kernel
theorem dX1_get_20 : decode cX1_get 20 = .ok (.imul, 1) := by decide +kernel
theorem dX1_get_21 : decode cX1_get 21 = .ok (.iload_n 2, 1) := by decide +kernel
theorem dX1_get_22 : decode cX1_get 22 = .ok (.iadd, 1) := by decide +kernel
theorem dX1_get_23 : decode cX1_get 23 = .ok (.iaload, 1) := by decide +kernel
theorem dX1_get_24 : decode cX1_get 24 = .ok (.ireturn, 1) := by decide +kernel
theorem dX1_take_0 : decode cX1_take 0 = .ok (.iconst 0, 1) := by decide +kernel
theorem dX1_take_1 : decode cX1_take 1 = .ok (.istore_n 3, 1) := by decide +kernel
theorem dX1_take_2 : decode cX1_take 2 = .ok (.iload_n 3, 1) := by decide +kernel
theorem dX1_take_3 : decode cX1_take 3 = .ok (.aload_n 0, 1) := by decide +kernel
theorem dX1_take_4 : decode cX1_take 4 = .ok (.getfield 7, 3) := by decide +kernel
theorem dX1_take_7 : decode cX1_take 7 = .ok (.if_icmp .ge 23, 3) := by decide +kernel
theorem dX1_take_10 : decode cX1_take 10 = .ok (.aload_n 2, 1) := by decide +kernel
theorem dX1_take_11 : decode cX1_take 11 = .ok (.iload_n 3, 1) := by decide +kernel
theorem dX1_take_12 : decode cX1_take 12 = .ok (.aload_n 0, 1) := by decide +kernel
theorem dX1_take_13 : decode cX1_take 13 = .ok (.getfield 16, 3) := by decide +kernel
theorem dX1_take_16 : decode cX1_take 16 = .ok (.bipush 32, 2) := by decide +kernel
theorem dX1_take_18 : decode cX1_take 18 = .ok (.iload_n 1, 1) := by decide +kernel
theorem dX1_take_19 : decode cX1_take 19 = .ok (.imul, 1) := by decide +kernel
theorem dX1_take_20 : decode cX1_take 20 = .ok (.iload_n 3, 1) := by decide +kernel
theorem dX1_take_21 : decode cX1_take 21 = .ok (.iadd, 1) := by decide +kernel
theorem dX1_take_22 : decode cX1_take 22 = .ok (.iaload, 1) := by decide +kernel
theorem dX1_take_23 : decode cX1_take 23 = .ok (.iastore, 1) := by decide +kernel
theorem dX1_take_24 : decode cX1_take 24 = .ok (.iinc 3 1, 3) := by decide +kernel
theorem dX1_take_27 : decode cX1_take 27 = .ok (.goto (-25), 3) := by decide +kernel
theorem dX1_take_30 : decode cX1_take 30 = .ok (.return_, 1) := by decide +kernel
theorem dX1_put_0 : decode cX1_put 0 = .ok (.iconst 0, 1) := by decide +kernel
theorem dX1_put_1 : decode cX1_put 1 = .ok (.istore_n 3, 1) := by decide +kernel
theorem dX1_put_2 : decode cX1_put 2 = .ok (.iload_n 3, 1) := by decide +kernel
theorem dX1_put_3 : decode cX1_put 3 = .ok (.aload_n 0, 1) := by decide +kernel
theorem dX1_put_4 : decode cX1_put 4 = .ok (.getfield 7, 3) := by decide +kernel
theorem dX1_put_7 : decode cX1_put 7 = .ok (.if_icmp .ge 23, 3) := by decide +kernel
theorem dX1_put_10 : decode cX1_put 10 = .ok (.aload_n 0, 1) := by decide +kernel
theorem dX1_put_11 : decode cX1_put 11 = .ok (.getfield 16, 3) := by decide +kernel
theorem dX1_put_14 : decode cX1_put 14 = .ok (.bipush 32, 2) := by decide +kernel
theorem dX1_put_16 : decode cX1_put 16 = .ok (.iload_n 1, 1) := by decide +kernel
theorem dX1_put_17 : decode cX1_put 17 = .ok (.imul, 1) := by decide +kernel
theorem dX1_put_18 : decode cX1_put 18 = .ok (.iload_n 3, 1) := by decide +kernel
theorem dX1_put_19 : decode cX1_put 19 = .ok (.iadd, 1) := by decide +kernel
theorem dX1_put_20 : decode cX1_put 20 = .ok (.aload_n 2, 1) := by decide +kernel
theorem dX1_put_21 : decode cX1_put 21 = .ok (.iload_n 3, 1) := by decide +kernel
theorem dX1_put_22 : decode cX1_put 22 = .ok (.iaload, 1) := by decide +kernel
theorem dX1_put_23 : decode cX1_put 23 = .ok (.iastore, 1) := by decide +kernel
theorem dX1_put_24 : decode cX1_put 24 = .ok (.iinc 3 1, 3) := by decide +kernel
theorem dX1_put_27 : decode cX1_put 27 = .ok (.goto (-25), 3) := by decide +kernel
theorem dX1_put_30 : decode cX1_put 30 = .ok (.return_, 1) := by decide +kernel
theorem dX1_at_0 : decode cX1_at 0 = .ok (.aload_n 0, 1) := by decide +kernel
theorem dX1_at_1 : decode cX1_at 1 = .ok (.aload_n 0, 1) := by decide +kernel
theorem dX1_at_2 : decode cX1_at 2 = .ok (.invokevirtual 42, 3) := by decide +kernel
theorem dX1_at_5 : decode cX1_at 5 = .ok (.iconst 2, 1) := by decide +kernel
theorem dX1_at_6 : decode cX1_at 6 = .ok (.iload_n 2, 1) := by decide +kernel
theorem dX1_at_7 : decode cX1_at 7 = .ok (.imul, 1) := by decide +kernel
theorem dX1_at_8 : decode cX1_at 8 = .ok (.iconst 1, 1) := by decide +kernel
theorem dX1_at_9 : decode cX1_at 9 = .ok (.iadd, 1) := by decide +kernel
theorem dX1_at_10 : decode cX1_at 10 = .ok (.invokevirtual 35, 3) := by decide +kernel
theorem dX1_at_13 : decode cX1_at 13 = .ok (.istore_n 3, 1) := by decide +kernel
theorem dX1_at_14 : decode cX1_at 14 = .ok (.iconst 0, 1) := by decide +kernel
theorem dX1_at_15 : decode cX1_at 15 = .ok (.istore 4, 2) := by decide +kernel
theorem dX1_at_17 : decode cX1_at 17 = .ok (.aload_n 0, 1) := by decide +kernel
theorem dX1_at_18 : decode cX1_at 18 = .ok (.getfield 7, 3) := by decide +kernel
theorem dX1_at_21 : decode cX1_at 21 = .ok (.iconst 1, 1) := by decide +kernel
theorem dX1_at_22 : decode cX1_at 22 = .ok (.isub, 1) := by decide +kernel
theorem dX1_at_23 : decode cX1_at 23 = .ok (.istore 5, 2) := by decide +kernel
theorem dX1_at_25 : decode cX1_at 25 = .ok (.iload 5, 2) := by decide +kernel
theorem dX1_at_27 : decode cX1_at 27 = .ok (.ifCond .lt 25, 3) := by decide +kernel
theorem dX1_at_30 : decode cX1_at 30 = .ok (.iload 4, 2) := by decide +kernel
theorem dX1_at_32 : decode cX1_at 32 = .ok (.iload_n 3, 1) := by decide +kernel
theorem dX1_at_33 : decode cX1_at 33 = .ok (.imul, 1) := by decide +kernel
theorem dX1_at_34 : decode cX1_at 34 = .ok (.aload_n 1, 1) := by decide +kernel
theorem dX1_at_35 : decode cX1_at 35 = .ok (.iload 5, 2) := by decide +kernel
theorem dX1_at_37 : decode cX1_at 37 = .ok (.iaload, 1) := by decide +kernel
theorem dX1_at_38 : decode cX1_at 38 = .ok (.iadd, 1) := by decide +kernel
theorem dX1_at_39 : decode cX1_at 39 = .ok (.aload_n 0, 1) := by decide +kernel
theorem dX1_at_40 : decode cX1_at 40 = .ok (.getfield 13, 3) := by decide +kernel
theorem dX1_at_43 : decode cX1_at 43 = .ok (.irem, 1) := by decide +kernel
theorem dX1_at_44 : decode cX1_at 44 = .ok (.istore 4, 2) := by decide +kernel
theorem dX1_at_46 : decode cX1_at 46 = .ok (.iinc 5 (-1), 3) := by decide +kernel
theorem dX1_at_49 : decode cX1_at 49 = .ok (.goto (-24), 3) := by decide +kernel
theorem dX1_at_52 : decode cX1_at 52 = .ok (.iload 4, 2) := by decide +kernel
theorem dX1_at_54 : decode cX1_at 54 = .ok (.ireturn, 1) := by decide +kernel
theorem dX1_zeros_0 : decode cX1_zeros 0 = .ok (.iconst 0, 1) := by decide +kernel
theorem dX1_zeros_1 : decode cX1_zeros 1 = .ok (.istore_n 2, 1) := by decide +kernel
theorem dX1_zeros_2 : decode cX1_zeros 2 = .ok (.iconst 0, 1) := by decide +kernel
theorem dX1_zeros_3 : decode cX1_zeros 3 = .ok (.istore_n 3, 1) := by decide +kernel
theorem dX1_zeros_4 : decode cX1_zeros 4 = .ok (.iload_n 3, 1) := by decide +kernel
theorem dX1_zeros_5 : decode cX1_zeros 5 = .ok (.aload_n 0, 1) := by decide +kernel
theorem dX1_zeros_6 : decode cX1_zeros 6 = .ok (.getfield 7, 3) := by decide +kernel
theorem dX1_zeros_9 : decode cX1_zeros 9 = .ok (.if_icmp .ge 21, 3) := by decide +kernel
theorem dX1_zeros_12 : decode cX1_zeros 12 = .ok (.aload_n 0, 1) := by decide +kernel
theorem dX1_zeros_13 : decode cX1_zeros 13 = .ok (.aload_n 1, 1) := by decide +kernel
theorem dX1_zeros_14 : decode cX1_zeros 14 = .ok (.iload_n 3, 1) := by decide +kernel
theorem dX1_zeros_15 : decode cX1_zeros 15 = .ok (.invokevirtual 58, 3) := by decide +kernel
theorem dX1_zeros_18 : decode cX1_zeros 18 = .ok (.ifCond .ne 6, 3) := by decide +kernel
theorem dX1_zeros_21 : decode cX1_zeros 21 = .ok (.iinc 2 1, 3) := by decide +kernel
theorem dX1_zeros_24 : decode cX1_zeros 24 = .ok (.iinc 3 1, 3) := by decide +kernel
theorem dX1_zeros_27 : decode cX1_zeros 27 = .ok (.goto (-23), 3) := by decide +kernel
theorem dX1_zeros_30 : decode cX1_zeros 30 = .ok (.iload_n 2, 1) := by decide +kernel
theorem dX1_zeros_31 : decode cX1_zeros 31 = .ok (.ireturn, 1) := by decide +kernel
theorem dX1_add_0 : decode cX1_add 0 = .ok (.aload_n 0, 1) := by decide +kernel
theorem dX1_add_1 : decode cX1_add 1 = .ok (.aload_n 0, 1) := by decide +kernel
theorem dX1_add_2 : decode cX1_add 2 = .ok (.getfield 7, 3) := by decide +kernel
theorem dX1_add_5 : decode cX1_add 5 = .ok (.aload_n 0, 1) := by decide +kernel
theorem dX1_add_6 : decode cX1_add 6 = .ok (.getfield 13, 3) := by decide +kernel
theorem dX1_add_9 : decode cX1_add 9 = .ok (.iconst 2, 1) := by decide +kernel
theorem dX1_add_10 : decode cX1_add 10 = .ok (.isub, 1) := by decide +kernel
theorem dX1_add_11 : decode cX1_add 11 = .ok (.invokevirtual 35, 3) := by decide +kernel
theorem dX1_add_14 : decode cX1_add 14 = .ok (.istore 4, 2) := by decide +kernel
theorem dX1_add_16 : decode cX1_add 16 = .ok (.aload_n 0, 1) := by decide +kernel
theorem dX1_add_17 : decode cX1_add 17 = .ok (.invokevirtual 42, 3) := by decide +kernel
theorem dX1_add_20 : decode cX1_add 20 = .ok (.istore 5, 2) := by decide +kernel
theorem dX1_add_22 : decode cX1_add 22 = .ok (.iconst 0, 1) := by decide +kernel
theorem dX1_add_23 : decode cX1_add 23 = .ok (.istore 6, 2) := by decide +kernel
theorem dX1_add_25 : decode cX1_add 25 = .ok (.iload 6, 2) := by decide +kernel
theorem dX1_add_27 : decode cX1_add 27 = .ok (.aload_n 0, 1) := by decide +kernel
theorem dX1_add_28 : decode cX1_add 28 = .ok (.getfield 7, 3) := by decide +kernel
theorem dX1_add_31 : decode cX1_add 31 = .ok (.if_icmp .ge 72, 3) := by decide +kernel
theorem dX1_add_34 : decode cX1_add 34 = .ok (.aload_n 1, 1) := by decide +kernel
theorem dX1_add_35 : decode cX1_add 35 = .ok (.iload 6, 2) := by decide +kernel
theorem dX1_add_37 : decode cX1_add 37 = .ok (.aload_n 0, 1) := by decide +kernel
theorem dX1_add_38 : decode cX1_add 38 = .ok (.aload_n 1, 1) := by decide +kernel
theorem dX1_add_39 : decode cX1_add 39 = .ok (.iload 6, 2) := by decide +kernel
theorem dX1_add_41 : decode cX1_add 41 = .ok (.iaload, 1) := by decide +kernel
theorem dX1_add_42 : decode cX1_add 42 = .ok (.i2l, 1) := by decide +kernel
theorem dX1_add_43 : decode cX1_add 43 = .ok (.iload_n 3, 1) := by decide +kernel
theorem dX1_add_44 : decode cX1_add 44 = .ok (.i2l, 1) := by decide +kernel
theorem dX1_add_45 : decode cX1_add 45 = .ok (.iload 4, 2) := by decide +kernel
theorem dX1_add_47 : decode cX1_add 47 = .ok (.i2l, 1) := by decide +kernel
theorem dX1_add_48 : decode cX1_add 48 = .ok (.lmul, 1) := by decide +kernel
theorem dX1_add_49 : decode cX1_add 49 = .ok (.aload_n 0, 1) := by decide +kernel
theorem dX1_add_50 : decode cX1_add 50 = .ok (.getfield 13, 3) := by decide +kernel
theorem dX1_add_53 : decode cX1_add 53 = .ok (.i2l, 1) := by decide +kernel
theorem dX1_add_54 : decode cX1_add 54 = .ok (.lrem, 1) := by decide +kernel
theorem dX1_add_55 : decode cX1_add 55 = .ok (.aload_n 0, 1) := by decide +kernel
theorem dX1_add_56 : decode cX1_add 56 = .ok (.iload 5, 2) := by decide +kernel
theorem dX1_add_58 : decode cX1_add 58 = .ok (.iconst 2, 1) := by decide +kernel
theorem dX1_add_59 : decode cX1_add 59 = .ok (.aload_n 0, 1) := by decide +kernel
theorem dX1_add_60 : decode cX1_add 60 = .ok (.getfield 7, 3) := by decide +kernel
theorem dX1_add_63 : decode cX1_add 63 = .ok (.imul, 1) := by decide +kernel
theorem dX1_add_64 : decode cX1_add 64 = .ok (.iconst 2, 1) := by decide +kernel
theorem dX1_add_65 : decode cX1_add 65 = .ok (.iload_n 2, 1) := by decide +kernel
theorem dX1_add_66 : decode cX1_add 66 = .ok (.imul, 1) := by decide +kernel
theorem dX1_add_67 : decode cX1_add 67 = .ok (.iconst 1, 1) := by decide +kernel
theorem dX1_add_68 : decode cX1_add 68 = .ok (.iadd, 1) := by decide +kernel
theorem dX1_add_69 : decode cX1_add 69 = .ok (.iload 6, 2) := by decide +kernel
theorem dX1_add_71 : decode cX1_add 71 = .ok (.imul, 1) := by decide +kernel
theorem dX1_add_72 : decode cX1_add 72 = .ok (.iconst 2, 1) := by decide +kernel
theorem dX1_add_73 : decode cX1_add 73 = .ok (.aload_n 0, 1) := by decide +kernel
theorem dX1_add_74 : decode cX1_add 74 = .ok (.getfield 7, 3) := by decide +kernel
theorem dX1_add_77 : decode cX1_add 77 = .ok (.imul, 1) := by decide +kernel
theorem dX1_add_78 : decode cX1_add 78 = .ok (.irem, 1) := by decide +kernel
theorem dX1_add_79 : decode cX1_add 79 = .ok (.isub, 1) := by decide +kernel
theorem dX1_add_80 : decode cX1_add 80 = .ok (.iconst 2, 1) := by decide +kernel
theorem dX1_add_81 : decode cX1_add 81 = .ok (.aload_n 0, 1) := by decide +kernel
theorem dX1_add_82 : decode cX1_add 82 = .ok (.getfield 7, 3) := by decide +kernel
theorem dX1_add_85 : decode cX1_add 85 = .ok (.imul, 1) := by decide +kernel
theorem dX1_add_86 : decode cX1_add 86 = .ok (.irem, 1) := by decide +kernel
theorem dX1_add_87 : decode cX1_add 87 = .ok (.invokevirtual 35, 3) := by decide +kernel
theorem dX1_add_90 : decode cX1_add 90 = .ok (.i2l, 1) := by decide +kernel
theorem dX1_add_91 : decode cX1_add 91 = .ok (.lmul, 1) := by decide +kernel
theorem dX1_add_92 : decode cX1_add 92 = .ok (.ladd, 1) := by decide +kernel
theorem dX1_add_93 : decode cX1_add 93 = .ok (.invokevirtual 54, 3) := by decide +kernel
theorem dX1_add_96 : decode cX1_add 96 = .ok (.iastore, 1) := by decide +kernel
theorem dX1_add_97 : decode cX1_add 97 = .ok (.iinc 6 1, 3) := by decide +kernel
theorem dX1_add_100 : decode cX1_add 100 = .ok (.goto (-75), 3) := by decide +kernel
theorem dX1_add_103 : decode cX1_add 103 = .ok (.return_, 1) := by decide +kernel
theorem dX1_setValue_0 : decode cX1_setValue 0 = .ok (.aload_n 0, 1) := by decide +kernel
theorem dX1_setValue_1 : decode cX1_setValue 1 = .ok (.iload_n 1, 1) := by decide +kernel
theorem dX1_setValue_2 : decode cX1_setValue 2 = .ok (.iload_n 2, 1) := by decide +kernel
theorem dX1_setValue_3 : decode cX1_setValue 3 = .ok (.invokevirtual 50, 3) := by decide +kernel
theorem dX1_setValue_6 : decode cX1_setValue 6 = .ok (.ifCond .eq 5, 3) := by decide +kernel
theorem dX1_setValue_9 : decode cX1_setValue 9 = .ok (.iconst 0, 1) := by decide +kernel
theorem dX1_setValue_10 : decode cX1_setValue 10 = .ok (.ireturn, 1) := by decide +kernel
theorem dX1_setValue_11 : decode cX1_setValue 11 = .ok (.aload_n 0, 1) := by decide +kernel
theorem dX1_setValue_12 : decode cX1_setValue 12 = .ok (.iload_n 1, 1) := by decide +kernel
theorem dX1_setValue_13 : decode cX1_setValue 13 = .ok (.aload_n 0, 1) := by decide +kernel
theorem dX1_setValue_14 : decode cX1_setValue 14 = .ok (.getfield 20, 3) := by decide +kernel
theorem dX1_setValue_17 : decode cX1_setValue 17 = .ok (.invokevirtual 62, 3) := by decide +kernel
theorem dX1_setValue_20 : decode cX1_setValue 20 = .ok (.aload_n 0, 1) := by decide +kernel
theorem dX1_setValue_21 : decode cX1_setValue 21 = .ok (.aload_n 0, 1) := by decide +kernel
theorem dX1_setValue_22 : decode cX1_setValue 22 = .ok (.getfield 20, 3) := by decide +kernel
theorem dX1_setValue_25 : decode cX1_setValue 25 = .ok (.iload_n 2, 1) := by decide +kernel
theorem dX1_setValue_26 : decode cX1_setValue 26 = .ok (.invokevirtual 58, 3) := by decide +kernel
theorem dX1_setValue_29 : decode cX1_setValue 29 = .ok (.istore 4, 2) := by decide +kernel
theorem dX1_setValue_31 : decode cX1_setValue 31 = .ok (.aload_n 0, 1) := by decide +kernel
theorem dX1_setValue_32 : decode cX1_setValue 32 = .ok (.aload_n 0, 1) := by decide +kernel
theorem dX1_setValue_33 : decode cX1_setValue 33 = .ok (.getfield 20, 3) := by decide +kernel
theorem dX1_setValue_36 : decode cX1_setValue 36 = .ok (.iload_n 2, 1) := by decide +kernel
theorem dX1_setValue_37 : decode cX1_setValue 37 = .ok (.aload_n 0, 1) := by decide +kernel
theorem dX1_setValue_38 : decode cX1_setValue 38 = .ok (.aload_n 0, 1) := by decide +kernel
theorem dX1_setValue_39 : decode cX1_setValue 39 = .ok (.iload_n 3, 1) := by decide +kernel
theorem dX1_setValue_40 : decode cX1_setValue 40 = .ok (.i2l, 1) := by decide +kernel
theorem dX1_setValue_41 : decode cX1_setValue 41 = .ok (.invokevirtual 54, 3) := by decide +kernel
theorem dX1_setValue_44 : decode cX1_setValue 44 = .ok (.iload 4, 2) := by decide +kernel
theorem dX1_setValue_46 : decode cX1_setValue 46 = .ok (.isub, 1) := by decide +kernel
theorem dX1_setValue_47 : decode cX1_setValue 47 = .ok (.i2l, 1) := by decide +kernel
theorem dX1_setValue_48 : decode cX1_setValue 48 = .ok (.invokevirtual 54, 3) := by decide +kernel
theorem dX1_setValue_51 : decode cX1_setValue 51 = .ok (.invokevirtual 66, 3) := by decide +kernel
theorem dX1_setValue_54 : decode cX1_setValue 54 = .ok (.aload_n 0, 1) := by decide +kernel
theorem dX1_setValue_55 : decode cX1_setValue 55 = .ok (.iload_n 1, 1) := by decide +kernel
theorem dX1_setValue_56 : decode cX1_setValue 56 = .ok (.aload_n 0, 1) := by decide +kernel
theorem dX1_setValue_57 : decode cX1_setValue 57 = .ok (.getfield 20, 3) := by decide +kernel
theorem dX1_setValue_60 : decode cX1_setValue 60 = .ok (.invokevirtual 70, 3) := by decide +kernel
theorem dX1_setValue_63 : decode cX1_setValue 63 = .ok (.iload 4, 2) := by decide +kernel
theorem dX1_setValue_65 : decode cX1_setValue 65 = .ok (.ireturn, 1) := by decide +kernel
theorem dX1_value_0 : decode cX1_value 0 = .ok (.aload_n 0, 1) := by decide +kernel
theorem dX1_value_1 : decode cX1_value 1 = .ok (.iload_n 1, 1) := by decide +kernel
theorem dX1_value_2 : decode cX1_value 2 = .ok (.iload_n 2, 1) := by decide +kernel
theorem dX1_value_3 : decode cX1_value 3 = .ok (.invokevirtual 50, 3) := by decide +kernel
theorem dX1_value_6 : decode cX1_value 6 = .ok (.ifCond .eq 5, 3) := by decide +kernel
theorem dX1_value_9 : decode cX1_value 9 = .ok (.iconst 0, 1) := by decide +kernel
theorem dX1_value_10 : decode cX1_value 10 = .ok (.ireturn, 1) := by decide +kernel
theorem dX1_value_11 : decode cX1_value 11 = .ok (.aload_n 0, 1) := by decide +kernel
theorem dX1_value_12 : decode cX1_value 12 = .ok (.iload_n 1, 1) := by decide +kernel
theorem dX1_value_13 : decode cX1_value 13 = .ok (.aload_n 0, 1) := by decide +kernel
theorem dX1_value_14 : decode cX1_value 14 = .ok (.getfield 20, 3) := by decide +kernel
theorem dX1_value_17 : decode cX1_value 17 = .ok (.invokevirtual 62, 3) := by decide +kernel
theorem dX1_value_20 : decode cX1_value 20 = .ok (.aload_n 0, 1) := by decide +kernel
theorem dX1_value_21 : decode cX1_value 21 = .ok (.aload_n 0, 1) := by decide +kernel
theorem dX1_value_22 : decode cX1_value 22 = .ok (.getfield 20, 3) := by decide +kernel
theorem dX1_value_25 : decode cX1_value 25 = .ok (.iload_n 2, 1) := by decide +kernel
theorem dX1_value_26 : decode cX1_value 26 = .ok (.invokevirtual 58, 3) := by decide +kernel
theorem dX1_value_29 : decode cX1_value 29 = .ok (.ireturn, 1) := by decide +kernel
theorem dX1_times_0 : decode cX1_times 0 = .ok (.iconst 0, 1) := by decide +kernel
theorem dX1_times_1 : decode cX1_times 1 = .ok (.istore_n 3, 1) := by decide +kernel
theorem dX1_times_2 : decode cX1_times 2 = .ok (.iload_n 3, 1) := by decide +kernel
theorem dX1_times_3 : decode cX1_times 3 = .ok (.aload_n 0, 1) := by decide +kernel
theorem dX1_times_4 : decode cX1_times 4 = .ok (.getfield 7, 3) := by decide +kernel
theorem dX1_times_7 : decode cX1_times 7 = .ok (.if_icmp .ge 85, 3) := by decide +kernel
theorem dX1_times_10 : decode cX1_times 10 = .ok (.iconst 0, 1) := by decide +kernel
theorem dX1_times_11 : decode cX1_times 11 = .ok (.istore 4, 2) := by decide +kernel
theorem dX1_times_13 : decode cX1_times 13 = .ok (.iconst 0, 1) := by decide +kernel
theorem dX1_times_14 : decode cX1_times 14 = .ok (.istore 5, 2) := by decide +kernel
theorem dX1_times_16 : decode cX1_times 16 = .ok (.iload 5, 2) := by decide +kernel
theorem dX1_times_18 : decode cX1_times 18 = .ok (.aload_n 0, 1) := by decide +kernel
theorem dX1_times_19 : decode cX1_times 19 = .ok (.getfield 7, 3) := by decide +kernel
theorem dX1_times_22 : decode cX1_times 22 = .ok (.if_icmp .ge 51, 3) := by decide +kernel
theorem dX1_times_25 : decode cX1_times 25 = .ok (.iload 4, 2) := by decide +kernel
theorem dX1_times_27 : decode cX1_times 27 = .ok (.iload 5, 2) := by decide +kernel
theorem dX1_times_29 : decode cX1_times 29 = .ok (.iload_n 3, 1) := by decide +kernel
theorem dX1_times_30 : decode cX1_times 30 = .ok (.if_icmp .gt 17, 3) := by decide +kernel
theorem dX1_times_33 : decode cX1_times 33 = .ok (.aload_n 1, 1) := by decide +kernel
theorem dX1_times_34 : decode cX1_times 34 = .ok (.iload 5, 2) := by decide +kernel
theorem dX1_times_36 : decode cX1_times 36 = .ok (.iaload, 1) := by decide +kernel
theorem dX1_times_37 : decode cX1_times 37 = .ok (.aload_n 2, 1) := by decide +kernel
theorem dX1_times_38 : decode cX1_times 38 = .ok (.iload_n 3, 1) := by decide +kernel
theorem dX1_times_39 : decode cX1_times 39 = .ok (.iload 5, 2) := by decide +kernel
theorem dX1_times_41 : decode cX1_times 41 = .ok (.isub, 1) := by decide +kernel
theorem dX1_times_42 : decode cX1_times 42 = .ok (.iaload, 1) := by decide +kernel
theorem dX1_times_43 : decode cX1_times 43 = .ok (.imul, 1) := by decide +kernel
theorem dX1_times_44 : decode cX1_times 44 = .ok (.goto 20, 3) := by decide +kernel
theorem dX1_times_47 : decode cX1_times 47 = .ok (.aload_n 1, 1) := by decide +kernel
theorem dX1_times_48 : decode cX1_times 48 = .ok (.iload 5, 2) := by decide +kernel
theorem dX1_times_50 : decode cX1_times 50 = .ok (.iaload, 1) := by decide +kernel
theorem dX1_times_51 : decode cX1_times 51 = .ok (.ineg, 1) := by decide +kernel
theorem dX1_times_52 : decode cX1_times 52 = .ok (.aload_n 2, 1) := by decide +kernel
theorem dX1_times_53 : decode cX1_times 53 = .ok (.aload_n 0, 1) := by decide +kernel
theorem dX1_times_54 : decode cX1_times 54 = .ok (.getfield 7, 3) := by decide +kernel
theorem dX1_times_57 : decode cX1_times 57 = .ok (.iload_n 3, 1) := by decide +kernel
theorem dX1_times_58 : decode cX1_times 58 = .ok (.iadd, 1) := by decide +kernel
theorem dX1_times_59 : decode cX1_times 59 = .ok (.iload 5, 2) := by decide +kernel
theorem dX1_times_61 : decode cX1_times 61 = .ok (.isub, 1) := by decide +kernel
theorem dX1_times_62 : decode cX1_times 62 = .ok (.iaload, 1) := by decide +kernel
theorem dX1_times_63 : decode cX1_times 63 = .ok (.imul, 1) := by decide +kernel
theorem dX1_times_64 : decode cX1_times 64 = .ok (.iadd, 1) := by decide +kernel
theorem dX1_times_65 : decode cX1_times 65 = .ok (.istore 4, 2) := by decide +kernel
theorem dX1_times_67 : decode cX1_times 67 = .ok (.iinc 5 1, 3) := by decide +kernel
theorem dX1_times_70 : decode cX1_times 70 = .ok (.goto (-54), 3) := by decide +kernel
theorem dX1_times_73 : decode cX1_times 73 = .ok (.aload_n 0, 1) := by decide +kernel
theorem dX1_times_74 : decode cX1_times 74 = .ok (.getfield 26, 3) := by decide +kernel
theorem dX1_times_77 : decode cX1_times 77 = .ok (.iload_n 3, 1) := by decide +kernel
theorem dX1_times_78 : decode cX1_times 78 = .ok (.aload_n 0, 1) := by decide +kernel
theorem dX1_times_79 : decode cX1_times 79 = .ok (.iload 4, 2) := by decide +kernel
theorem dX1_times_81 : decode cX1_times 81 = .ok (.i2l, 1) := by decide +kernel
theorem dX1_times_82 : decode cX1_times 82 = .ok (.invokevirtual 54, 3) := by decide +kernel
theorem dX1_times_85 : decode cX1_times 85 = .ok (.iastore, 1) := by decide +kernel
theorem dX1_times_86 : decode cX1_times 86 = .ok (.iinc 3 1, 3) := by decide +kernel
theorem dX1_times_89 : decode cX1_times 89 = .ok (.goto (-87), 3) := by decide +kernel
theorem dX1_times_92 : decode cX1_times 92 = .ok (.return_, 1) := by decide +kernel
theorem dX1_raise_0 : decode cX1_raise 0 = .ok (.iconst 0, 1) := by decide +kernel
theorem dX1_raise_1 : decode cX1_raise 1 = .ok (.istore 4, 2) := by decide +kernel
theorem dX1_raise_3 : decode cX1_raise 3 = .ok (.iload 4, 2) := by decide +kernel
theorem dX1_raise_5 : decode cX1_raise 5 = .ok (.aload_n 0, 1) := by decide +kernel
theorem dX1_raise_6 : decode cX1_raise 6 = .ok (.getfield 7, 3) := by decide +kernel
theorem dX1_raise_9 : decode cX1_raise 9 = .ok (.if_icmp .ge 26, 3) := by decide +kernel
theorem dX1_raise_12 : decode cX1_raise 12 = .ok (.aload_n 0, 1) := by decide +kernel
theorem dX1_raise_13 : decode cX1_raise 13 = .ok (.getfield 29, 3) := by decide +kernel
theorem dX1_raise_16 : decode cX1_raise 16 = .ok (.iload 4, 2) := by decide +kernel
theorem dX1_raise_18 : decode cX1_raise 18 = .ok (.iload 4, 2) := by decide +kernel
theorem dX1_raise_20 : decode cX1_raise 20 = .ok (.ifCond .ne 7, 3) := by decide +kernel
theorem dX1_raise_23 : decode cX1_raise 23 = .ok (.iconst 1, 1) := by decide +kernel
theorem dX1_raise_24 : decode cX1_raise 24 = .ok (.goto 4, 3) := by decide +kernel
theorem dX1_raise_27 : decode cX1_raise 27 = .ok (.iconst 0, 1) := by decide +kernel
theorem dX1_raise_28 : decode cX1_raise 28 = .ok (.iastore, 1) := by decide +kernel
theorem dX1_raise_29 : decode cX1_raise 29 = .ok (.iinc 4 1, 3) := by decide +kernel
theorem dX1_raise_32 : decode cX1_raise 32 = .ok (.goto (-29), 3) := by decide +kernel
theorem dX1_raise_35 : decode cX1_raise 35 = .ok (.lload_n 2, 1) := by decide +kernel
theorem dX1_raise_36 : decode cX1_raise 36 = .ok (.lstore 4, 2) := by decide +kernel
theorem dX1_raise_38 : decode cX1_raise 38 = .ok (.lload 4, 2) := by decide +kernel
theorem dX1_raise_40 : decode cX1_raise 40 = .ok (.lconst 0, 1) := by decide +kernel
theorem dX1_raise_41 : decode cX1_raise 41 = .ok (.lcmp, 1) := by decide +kernel
theorem dX1_raise_42 : decode cX1_raise 42 = .ok (.ifCond .le 97, 3) := by decide +kernel
theorem dX1_raise_45 : decode cX1_raise 45 = .ok (.lload 4, 2) := by decide +kernel
theorem dX1_raise_47 : decode cX1_raise 47 = .ok (.lconst 1, 1) := by decide +kernel
theorem dX1_raise_48 : decode cX1_raise 48 = .ok (.land, 1) := by decide +kernel
theorem dX1_raise_49 : decode cX1_raise 49 = .ok (.lconst 1, 1) := by decide +kernel
theorem dX1_raise_50 : decode cX1_raise 50 = .ok (.lcmp, 1) := by decide +kernel
theorem dX1_raise_51 : decode cX1_raise 51 = .ok (.ifCond .ne 44, 3) := by decide +kernel
theorem dX1_raise_54 : decode cX1_raise 54 = .ok (.aload_n 0, 1) := by decide +kernel
theorem dX1_raise_55 : decode cX1_raise 55 = .ok (.aload_n 0, 1) := by decide +kernel
theorem dX1_raise_56 : decode cX1_raise 56 = .ok (.getfield 29, 3) := by decide +kernel
theorem dX1_raise_59 : decode cX1_raise 59 = .ok (.aload_n 1, 1) := by decide +kernel
theorem dX1_raise_60 : decode cX1_raise 60 = .ok (.invokevirtual 73, 3) := by decide +kernel
theorem dX1_raise_63 : decode cX1_raise 63 = .ok (.iconst 0, 1) := by decide +kernel
theorem dX1_raise_64 : decode cX1_raise 64 = .ok (.istore 6, 2) := by decide +kernel
theorem dX1_raise_66 : decode cX1_raise 66 = .ok (.iload 6, 2) := by decide +kernel
theorem dX1_raise_68 : decode cX1_raise 68 = .ok (.aload_n 0, 1) := by decide +kernel
theorem dX1_raise_69 : decode cX1_raise 69 = .ok (.getfield 7, 3) := by decide +kernel
theorem dX1_raise_72 : decode cX1_raise 72 = .ok (.if_icmp .ge 23, 3) := by decide +kernel
theorem dX1_raise_75 : decode cX1_raise 75 = .ok (.aload_n 0, 1) := by decide +kernel
theorem dX1_raise_76 : decode cX1_raise 76 = .ok (.getfield 29, 3) := by decide +kernel
theorem dX1_raise_79 : decode cX1_raise 79 = .ok (.iload 6, 2) := by decide +kernel
theorem dX1_raise_81 : decode cX1_raise 81 = .ok (.aload_n 0, 1) := by decide +kernel
theorem dX1_raise_82 : decode cX1_raise 82 = .ok (.getfield 26, 3) := by decide +kernel
theorem dX1_raise_85 : decode cX1_raise 85 = .ok (.iload 6, 2) := by decide +kernel
theorem dX1_raise_87 : decode cX1_raise 87 = .ok (.iaload, 1) := by decide +kernel
theorem dX1_raise_88 : decode cX1_raise 88 = .ok (.iastore, 1) := by decide +kernel
theorem dX1_raise_89 : decode cX1_raise 89 = .ok (.iinc 6 1, 3) := by decide +kernel
theorem dX1_raise_92 : decode cX1_raise 92 = .ok (.goto (-26), 3) := by decide +kernel
theorem dX1_raise_95 : decode cX1_raise 95 = .ok (.aload_n 0, 1) := by decide +kernel
theorem dX1_raise_96 : decode cX1_raise 96 = .ok (.aload_n 1, 1) := by decide +kernel
theorem dX1_raise_97 : decode cX1_raise 97 = .ok (.aload_n 1, 1) := by decide +kernel
theorem dX1_raise_98 : decode cX1_raise 98 = .ok (.invokevirtual 73, 3) := by decide +kernel
theorem dX1_raise_101 : decode cX1_raise 101 = .ok (.iconst 0, 1) := by decide +kernel
theorem dX1_raise_102 : decode cX1_raise 102 = .ok (.istore 6, 2) := by decide +kernel
theorem dX1_raise_104 : decode cX1_raise 104 = .ok (.iload 6, 2) := by decide +kernel
theorem dX1_raise_106 : decode cX1_raise 106 = .ok (.aload_n 0, 1) := by decide +kernel
theorem dX1_raise_107 : decode cX1_raise 107 = .ok (.getfield 7, 3) := by decide +kernel
theorem dX1_raise_110 : decode cX1_raise 110 = .ok (.if_icmp .ge 20, 3) := by decide +kernel
theorem dX1_raise_113 : decode cX1_raise 113 = .ok (.aload_n 1, 1) := by decide +kernel
theorem dX1_raise_114 : decode cX1_raise 114 = .ok (.iload 6, 2) := by decide +kernel
theorem dX1_raise_116 : decode cX1_raise 116 = .ok (.aload_n 0, 1) := by decide +kernel
theorem dX1_raise_117 : decode cX1_raise 117 = .ok (.getfield 26, 3) := by decide +kernel
theorem dX1_raise_120 : decode cX1_raise 120 = .ok (.iload 6, 2) := by decide +kernel
theorem dX1_raise_122 : decode cX1_raise 122 = .ok (.iaload, 1) := by decide +kernel
theorem dX1_raise_123 : decode cX1_raise 123 = .ok (.iastore, 1) := by decide +kernel
theorem dX1_raise_124 : decode cX1_raise 124 = .ok (.iinc 6 1, 3) := by decide +kernel
theorem dX1_raise_127 : decode cX1_raise 127 = .ok (.goto (-23), 3) := by decide +kernel
theorem dX1_raise_130 : decode cX1_raise 130 = .ok (.lload 4, 2) := by decide +kernel
theorem dX1_raise_132 : decode cX1_raise 132 = .ok (.iconst 1, 1) := by decide +kernel
theorem dX1_raise_133 : decode cX1_raise 133 = .ok (.lshr, 1) := by decide +kernel
theorem dX1_raise_134 : decode cX1_raise 134 = .ok (.lstore 4, 2) := by decide +kernel
theorem dX1_raise_136 : decode cX1_raise 136 = .ok (.goto (-98), 3) := by decide +kernel
theorem dX1_raise_139 : decode cX1_raise 139 = .ok (.iconst 0, 1) := by decide +kernel
theorem dX1_raise_140 : decode cX1_raise 140 = .ok (.istore 4, 2) := by decide +kernel
theorem dX1_raise_142 : decode cX1_raise 142 = .ok (.iload 4, 2) := by decide +kernel
theorem dX1_raise_144 : decode cX1_raise 144 = .ok (.aload_n 0, 1) := by decide +kernel
theorem dX1_raise_145 : decode cX1_raise 145 = .ok (.getfield 7, 3) := by decide +kernel
theorem dX1_raise_148 : decode cX1_raise 148 = .ok (.if_icmp .ge 20, 3) := by decide +kernel
theorem dX1_raise_151 : decode cX1_raise 151 = .ok (.aload_n 1, 1) := by decide +kernel
theorem dX1_raise_152 : decode cX1_raise 152 = .ok (.iload 4, 2) := by decide +kernel
theorem dX1_raise_154 : decode cX1_raise 154 = .ok (.aload_n 0, 1) := by decide +kernel
theorem dX1_raise_155 : decode cX1_raise 155 = .ok (.getfield 29, 3) := by decide +kernel
theorem dX1_raise_158 : decode cX1_raise 158 = .ok (.iload 4, 2) := by decide +kernel
theorem dX1_raise_160 : decode cX1_raise 160 = .ok (.iaload, 1) := by decide +kernel
theorem dX1_raise_161 : decode cX1_raise 161 = .ok (.iastore, 1) := by decide +kernel
theorem dX1_raise_162 : decode cX1_raise 162 = .ok (.iinc 4 1, 3) := by decide +kernel
theorem dX1_raise_165 : decode cX1_raise 165 = .ok (.goto (-23), 3) := by decide +kernel
theorem dX1_raise_168 : decode cX1_raise 168 = .ok (.return_, 1) := by decide +kernel
theorem dX1_join_0 : decode cX1_join 0 = .ok (.aload_n 0, 1) := by decide +kernel
theorem dX1_join_1 : decode cX1_join 1 = .ok (.iload_n 1, 1) := by decide +kernel
theorem dX1_join_2 : decode cX1_join 2 = .ok (.invokestatic 46, 3) := by decide +kernel
theorem dX1_join_5 : decode cX1_join 5 = .ok (.ifCond .ne 18, 3) := by decide +kernel
theorem dX1_join_8 : decode cX1_join 8 = .ok (.iload_n 3, 1) := by decide +kernel
theorem dX1_join_9 : decode cX1_join 9 = .ok (.invokestatic 46, 3) := by decide +kernel
theorem dX1_join_12 : decode cX1_join 12 = .ok (.ifCond .ne 11, 3) := by decide +kernel
theorem dX1_join_15 : decode cX1_join 15 = .ok (.iload 4, 2) := by decide +kernel
theorem dX1_join_17 : decode cX1_join 17 = .ok (.invokestatic 46, 3) := by decide +kernel
theorem dX1_join_20 : decode cX1_join 20 = .ok (.ifCond .eq 7, 3) := by decide +kernel
theorem dX1_join_23 : decode cX1_join 23 = .ok (.iconst 1, 1) := by decide +kernel
theorem dX1_join_24 : decode cX1_join 24 = .ok (.goto 17, 3) := by decide +kernel
theorem dX1_join_27 : decode cX1_join 27 = .ok (.iload_n 2, 1) := by decide +kernel
theorem dX1_join_28 : decode cX1_join 28 = .ok (.ifCond .lt 8, 3) := by decide +kernel
theorem dX1_join_31 : decode cX1_join 31 = .ok (.iload_n 2, 1) := by decide +kernel
theorem dX1_join_32 : decode cX1_join 32 = .ok (.iconst 3, 1) := by decide +kernel
theorem dX1_join_33 : decode cX1_join 33 = .ok (.if_icmp .le 7, 3) := by decide +kernel
theorem dX1_join_36 : decode cX1_join 36 = .ok (.iconst 2, 1) := by decide +kernel
theorem dX1_join_37 : decode cX1_join 37 = .ok (.goto 4, 3) := by decide +kernel
theorem dX1_join_40 : decode cX1_join 40 = .ok (.iconst 0, 1) := by decide +kernel
theorem dX1_join_41 : decode cX1_join 41 = .ok (.putfield 32, 3) := by decide +kernel
theorem dX1_join_44 : decode cX1_join 44 = .ok (.aload_n 0, 1) := by decide +kernel
theorem dX1_join_45 : decode cX1_join 45 = .ok (.getfield 32, 3) := by decide +kernel
theorem dX1_join_48 : decode cX1_join 48 = .ok (.ifCond .le 5, 3) := by decide +kernel
theorem dX1_join_51 : decode cX1_join 51 = .ok (.iconst 0, 1) := by decide +kernel
theorem dX1_join_52 : decode cX1_join 52 = .ok (.ireturn, 1) := by decide +kernel
theorem dX1_join_53 : decode cX1_join 53 = .ok (.aload_n 0, 1) := by decide +kernel
theorem dX1_join_54 : decode cX1_join 54 = .ok (.iload_n 3, 1) := by decide +kernel
theorem dX1_join_55 : decode cX1_join 55 = .ok (.aload_n 0, 1) := by decide +kernel
theorem dX1_join_56 : decode cX1_join 56 = .ok (.getfield 20, 3) := by decide +kernel
theorem dX1_join_59 : decode cX1_join 59 = .ok (.invokevirtual 62, 3) := by decide +kernel
theorem dX1_join_62 : decode cX1_join 62 = .ok (.aload_n 0, 1) := by decide +kernel
theorem dX1_join_63 : decode cX1_join 63 = .ok (.iload 4, 2) := by decide +kernel
theorem dX1_join_65 : decode cX1_join 65 = .ok (.aload_n 0, 1) := by decide +kernel
theorem dX1_join_66 : decode cX1_join 66 = .ok (.getfield 23, 3) := by decide +kernel
theorem dX1_join_69 : decode cX1_join 69 = .ok (.invokevirtual 62, 3) := by decide +kernel
theorem dX1_join_72 : decode cX1_join 72 = .ok (.iload_n 2, 1) := by decide +kernel
theorem dX1_join_73 : decode cX1_join 73 = .ok (.iconst 3, 1) := by decide +kernel
theorem dX1_join_74 : decode cX1_join 74 = .ok (.if_icmp .ne 20, 3) := by decide +kernel
theorem dX1_join_77 : decode cX1_join 77 = .ok (.aload_n 0, 1) := by decide +kernel
theorem dX1_join_78 : decode cX1_join 78 = .ok (.aload_n 0, 1) := by decide +kernel
theorem dX1_join_79 : decode cX1_join 79 = .ok (.getfield 23, 3) := by decide +kernel
theorem dX1_join_82 : decode cX1_join 82 = .ok (.invokevirtual 77, 3) := by decide +kernel
theorem dX1_join_85 : decode cX1_join 85 = .ok (.ifCond .le 9, 3) := by decide +kernel
theorem dX1_join_88 : decode cX1_join 88 = .ok (.aload_n 0, 1) := by decide +kernel
theorem dX1_join_89 : decode cX1_join 89 = .ok (.iconst 3, 1) := by decide +kernel
theorem dX1_join_90 : decode cX1_join 90 = .ok (.invokevirtual 81, 3) := by decide +kernel
theorem dX1_join_93 : decode cX1_join 93 = .ok (.ireturn, 1) := by decide +kernel
theorem dX1_join_94 : decode cX1_join 94 = .ok (.iload_n 2, 1) := by decide +kernel
theorem dX1_join_95 : decode cX1_join 95 = .ok (.iconst 2, 1) := by decide +kernel
theorem dX1_join_96 : decode cX1_join 96 = .ok (.if_icmp .ge 74, 3) := by decide +kernel
theorem dX1_join_99 : decode cX1_join 99 = .ok (.iconst 0, 1) := by decide +kernel
theorem dX1_join_100 : decode cX1_join 100 = .ok (.istore 5, 2) := by decide +kernel
theorem dX1_join_102 : decode cX1_join 102 = .ok (.iload 5, 2) := by decide +kernel
theorem dX1_join_104 : decode cX1_join 104 = .ok (.aload_n 0, 1) := by decide +kernel
theorem dX1_join_105 : decode cX1_join 105 = .ok (.getfield 7, 3) := by decide +kernel
theorem dX1_join_108 : decode cX1_join 108 = .ok (.if_icmp .ge 59, 3) := by decide +kernel
theorem dX1_join_111 : decode cX1_join 111 = .ok (.aload_n 0, 1) := by decide +kernel
theorem dX1_join_112 : decode cX1_join 112 = .ok (.getfield 26, 3) := by decide +kernel
theorem dX1_join_115 : decode cX1_join 115 = .ok (.iload 5, 2) := by decide +kernel
theorem dX1_join_117 : decode cX1_join 117 = .ok (.aload_n 0, 1) := by decide +kernel
theorem dX1_join_118 : decode cX1_join 118 = .ok (.iload_n 2, 1) := by decide +kernel
theorem dX1_join_119 : decode cX1_join 119 = .ok (.ifCond .ne 22, 3) := by decide +kernel
theorem dX1_join_122 : decode cX1_join 122 = .ok (.aload_n 0, 1) := by decide +kernel
theorem dX1_join_123 : decode cX1_join 123 = .ok (.getfield 20, 3) := by decide +kernel
theorem dX1_join_126 : decode cX1_join 126 = .ok (.iload 5, 2) := by decide +kernel
theorem dX1_join_128 : decode cX1_join 128 = .ok (.iaload, 1) := by decide +kernel
theorem dX1_join_129 : decode cX1_join 129 = .ok (.aload_n 0, 1) := by decide +kernel
theorem dX1_join_130 : decode cX1_join 130 = .ok (.getfield 23, 3) := by decide +kernel
theorem dX1_join_133 : decode cX1_join 133 = .ok (.iload 5, 2) := by decide +kernel
theorem dX1_join_135 : decode cX1_join 135 = .ok (.iaload, 1) := by decide +kernel
theorem dX1_join_136 : decode cX1_join 136 = .ok (.iadd, 1) := by decide +kernel
theorem dX1_join_137 : decode cX1_join 137 = .ok (.i2l, 1) := by decide +kernel
theorem dX1_join_138 : decode cX1_join 138 = .ok (.goto 19, 3) := by decide +kernel
theorem dX1_join_141 : decode cX1_join 141 = .ok (.aload_n 0, 1) := by decide +kernel
theorem dX1_join_142 : decode cX1_join 142 = .ok (.getfield 20, 3) := by decide +kernel
theorem dX1_join_145 : decode cX1_join 145 = .ok (.iload 5, 2) := by decide +kernel
theorem dX1_join_147 : decode cX1_join 147 = .ok (.iaload, 1) := by decide +kernel
theorem dX1_join_148 : decode cX1_join 148 = .ok (.aload_n 0, 1) := by decide +kernel
theorem dX1_join_149 : decode cX1_join 149 = .ok (.getfield 23, 3) := by decide +kernel
theorem dX1_join_152 : decode cX1_join 152 = .ok (.iload 5, 2) := by decide +kernel
theorem dX1_join_154 : decode cX1_join 154 = .ok (.iaload, 1) := by decide +kernel
theorem dX1_join_155 : decode cX1_join 155 = .ok (.isub, 1) := by decide +kernel
theorem dX1_join_156 : decode cX1_join 156 = .ok (.i2l, 1) := by decide +kernel
theorem dX1_join_157 : decode cX1_join 157 = .ok (.invokevirtual 54, 3) := by decide +kernel
theorem dX1_join_160 : decode cX1_join 160 = .ok (.iastore, 1) := by decide +kernel
theorem dX1_join_161 : decode cX1_join 161 = .ok (.iinc 5 1, 3) := by decide +kernel
theorem dX1_join_164 : decode cX1_join 164 = .ok (.goto (-62), 3) := by decide +kernel
theorem dX1_join_167 : decode cX1_join 167 = .ok (.goto 37, 3) := by decide +kernel
theorem dX1_join_170 : decode cX1_join 170 = .ok (.iload_n 2, 1) := by decide +kernel
theorem dX1_join_171 : decode cX1_join 171 = .ok (.iconst 3, 1) := by decide +kernel
theorem dX1_join_172 : decode cX1_join 172 = .ok (.if_icmp .ne 20, 3) := by decide +kernel
theorem dX1_join_175 : decode cX1_join 175 = .ok (.aload_n 0, 1) := by decide +kernel
theorem dX1_join_176 : decode cX1_join 176 = .ok (.aload_n 0, 1) := by decide +kernel
theorem dX1_join_177 : decode cX1_join 177 = .ok (.getfield 23, 3) := by decide +kernel
theorem dX1_join_180 : decode cX1_join 180 = .ok (.aload_n 0, 1) := by decide +kernel
