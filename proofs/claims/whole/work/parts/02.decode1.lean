theorem dX5_divide_17 : decode cX5_divide 17 = .ok (.iconst 0, 1) := by decide +kernel
theorem dX5_divide_18 : decode cX5_divide 18 = .ok (.ireturn, 1) := by decide +kernel
theorem dX5_makeRow_0 : decode cX5_makeRow 0 = .ok (.iload_n 1, 1) := by decide +kernel
theorem dX5_makeRow_1 : decode cX5_makeRow 1 = .ok (.ifCond .ge 5, 3) := by decide +kernel
theorem dX5_makeRow_4 : decode cX5_makeRow 4 = .ok (.iconst 5, 1) := by decide +kernel
theorem dX5_makeRow_5 : decode cX5_makeRow 5 = .ok (.ireturn, 1) := by decide +kernel
theorem dX5_makeRow_6 : decode cX5_makeRow 6 = .ok (.aload_n 0, 1) := by decide +kernel
theorem dX5_makeRow_7 : decode cX5_makeRow 7 = .ok (.getfield 38, 3) := by decide +kernel
theorem dX5_makeRow_10 : decode cX5_makeRow 10 = .ok (.iload_n 1, 1) := by decide +kernel
theorem dX5_makeRow_11 : decode cX5_makeRow 11 = .ok (.invokevirtual 109, 3) := by decide +kernel
theorem dX5_makeRow_14 : decode cX5_makeRow 14 = .ok (.iconst 0, 1) := by decide +kernel
theorem dX5_makeRow_15 : decode cX5_makeRow 15 = .ok (.ireturn, 1) := by decide +kernel
theorem dX5_put_0 : decode cX5_put 0 = .ok (.aload_n 0, 1) := by decide +kernel
theorem dX5_put_1 : decode cX5_put 1 = .ok (.getfield 38, 3) := by decide +kernel
theorem dX5_put_4 : decode cX5_put 4 = .ok (.iload_n 1, 1) := by decide +kernel
theorem dX5_put_5 : decode cX5_put 5 = .ok (.invokevirtual 113, 3) := by decide +kernel
theorem dX5_put_8 : decode cX5_put 8 = .ok (.ifCond .eq 18, 3) := by decide +kernel
theorem dX5_put_11 : decode cX5_put 11 = .ok (.aload_n 0, 1) := by decide +kernel
theorem dX5_put_12 : decode cX5_put 12 = .ok (.getfield 38, 3) := by decide +kernel
theorem dX5_put_15 : decode cX5_put 15 = .ok (.getfield 117, 3) := by decide +kernel
theorem dX5_put_18 : decode cX5_put 18 = .ok (.iload_n 1, 1) := by decide +kernel
theorem dX5_put_19 : decode cX5_put 19 = .ok (.aload_n 0, 1) := by decide +kernel
theorem dX5_put_20 : decode cX5_put 20 = .ok (.getfield 68, 3) := by decide +kernel
theorem dX5_put_23 : decode cX5_put 23 = .ok (.iastore, 1) := by decide +kernel
theorem dX5_put_24 : decode cX5_put 24 = .ok (.iconst 0, 1) := by decide +kernel
theorem dX5_put_25 : decode cX5_put 25 = .ok (.ireturn, 1) := by decide +kernel
theorem dX5_put_26 : decode cX5_put 26 = .ok (.aload_n 0, 1) := by decide +kernel
theorem dX5_put_27 : decode cX5_put 27 = .ok (.getfield 38, 3) := by decide +kernel
theorem dX5_put_30 : decode cX5_put 30 = .ok (.invokevirtual 121, 3) := by decide +kernel
theorem dX5_put_33 : decode cX5_put 33 = .ok (.ifCond .eq 7, 3) := by decide +kernel
theorem dX5_put_36 : decode cX5_put 36 = .ok (.iconst 1, 1) := by decide +kernel
theorem dX5_put_37 : decode cX5_put 37 = .ok (.goto 4, 3) := by decide +kernel
theorem dX5_put_40 : decode cX5_put 40 = .ok (.iconst 2, 1) := by decide +kernel
theorem dX5_put_41 : decode cX5_put 41 = .ok (.ireturn, 1) := by decide +kernel
theorem dX5_get_0 : decode cX5_get 0 = .ok (.aload_n 0, 1) := by decide +kernel
theorem dX5_get_1 : decode cX5_get 1 = .ok (.getfield 38, 3) := by decide +kernel
theorem dX5_get_4 : decode cX5_get 4 = .ok (.iload_n 1, 1) := by decide +kernel
theorem dX5_get_5 : decode cX5_get 5 = .ok (.invokevirtual 113, 3) := by decide +kernel
theorem dX5_get_8 : decode cX5_get 8 = .ok (.ifCond .eq 23, 3) := by decide +kernel
theorem dX5_get_11 : decode cX5_get 11 = .ok (.aload_n 0, 1) := by decide +kernel
theorem dX5_get_12 : decode cX5_get 12 = .ok (.dup, 1) := by decide +kernel
theorem dX5_get_13 : decode cX5_get 13 = .ok (.getfield 68, 3) := by decide +kernel
theorem dX5_get_16 : decode cX5_get 16 = .ok (.aload_n 0, 1) := by decide +kernel
theorem dX5_get_17 : decode cX5_get 17 = .ok (.getfield 38, 3) := by decide +kernel
theorem dX5_get_20 : decode cX5_get 20 = .ok (.getfield 117, 3) := by decide +kernel
theorem dX5_get_23 : decode cX5_get 23 = .ok (.iload_n 1, 1) := by decide +kernel
theorem dX5_get_24 : decode cX5_get 24 = .ok (.iaload, 1) := by decide +kernel
theorem dX5_get_25 : decode cX5_get 25 = .ok (.iadd, 1) := by decide +kernel
theorem dX5_get_26 : decode cX5_get 26 = .ok (.putfield 68, 3) := by decide +kernel
theorem dX5_get_29 : decode cX5_get 29 = .ok (.iconst 0, 1) := by decide +kernel
theorem dX5_get_30 : decode cX5_get 30 = .ok (.ireturn, 1) := by decide +kernel
theorem dX5_get_31 : decode cX5_get 31 = .ok (.aload_n 0, 1) := by decide +kernel
theorem dX5_get_32 : decode cX5_get 32 = .ok (.getfield 38, 3) := by decide +kernel
theorem dX5_get_35 : decode cX5_get 35 = .ok (.invokevirtual 121, 3) := by decide +kernel
theorem dX5_get_38 : decode cX5_get 38 = .ok (.ifCond .eq 7, 3) := by decide +kernel
theorem dX5_get_41 : decode cX5_get 41 = .ok (.iconst 1, 1) := by decide +kernel
theorem dX5_get_42 : decode cX5_get 42 = .ok (.goto 4, 3) := by decide +kernel
theorem dX5_get_45 : decode cX5_get 45 = .ok (.iconst 2, 1) := by decide +kernel
theorem dX5_get_46 : decode cX5_get 46 = .ok (.ireturn, 1) := by decide +kernel
theorem dX5_takeLetter_0 : decode cX5_takeLetter 0 = .ok (.aload_n 0, 1) := by decide +kernel
theorem dX5_takeLetter_1 : decode cX5_takeLetter 1 = .ok (.getfield 31, 3) := by decide +kernel
theorem dX5_takeLetter_4 : decode cX5_takeLetter 4 = .ok (.getfield 74, 3) := by decide +kernel
theorem dX5_takeLetter_7 : decode cX5_takeLetter 7 = .ok (.ifCond .le 21, 3) := by decide +kernel
theorem dX5_takeLetter_10 : decode cX5_takeLetter 10 = .ok (.aload_n 0, 1) := by decide +kernel
theorem dX5_takeLetter_11 : decode cX5_takeLetter 11 = .ok (.dup, 1) := by decide +kernel
theorem dX5_takeLetter_12 : decode cX5_takeLetter 12 = .ok (.getfield 68, 3) := by decide +kernel
theorem dX5_takeLetter_15 : decode cX5_takeLetter 15 = .ok (.aload_n 0, 1) := by decide +kernel
theorem dX5_takeLetter_16 : decode cX5_takeLetter 16 = .ok (.getfield 31, 3) := by decide +kernel
theorem dX5_takeLetter_19 : decode cX5_takeLetter 19 = .ok (.invokevirtual 125, 3) := by decide +kernel
theorem dX5_takeLetter_22 : decode cX5_takeLetter 22 = .ok (.iadd, 1) := by decide +kernel
theorem dX5_takeLetter_23 : decode cX5_takeLetter 23 = .ok (.putfield 68, 3) := by decide +kernel
theorem dX5_takeLetter_26 : decode cX5_takeLetter 26 = .ok (.iconst 0, 1) := by decide +kernel
theorem dX5_takeLetter_27 : decode cX5_takeLetter 27 = .ok (.ireturn, 1) := by decide +kernel
theorem dX5_takeLetter_28 : decode cX5_takeLetter 28 = .ok (.iload_n 1, 1) := by decide +kernel
theorem dX5_takeLetter_29 : decode cX5_takeLetter 29 = .ok (.ifCond .eq 6, 3) := by decide +kernel
theorem dX5_takeLetter_32 : decode cX5_takeLetter 32 = .ok (.bipush 9, 2) := by decide +kernel
theorem dX5_takeLetter_34 : decode cX5_takeLetter 34 = .ok (.ireturn, 1) := by decide +kernel
theorem dX5_takeLetter_35 : decode cX5_takeLetter 35 = .ok (.aload_n 0, 1) := by decide +kernel
theorem dX5_takeLetter_36 : decode cX5_takeLetter 36 = .ok (.iconst 2, 1) := by decide +kernel
theorem dX5_takeLetter_37 : decode cX5_takeLetter 37 = .ok (.putfield 56, 3) := by decide +kernel
theorem dX5_takeLetter_40 : decode cX5_takeLetter 40 = .ok (.iconst 0, 1) := by decide +kernel
theorem dX5_takeLetter_41 : decode cX5_takeLetter 41 = .ok (.ireturn, 1) := by decide +kernel
theorem dX5_waitFor_0 : decode cX5_waitFor 0 = .ok (.iload_n 1, 1) := by decide +kernel
theorem dX5_waitFor_1 : decode cX5_waitFor 1 = .ok (.ifCond .le 8, 3) := by decide +kernel
theorem dX5_waitFor_4 : decode cX5_waitFor 4 = .ok (.aload_n 0, 1) := by decide +kernel
theorem dX5_waitFor_5 : decode cX5_waitFor 5 = .ok (.iload_n 1, 1) := by decide +kernel
theorem dX5_waitFor_6 : decode cX5_waitFor 6 = .ok (.putfield 92, 3) := by decide +kernel
theorem dX5_waitFor_9 : decode cX5_waitFor 9 = .ok (.iconst 0, 1) := by decide +kernel
theorem dX5_waitFor_10 : decode cX5_waitFor 10 = .ok (.ireturn, 1) := by decide +kernel
theorem dX5_makeBox_0 : decode cX5_makeBox 0 = .ok (.aload_n 0, 1) := by decide +kernel
theorem dX5_makeBox_1 : decode cX5_makeBox 1 = .ok (.getfield 45, 3) := by decide +kernel
theorem dX5_makeBox_4 : decode cX5_makeBox 4 = .ok (.iload_n 1, 1) := by decide +kernel
theorem dX5_makeBox_5 : decode cX5_makeBox 5 = .ok (.invokevirtual 128, 3) := by decide +kernel
theorem dX5_makeBox_8 : decode cX5_makeBox 8 = .ok (.iconst 0, 1) := by decide +kernel
theorem dX5_makeBox_9 : decode cX5_makeBox 9 = .ok (.ireturn, 1) := by decide +kernel
theorem dX5_copyToBox_0 : decode cX5_copyToBox 0 = .ok (.aload_n 0, 1) := by decide +kernel
theorem dX5_copyToBox_1 : decode cX5_copyToBox 1 = .ok (.getfield 38, 3) := by decide +kernel
theorem dX5_copyToBox_4 : decode cX5_copyToBox 4 = .ok (.invokevirtual 121, 3) := by decide +kernel
theorem dX5_copyToBox_7 : decode cX5_copyToBox 7 = .ok (.ifCond .ne 13, 3) := by decide +kernel
theorem dX5_copyToBox_10 : decode cX5_copyToBox 10 = .ok (.aload_n 0, 1) := by decide +kernel
theorem dX5_copyToBox_11 : decode cX5_copyToBox 11 = .ok (.getfield 45, 3) := by decide +kernel
theorem dX5_copyToBox_14 : decode cX5_copyToBox 14 = .ok (.invokevirtual 129, 3) := by decide +kernel
theorem dX5_copyToBox_17 : decode cX5_copyToBox 17 = .ok (.ifCond .eq 5, 3) := by decide +kernel
theorem dX5_copyToBox_20 : decode cX5_copyToBox 20 = .ok (.iconst 1, 1) := by decide +kernel
theorem dX5_copyToBox_21 : decode cX5_copyToBox 21 = .ok (.ireturn, 1) := by decide +kernel
theorem dX5_copyToBox_22 : decode cX5_copyToBox 22 = .ok (.aload_n 0, 1) := by decide +kernel
theorem dX5_copyToBox_23 : decode cX5_copyToBox 23 = .ok (.getfield 45, 3) := by decide +kernel
theorem dX5_copyToBox_26 : decode cX5_copyToBox 26 = .ok (.getfield 86, 3) := by decide +kernel
theorem dX5_copyToBox_29 : decode cX5_copyToBox 29 = .ok (.ifCond .eq 5, 3) := by decide +kernel
theorem dX5_copyToBox_32 : decode cX5_copyToBox 32 = .ok (.iconst 3, 1) := by decide +kernel
theorem dX5_copyToBox_33 : decode cX5_copyToBox 33 = .ok (.ireturn, 1) := by decide +kernel
theorem dX5_copyToBox_34 : decode cX5_copyToBox 34 = .ok (.iload_n 1, 1) := by decide +kernel
theorem dX5_copyToBox_35 : decode cX5_copyToBox 35 = .ok (.ifCond .lt 19, 3) := by decide +kernel
theorem dX5_copyToBox_38 : decode cX5_copyToBox 38 = .ok (.iload_n 1, 1) := by decide +kernel
theorem dX5_copyToBox_39 : decode cX5_copyToBox 39 = .ok (.aload_n 0, 1) := by decide +kernel
theorem dX5_copyToBox_40 : decode cX5_copyToBox 40 = .ok (.getfield 38, 3) := by decide +kernel
theorem dX5_copyToBox_43 : decode cX5_copyToBox 43 = .ok (.getfield 83, 3) := by decide +kernel
theorem dX5_copyToBox_46 : decode cX5_copyToBox 46 = .ok (.if_icmp .gt 8, 3) := by decide +kernel
theorem dX5_copyToBox_49 : decode cX5_copyToBox 49 = .ok (.iload_n 1, 1) := by decide +kernel
theorem dX5_copyToBox_50 : decode cX5_copyToBox 50 = .ok (.iconst 3, 1) := by decide +kernel
theorem dX5_copyToBox_51 : decode cX5_copyToBox 51 = .ok (.if_icmp .le 5, 3) := by decide +kernel
theorem dX5_copyToBox_54 : decode cX5_copyToBox 54 = .ok (.iconst 2, 1) := by decide +kernel
theorem dX5_copyToBox_55 : decode cX5_copyToBox 55 = .ok (.ireturn, 1) := by decide +kernel
theorem dX5_copyToBox_56 : decode cX5_copyToBox 56 = .ok (.iconst 0, 1) := by decide +kernel
theorem dX5_copyToBox_57 : decode cX5_copyToBox 57 = .ok (.istore_n 2, 1) := by decide +kernel
theorem dX5_copyToBox_58 : decode cX5_copyToBox 58 = .ok (.iload_n 2, 1) := by decide +kernel
theorem dX5_copyToBox_59 : decode cX5_copyToBox 59 = .ok (.iload_n 1, 1) := by decide +kernel
theorem dX5_copyToBox_60 : decode cX5_copyToBox 60 = .ok (.if_icmp .ge 27, 3) := by decide +kernel
theorem dX5_copyToBox_63 : decode cX5_copyToBox 63 = .ok (.aload_n 0, 1) := by decide +kernel
theorem dX5_copyToBox_64 : decode cX5_copyToBox 64 = .ok (.getfield 45, 3) := by decide +kernel
theorem dX5_copyToBox_67 : decode cX5_copyToBox 67 = .ok (.getfield 130, 3) := by decide +kernel
theorem dX5_copyToBox_70 : decode cX5_copyToBox 70 = .ok (.iload_n 2, 1) := by decide +kernel
theorem dX5_copyToBox_71 : decode cX5_copyToBox 71 = .ok (.aload_n 0, 1) := by decide +kernel
theorem dX5_copyToBox_72 : decode cX5_copyToBox 72 = .ok (.getfield 38, 3) := by decide +kernel
theorem dX5_copyToBox_75 : decode cX5_copyToBox 75 = .ok (.getfield 117, 3) := by decide +kernel
theorem dX5_copyToBox_78 : decode cX5_copyToBox 78 = .ok (.iload_n 2, 1) := by decide +kernel
theorem dX5_copyToBox_79 : decode cX5_copyToBox 79 = .ok (.iaload, 1) := by decide +kernel
theorem dX5_copyToBox_80 : decode cX5_copyToBox 80 = .ok (.iastore, 1) := by decide +kernel
theorem dX5_copyToBox_81 : decode cX5_copyToBox 81 = .ok (.iinc 2 1, 3) := by decide +kernel
theorem dX5_copyToBox_84 : decode cX5_copyToBox 84 = .ok (.goto (-26), 3) := by decide +kernel
theorem dX5_copyToBox_87 : decode cX5_copyToBox 87 = .ok (.iconst 0, 1) := by decide +kernel
theorem dX5_copyToBox_88 : decode cX5_copyToBox 88 = .ok (.ireturn, 1) := by decide +kernel
theorem dX6_init_0 : decode cX6_init 0 = .ok (.aload_n 0, 1) := by decide +kernel
theorem dX6_init_1 : decode cX6_init 1 = .ok (.invokespecial 1, 3) := by decide +kernel
theorem dX6_init_4 : decode cX6_init 4 = .ok (.aload_n 0, 1) := by decide +kernel
theorem dX6_init_5 : decode cX6_init 5 = .ok (.bipush 12, 2) := by decide +kernel
theorem dX6_init_7 : decode cX6_init 7 = .ok (.anewarray 9, 3) := by decide +kernel
theorem dX6_init_10 : decode cX6_init 10 = .ok (.putfield 11, 3) := by decide +kernel
theorem dX6_init_13 : decode cX6_init 13 = .ok (.aload_n 0, 1) := by decide +kernel
theorem dX6_init_14 : decode cX6_init 14 = .ok (.bipush 12, 2) := by decide +kernel
theorem dX6_init_16 : decode cX6_init 16 = .ok (.newarray .int, 2) := by decide +kernel
theorem dX6_init_18 : decode cX6_init 18 = .ok (.putfield 15, 3) := by decide +kernel
theorem dX6_init_21 : decode cX6_init 21 = .ok (.aload_n 0, 1) := by decide +kernel
theorem dX6_init_22 : decode cX6_init 22 = .ok (.iconst 1, 1) := by decide +kernel
theorem dX6_init_23 : decode cX6_init 23 = .ok (.putfield 19, 3) := by decide +kernel
theorem dX6_init_26 : decode cX6_init 26 = .ok (.return_, 1) := by decide +kernel
theorem dX6_task_0 : decode cX6_task 0 = .ok (.iload_n 1, 1) := by decide +kernel
theorem dX6_task_1 : decode cX6_task 1 = .ok (.ifCond .lt 18, 3) := by decide +kernel
theorem dX6_task_4 : decode cX6_task 4 = .ok (.iload_n 1, 1) := by decide +kernel
theorem dX6_task_5 : decode cX6_task 5 = .ok (.iconst 4, 1) := by decide +kernel
theorem dX6_task_6 : decode cX6_task 6 = .ok (.if_icmp .gt 13, 3) := by decide +kernel
theorem dX6_task_9 : decode cX6_task 9 = .ok (.iload_n 2, 1) := by decide +kernel
theorem dX6_task_10 : decode cX6_task 10 = .ok (.ifCond .lt 9, 3) := by decide +kernel
theorem dX6_task_13 : decode cX6_task 13 = .ok (.iload_n 2, 1) := by decide +kernel
theorem dX6_task_14 : decode cX6_task 14 = .ok (.bipush 9, 2) := by decide +kernel
theorem dX6_task_16 : decode cX6_task 16 = .ok (.if_icmp .le 5, 3) := by decide +kernel
theorem dX6_task_19 : decode cX6_task 19 = .ok (.iconst (-1), 1) := by decide +kernel
theorem dX6_task_20 : decode cX6_task 20 = .ok (.ireturn, 1) := by decide +kernel
theorem dX6_task_21 : decode cX6_task 21 = .ok (.aload_n 0, 1) := by decide +kernel
theorem dX6_task_22 : decode cX6_task 22 = .ok (.getfield 23, 3) := by decide +kernel
theorem dX6_task_25 : decode cX6_task 25 = .ok (.aload_n 0, 1) := by decide +kernel
theorem dX6_task_26 : decode cX6_task 26 = .ok (.getfield 11, 3) := by decide +kernel
theorem dX6_task_29 : decode cX6_task 29 = .ok (.arraylength, 1) := by decide +kernel
theorem dX6_task_30 : decode cX6_task 30 = .ok (.if_icmp .lt 6, 3) := by decide +kernel
theorem dX6_task_33 : decode cX6_task 33 = .ok (.bipush (-3), 2) := by decide +kernel
theorem dX6_task_35 : decode cX6_task 35 = .ok (.ireturn, 1) := by decide +kernel
theorem dX6_task_36 : decode cX6_task 36 = .ok (.aload_n 0, 1) := by decide +kernel
theorem dX6_task_37 : decode cX6_task 37 = .ok (.getfield 23, 3) := by decide +kernel
theorem dX6_task_40 : decode cX6_task 40 = .ok (.istore_n 3, 1) := by decide +kernel
theorem dX6_task_41 : decode cX6_task 41 = .ok (.aload_n 0, 1) := by decide +kernel
theorem dX6_task_42 : decode cX6_task 42 = .ok (.getfield 11, 3) := by decide +kernel
theorem dX6_task_45 : decode cX6_task 45 = .ok (.iload_n 3, 1) := by decide +kernel
theorem dX6_task_46 : decode cX6_task 46 = .ok (.new 9, 3) := by decide +kernel
theorem dX6_task_49 : decode cX6_task 49 = .ok (.dup, 1) := by decide +kernel
theorem dX6_task_50 : decode cX6_task 50 = .ok (.iload_n 3, 1) := by decide +kernel
theorem dX6_task_51 : decode cX6_task 51 = .ok (.iload_n 1, 1) := by decide +kernel
theorem dX6_task_52 : decode cX6_task 52 = .ok (.iload_n 2, 1) := by decide +kernel
theorem dX6_task_53 : decode cX6_task 53 = .ok (.invokespecial 26, 3) := by decide +kernel
theorem dX6_task_56 : decode cX6_task 56 = .ok (.aastore, 1) := by decide +kernel
theorem dX6_task_57 : decode cX6_task 57 = .ok (.aload_n 0, 1) := by decide +kernel
theorem dX6_task_58 : decode cX6_task 58 = .ok (.dup, 1) := by decide +kernel
theorem dX6_task_59 : decode cX6_task 59 = .ok (.getfield 23, 3) := by decide +kernel
theorem dX6_task_62 : decode cX6_task 62 = .ok (.iconst 1, 1) := by decide +kernel
theorem dX6_task_63 : decode cX6_task 63 = .ok (.iadd, 1) := by decide +kernel
theorem dX6_task_64 : decode cX6_task 64 = .ok (.putfield 23, 3) := by decide +kernel
theorem dX6_task_67 : decode cX6_task 67 = .ok (.iload_n 3, 1) := by decide +kernel
theorem dX6_task_68 : decode cX6_task 68 = .ok (.ireturn, 1) := by decide +kernel
theorem dX6_act_0 : decode cX6_act 0 = .ok (.aload_n 0, 1) := by decide +kernel
theorem dX6_act_1 : decode cX6_act 1 = .ok (.iload_n 1, 1) := by decide +kernel
theorem dX6_act_2 : decode cX6_act 2 = .ok (.invokevirtual 29, 3) := by decide +kernel
theorem dX6_act_5 : decode cX6_act 5 = .ok (.astore 5, 2) := by decide +kernel
theorem dX6_act_7 : decode cX6_act 7 = .ok (.aload 5, 2) := by decide +kernel
theorem dX6_act_9 : decode cX6_act 9 = .ok (.ifnull 24, 3) := by decide +kernel
theorem dX6_act_12 : decode cX6_act 12 = .ok (.iload_n 2, 1) := by decide +kernel
theorem dX6_act_13 : decode cX6_act 13 = .ok (.ifCond .lt 20, 3) := by decide +kernel
theorem dX6_act_16 : decode cX6_act 16 = .ok (.iload_n 2, 1) := by decide +kernel
theorem dX6_act_17 : decode cX6_act 17 = .ok (.bipush 15, 2) := by decide +kernel
theorem dX6_act_19 : decode cX6_act 19 = .ok (.if_icmp .gt 14, 3) := by decide +kernel
theorem dX6_act_22 : decode cX6_act 22 = .ok (.iload_n 2, 1) := by decide +kernel
theorem dX6_act_23 : decode cX6_act 23 = .ok (.iconst 2, 1) := by decide +kernel
theorem dX6_act_24 : decode cX6_act 24 = .ok (.if_icmp .ne 11, 3) := by decide +kernel
theorem dX6_act_27 : decode cX6_act 27 = .ok (.iload_n 3, 1) := by decide +kernel
theorem dX6_act_28 : decode cX6_act 28 = .ok (.bipush 40, 2) := by decide +kernel
theorem dX6_act_30 : decode cX6_act 30 = .ok (.if_icmp .le 5, 3) := by decide +kernel
theorem dX6_act_33 : decode cX6_act 33 = .ok (.iconst (-1), 1) := by decide +kernel
theorem dX6_act_34 : decode cX6_act 34 = .ok (.ireturn, 1) := by decide +kernel
theorem dX6_act_35 : decode cX6_act 35 = .ok (.aload 5, 2) := by decide +kernel
theorem dX6_act_37 : decode cX6_act 37 = .ok (.getfield 33, 3) := by decide +kernel
theorem dX6_act_40 : decode cX6_act 40 = .ok (.ifCond .ne 11, 3) := by decide +kernel
theorem dX6_act_43 : decode cX6_act 43 = .ok (.aload 5, 2) := by decide +kernel
theorem dX6_act_45 : decode cX6_act 45 = .ok (.getfield 36, 3) := by decide +kernel
theorem dX6_act_48 : decode cX6_act 48 = .ok (.ifCond .eq 6, 3) := by decide +kernel
theorem dX6_act_51 : decode cX6_act 51 = .ok (.bipush (-2), 2) := by decide +kernel
theorem dX6_act_53 : decode cX6_act 53 = .ok (.ireturn, 1) := by decide +kernel
theorem dX6_act_54 : decode cX6_act 54 = .ok (.aload 5, 2) := by decide +kernel
theorem dX6_act_56 : decode cX6_act 56 = .ok (.getfield 40, 3) := by decide +kernel
theorem dX6_act_59 : decode cX6_act 59 = .ok (.iload_n 2, 1) := by decide +kernel
theorem dX6_act_60 : decode cX6_act 60 = .ok (.iload_n 3, 1) := by decide +kernel
theorem dX6_act_61 : decode cX6_act 61 = .ok (.iload 4, 2) := by decide +kernel
theorem dX6_act_63 : decode cX6_act 63 = .ok (.invokevirtual 44, 3) := by decide +kernel
theorem dX6_act_66 : decode cX6_act 66 = .ok (.ireturn, 1) := by decide +kernel
theorem dX6_workers_0 : decode cX6_workers 0 = .ok (.iload_n 1, 1) := by decide +kernel
theorem dX6_workers_1 : decode cX6_workers 1 = .ok (.iconst 1, 1) := by decide +kernel
theorem dX6_workers_2 : decode cX6_workers 2 = .ok (.if_icmp .lt 8, 3) := by decide +kernel
theorem dX6_workers_5 : decode cX6_workers 5 = .ok (.iload_n 1, 1) := by decide +kernel
theorem dX6_workers_6 : decode cX6_workers 6 = .ok (.iconst 4, 1) := by decide +kernel
theorem dX6_workers_7 : decode cX6_workers 7 = .ok (.if_icmp .le 5, 3) := by decide +kernel
theorem dX6_workers_10 : decode cX6_workers 10 = .ok (.iconst (-1), 1) := by decide +kernel
theorem dX6_workers_11 : decode cX6_workers 11 = .ok (.ireturn, 1) := by decide +kernel
theorem dX6_workers_12 : decode cX6_workers 12 = .ok (.aload_n 0, 1) := by decide +kernel
theorem dX6_workers_13 : decode cX6_workers 13 = .ok (.getfield 19, 3) := by decide +kernel
theorem dX6_workers_16 : decode cX6_workers 16 = .ok (.istore_n 2, 1) := by decide +kernel
theorem dX6_workers_17 : decode cX6_workers 17 = .ok (.aload_n 0, 1) := by decide +kernel
theorem dX6_workers_18 : decode cX6_workers 18 = .ok (.iload_n 1, 1) := by decide +kernel
theorem dX6_workers_19 : decode cX6_workers 19 = .ok (.putfield 19, 3) := by decide +kernel
theorem dX6_workers_22 : decode cX6_workers 22 = .ok (.iload_n 2, 1) := by decide +kernel
theorem dX6_workers_23 : decode cX6_workers 23 = .ok (.ireturn, 1) := by decide +kernel
theorem dX6_turn_0 : decode cX6_turn 0 = .ok (.iload_n 1, 1) := by decide +kernel
theorem dX6_turn_1 : decode cX6_turn 1 = .ok (.iconst 1, 1) := by decide +kernel
theorem dX6_turn_2 : decode cX6_turn 2 = .ok (.if_icmp .lt 9, 3) := by decide +kernel
theorem dX6_turn_5 : decode cX6_turn 5 = .ok (.iload_n 1, 1) := by decide +kernel
theorem dX6_turn_6 : decode cX6_turn 6 = .ok (.bipush 50, 2) := by decide +kernel
theorem dX6_turn_8 : decode cX6_turn 8 = .ok (.if_icmp .le 5, 3) := by decide +kernel
theorem dX6_turn_11 : decode cX6_turn 11 = .ok (.iconst (-1), 1) := by decide +kernel
theorem dX6_turn_12 : decode cX6_turn 12 = .ok (.ireturn, 1) := by decide +kernel
theorem dX6_turn_13 : decode cX6_turn 13 = .ok (.aload_n 0, 1) := by decide +kernel
theorem dX6_turn_14 : decode cX6_turn 14 = .ok (.getfield 50, 3) := by decide +kernel
theorem dX6_turn_17 : decode cX6_turn 17 = .ok (.istore_n 2, 1) := by decide +kernel
theorem dX6_turn_18 : decode cX6_turn 18 = .ok (.iconst 0, 1) := by decide +kernel
theorem dX6_turn_19 : decode cX6_turn 19 = .ok (.istore_n 3, 1) := by decide +kernel
theorem dX6_turn_20 : decode cX6_turn 20 = .ok (.iconst 0, 1) := by decide +kernel
theorem dX6_turn_21 : decode cX6_turn 21 = .ok (.istore 4, 2) := by decide +kernel
theorem dX6_turn_23 : decode cX6_turn 23 = .ok (.iload 4, 2) := by decide +kernel
theorem dX6_turn_25 : decode cX6_turn 25 = .ok (.iload_n 1, 1) := by decide +kernel
theorem dX6_turn_26 : decode cX6_turn 26 = .ok (.if_icmp .ge 38, 3) := by decide +kernel
theorem dX6_turn_29 : decode cX6_turn 29 = .ok (.iload_n 3, 1) := by decide +kernel
theorem dX6_turn_30 : decode cX6_turn 30 = .ok (.ifCond .ne 34, 3) := by decide +kernel
theorem dX6_turn_33 : decode cX6_turn 33 = .ok (.aload_n 0, 1) := by decide +kernel
theorem dX6_turn_34 : decode cX6_turn 34 = .ok (.getfield 50, 3) := by decide +kernel
theorem dX6_turn_37 : decode cX6_turn 37 = .ok (.istore 5, 2) := by decide +kernel
theorem dX6_turn_39 : decode cX6_turn 39 = .ok (.aload_n 0, 1) := by decide +kernel
theorem dX6_turn_40 : decode cX6_turn 40 = .ok (.invokevirtual 53, 3) := by decide +kernel
theorem dX6_turn_43 : decode cX6_turn 43 = .ok (.aload_n 0, 1) := by decide +kernel
theorem dX6_turn_44 : decode cX6_turn 44 = .ok (.getfield 50, 3) := by decide +kernel
theorem dX6_turn_47 : decode cX6_turn 47 = .ok (.iload 5, 2) := by decide +kernel
theorem dX6_turn_49 : decode cX6_turn 49 = .ok (.if_icmp .ne 7, 3) := by decide +kernel
theorem dX6_turn_52 : decode cX6_turn 52 = .ok (.iconst 1, 1) := by decide +kernel
theorem dX6_turn_53 : decode cX6_turn 53 = .ok (.goto 4, 3) := by decide +kernel
theorem dX6_turn_56 : decode cX6_turn 56 = .ok (.iconst 0, 1) := by decide +kernel
theorem dX6_turn_57 : decode cX6_turn 57 = .ok (.istore_n 3, 1) := by decide +kernel
theorem dX6_turn_58 : decode cX6_turn 58 = .ok (.iinc 4 1, 3) := by decide +kernel
theorem dX6_turn_61 : decode cX6_turn 61 = .ok (.goto (-38), 3) := by decide +kernel
theorem dX6_turn_64 : decode cX6_turn 64 = .ok (.aload_n 0, 1) := by decide +kernel
theorem dX6_turn_65 : decode cX6_turn 65 = .ok (.getfield 50, 3) := by decide +kernel
theorem dX6_turn_68 : decode cX6_turn 68 = .ok (.iload_n 2, 1) := by decide +kernel
theorem dX6_turn_69 : decode cX6_turn 69 = .ok (.isub, 1) := by decide +kernel
theorem dX6_turn_70 : decode cX6_turn 70 = .ok (.ireturn, 1) := by decide +kernel
theorem dX6_letter_0 : decode cX6_letter 0 = .ok (.aload_n 0, 1) := by decide +kernel
theorem dX6_letter_1 : decode cX6_letter 1 = .ok (.iload_n 1, 1) := by decide +kernel
theorem dX6_letter_2 : decode cX6_letter 2 = .ok (.invokevirtual 29, 3) := by decide +kernel
theorem dX6_letter_5 : decode cX6_letter 5 = .ok (.astore_n 3, 1) := by decide +kernel
theorem dX6_letter_6 : decode cX6_letter 6 = .ok (.aload_n 3, 1) := by decide +kernel
theorem dX6_letter_7 : decode cX6_letter 7 = .ok (.ifnonnull 5, 3) := by decide +kernel
theorem dX6_letter_10 : decode cX6_letter 10 = .ok (.iconst (-1), 1) := by decide +kernel
theorem dX6_letter_11 : decode cX6_letter 11 = .ok (.ireturn, 1) := by decide +kernel
theorem dX6_letter_12 : decode cX6_letter 12 = .ok (.aload_n 3, 1) := by decide +kernel
theorem dX6_letter_13 : decode cX6_letter 13 = .ok (.invokevirtual 56, 3) := by decide +kernel
theorem dX6_letter_16 : decode cX6_letter 16 = .ok (.ifCond .eq 6, 3) := by decide +kernel
theorem dX6_letter_19 : decode cX6_letter 19 = .ok (.bipush (-2), 2) := by decide +kernel
theorem dX6_letter_21 : decode cX6_letter 21 = .ok (.ireturn, 1) := by decide +kernel
theorem dX6_letter_22 : decode cX6_letter 22 = .ok (.aload_n 3, 1) := by decide +kernel
theorem dX6_letter_23 : decode cX6_letter 23 = .ok (.getfield 60, 3) := by decide +kernel
theorem dX6_letter_26 : decode cX6_letter 26 = .ok (.invokevirtual 64, 3) := by decide +kernel
theorem dX6_letter_29 : decode cX6_letter 29 = .ok (.ifCond .eq 6, 3) := by decide +kernel
theorem dX6_letter_32 : decode cX6_letter 32 = .ok (.bipush (-3), 2) := by decide +kernel
theorem dX6_letter_34 : decode cX6_letter 34 = .ok (.ireturn, 1) := by decide +kernel
theorem dX6_letter_35 : decode cX6_letter 35 = .ok (.aload_n 3, 1) := by decide +kernel
theorem dX6_letter_36 : decode cX6_letter 36 = .ok (.getfield 60, 3) := by decide +kernel
theorem dX6_letter_39 : decode cX6_letter 39 = .ok (.iload_n 2, 1) := by decide +kernel
theorem dX6_letter_40 : decode cX6_letter 40 = .ok (.invokevirtual 69, 3) := by decide +kernel
theorem dX6_letter_43 : decode cX6_letter 43 = .ok (.aload_n 3, 1) := by decide +kernel
theorem dX6_letter_44 : decode cX6_letter 44 = .ok (.getfield 60, 3) := by decide +kernel
theorem dX6_letter_47 : decode cX6_letter 47 = .ok (.getfield 72, 3) := by decide +kernel
theorem dX6_letter_50 : decode cX6_letter 50 = .ok (.ireturn, 1) := by decide +kernel
theorem dX6_stop_0 : decode cX6_stop 0 = .ok (.aload_n 0, 1) := by decide +kernel
theorem dX6_stop_1 : decode cX6_stop 1 = .ok (.iload_n 1, 1) := by decide +kernel
theorem dX6_stop_2 : decode cX6_stop 2 = .ok (.invokevirtual 29, 3) := by decide +kernel
theorem dX6_stop_5 : decode cX6_stop 5 = .ok (.astore_n 2, 1) := by decide +kernel
theorem dX6_stop_6 : decode cX6_stop 6 = .ok (.aload_n 2, 1) := by decide +kernel
theorem dX6_stop_7 : decode cX6_stop 7 = .ok (.ifnonnull 5, 3) := by decide +kernel
theorem dX6_stop_10 : decode cX6_stop 10 = .ok (.iconst (-1), 1) := by decide +kernel
theorem dX6_stop_11 : decode cX6_stop 11 = .ok (.ireturn, 1) := by decide +kernel
theorem dX6_stop_12 : decode cX6_stop 12 = .ok (.aload_n 2, 1) := by decide +kernel
theorem dX6_stop_13 : decode cX6_stop 13 = .ok (.invokevirtual 56, 3) := by decide +kernel
theorem dX6_stop_16 : decode cX6_stop 16 = .ok (.ifCond .eq 6, 3) := by decide +kernel
theorem dX6_stop_19 : decode cX6_stop 19 = .ok (.bipush (-2), 2) := by decide +kernel
theorem dX6_stop_21 : decode cX6_stop 21 = .ok (.ireturn, 1) := by decide +kernel
theorem dX6_stop_22 : decode cX6_stop 22 = .ok (.aload_n 2, 1) := by decide +kernel
theorem dX6_stop_23 : decode cX6_stop 23 = .ok (.iconst 5, 1) := by decide +kernel
theorem dX6_stop_24 : decode cX6_stop 24 = .ok (.putfield 33, 3) := by decide +kernel
theorem dX6_stop_27 : decode cX6_stop 27 = .ok (.iconst 1, 1) := by decide +kernel
theorem dX6_stop_28 : decode cX6_stop 28 = .ok (.ireturn, 1) := by decide +kernel
theorem dX6_again_0 : decode cX6_again 0 = .ok (.aload_n 0, 1) := by decide +kernel
theorem dX6_again_1 : decode cX6_again 1 = .ok (.iload_n 1, 1) := by decide +kernel
theorem dX6_again_2 : decode cX6_again 2 = .ok (.invokevirtual 29, 3) := by decide +kernel
theorem dX6_again_5 : decode cX6_again 5 = .ok (.astore_n 2, 1) := by decide +kernel
theorem dX6_again_6 : decode cX6_again 6 = .ok (.aload_n 2, 1) := by decide +kernel
theorem dX6_again_7 : decode cX6_again 7 = .ok (.ifnonnull 5, 3) := by decide +kernel
theorem dX6_again_10 : decode cX6_again 10 = .ok (.iconst (-1), 1) := by decide +kernel
theorem dX6_again_11 : decode cX6_again 11 = .ok (.ireturn, 1) := by decide +kernel
theorem dX6_again_12 : decode cX6_again 12 = .ok (.aload_n 2, 1) := by decide +kernel
theorem dX6_again_13 : decode cX6_again 13 = .ok (.getfield 33, 3) := by decide +kernel
theorem dX6_again_16 : decode cX6_again 16 = .ok (.iconst 4, 1) := by decide +kernel
theorem dX6_again_17 : decode cX6_again 17 = .ok (.if_icmp .eq 14, 3) := by decide +kernel
theorem dX6_again_20 : decode cX6_again 20 = .ok (.aload_n 2, 1) := by decide +kernel
theorem dX6_again_21 : decode cX6_again 21 = .ok (.getfield 33, 3) := by decide +kernel
theorem dX6_again_24 : decode cX6_again 24 = .ok (.iconst 5, 1) := by decide +kernel
theorem dX6_again_25 : decode cX6_again 25 = .ok (.if_icmp .eq 6, 3) := by decide +kernel
theorem dX6_again_28 : decode cX6_again 28 = .ok (.bipush (-2), 2) := by decide +kernel
theorem dX6_again_30 : decode cX6_again 30 = .ok (.ireturn, 1) := by decide +kernel
theorem dX6_again_31 : decode cX6_again 31 = .ok (.aload_n 2, 1) := by decide +kernel
theorem dX6_again_32 : decode cX6_again 32 = .ok (.iconst 0, 1) := by decide +kernel
theorem dX6_again_33 : decode cX6_again 33 = .ok (.putfield 33, 3) := by decide +kernel
theorem dX6_again_36 : decode cX6_again 36 = .ok (.aload_n 2, 1) := by decide +kernel
theorem dX6_again_37 : decode cX6_again 37 = .ok (.invokevirtual 75, 3) := by decide +kernel
theorem dX6_again_40 : decode cX6_again 40 = .ok (.iconst 1, 1) := by decide +kernel
theorem dX6_again_41 : decode cX6_again 41 = .ok (.ireturn, 1) := by decide +kernel
theorem dX6_of_0 : decode cX6_of 0 = .ok (.aload_n 0, 1) := by decide +kernel
theorem dX6_of_1 : decode cX6_of 1 = .ok (.iload_n 1, 1) := by decide +kernel
theorem dX6_of_2 : decode cX6_of 2 = .ok (.invokevirtual 29, 3) := by decide +kernel
theorem dX6_of_5 : decode cX6_of 5 = .ok (.astore_n 3, 1) := by decide +kernel
theorem dX6_of_6 : decode cX6_of 6 = .ok (.aload_n 3, 1) := by decide +kernel
theorem dX6_of_7 : decode cX6_of 7 = .ok (.ifnonnull 7, 3) := by decide +kernel
theorem dX6_of_10 : decode cX6_of 10 = .ok (.iconst (-1), 1) := by decide +kernel
theorem dX6_of_11 : decode cX6_of 11 = .ok (.goto 8, 3) := by decide +kernel
theorem dX6_of_14 : decode cX6_of 14 = .ok (.aload_n 3, 1) := by decide +kernel
theorem dX6_of_15 : decode cX6_of 15 = .ok (.iload_n 2, 1) := by decide +kernel
theorem dX6_of_16 : decode cX6_of 16 = .ok (.invokevirtual 78, 3) := by decide +kernel
theorem dX6_of_19 : decode cX6_of 19 = .ok (.ireturn, 1) := by decide +kernel
theorem dX6_at_0 : decode cX6_at 0 = .ok (.aload_n 0, 1) := by decide +kernel
theorem dX6_at_1 : decode cX6_at 1 = .ok (.iload_n 1, 1) := by decide +kernel
theorem dX6_at_2 : decode cX6_at 2 = .ok (.invokevirtual 29, 3) := by decide +kernel
theorem dX6_at_5 : decode cX6_at 5 = .ok (.astore 4, 2) := by decide +kernel
theorem dX6_at_7 : decode cX6_at 7 = .ok (.aload 4, 2) := by decide +kernel
theorem dX6_at_9 : decode cX6_at 9 = .ok (.ifnonnull 5, 3) := by decide +kernel
theorem dX6_at_12 : decode cX6_at 12 = .ok (.iconst (-1), 1) := by decide +kernel
theorem dX6_at_13 : decode cX6_at 13 = .ok (.ireturn, 1) := by decide +kernel
theorem dX6_at_14 : decode cX6_at 14 = .ok (.iload_n 2, 1) := by decide +kernel
theorem dX6_at_15 : decode cX6_at 15 = .ok (.ifCond .eq 30, 3) := by decide +kernel
theorem dX6_at_18 : decode cX6_at 18 = .ok (.aload 4, 2) := by decide +kernel
theorem dX6_at_20 : decode cX6_at 20 = .ok (.getfield 82, 3) := by decide +kernel
theorem dX6_at_23 : decode cX6_at 23 = .ok (.iload_n 3, 1) := by decide +kernel
theorem dX6_at_24 : decode cX6_at 24 = .ok (.invokevirtual 86, 3) := by decide +kernel
theorem dX6_at_27 : decode cX6_at 27 = .ok (.ifCond .eq 16, 3) := by decide +kernel
theorem dX6_at_30 : decode cX6_at 30 = .ok (.aload 4, 2) := by decide +kernel
theorem dX6_at_32 : decode cX6_at 32 = .ok (.getfield 82, 3) := by decide +kernel
theorem dX6_at_35 : decode cX6_at 35 = .ok (.getfield 92, 3) := by decide +kernel
theorem dX6_at_38 : decode cX6_at 38 = .ok (.iload_n 3, 1) := by decide +kernel
theorem dX6_at_39 : decode cX6_at 39 = .ok (.iaload, 1) := by decide +kernel
theorem dX6_at_40 : decode cX6_at 40 = .ok (.goto 4, 3) := by decide +kernel
theorem dX6_at_43 : decode cX6_at 43 = .ok (.iconst (-1), 1) := by decide +kernel
theorem dX6_at_44 : decode cX6_at 44 = .ok (.ireturn, 1) := by decide +kernel
theorem dX6_at_45 : decode cX6_at 45 = .ok (.aload 4, 2) := by decide +kernel
theorem dX6_at_47 : decode cX6_at 47 = .ok (.getfield 95, 3) := by decide +kernel
theorem dX6_at_50 : decode cX6_at 50 = .ok (.iload_n 3, 1) := by decide +kernel
theorem dX6_at_51 : decode cX6_at 51 = .ok (.invokevirtual 99, 3) := by decide +kernel
theorem dX6_at_54 : decode cX6_at 54 = .ok (.ifCond .eq 16, 3) := by decide +kernel
theorem dX6_at_57 : decode cX6_at 57 = .ok (.aload 4, 2) := by decide +kernel
theorem dX6_at_59 : decode cX6_at 59 = .ok (.getfield 95, 3) := by decide +kernel
theorem dX6_at_62 : decode cX6_at 62 = .ok (.getfield 102, 3) := by decide +kernel
theorem dX6_at_65 : decode cX6_at 65 = .ok (.iload_n 3, 1) := by decide +kernel
theorem dX6_at_66 : decode cX6_at 66 = .ok (.iaload, 1) := by decide +kernel
theorem dX6_at_67 : decode cX6_at 67 = .ok (.goto 4, 3) := by decide +kernel
theorem dX6_at_70 : decode cX6_at 70 = .ok (.iconst (-1), 1) := by decide +kernel
theorem dX6_at_71 : decode cX6_at 71 = .ok (.ireturn, 1) := by decide +kernel
theorem dX6_letterAt_0 : decode cX6_letterAt 0 = .ok (.aload_n 0, 1) := by decide +kernel
theorem dX6_letterAt_1 : decode cX6_letterAt 1 = .ok (.iload_n 1, 1) := by decide +kernel
theorem dX6_letterAt_2 : decode cX6_letterAt 2 = .ok (.invokevirtual 29, 3) := by decide +kernel
theorem dX6_letterAt_5 : decode cX6_letterAt 5 = .ok (.astore_n 3, 1) := by decide +kernel
theorem dX6_letterAt_6 : decode cX6_letterAt 6 = .ok (.aload_n 3, 1) := by decide +kernel
theorem dX6_letterAt_7 : decode cX6_letterAt 7 = .ok (.ifnull 26, 3) := by decide +kernel
theorem dX6_letterAt_10 : decode cX6_letterAt 10 = .ok (.aload_n 3, 1) := by decide +kernel
theorem dX6_letterAt_11 : decode cX6_letterAt 11 = .ok (.getfield 60, 3) := by decide +kernel
theorem dX6_letterAt_14 : decode cX6_letterAt 14 = .ok (.iload_n 2, 1) := by decide +kernel
theorem dX6_letterAt_15 : decode cX6_letterAt 15 = .ok (.invokevirtual 105, 3) := by decide +kernel
theorem dX6_letterAt_18 : decode cX6_letterAt 18 = .ok (.ifCond .eq 15, 3) := by decide +kernel
theorem dX6_letterAt_21 : decode cX6_letterAt 21 = .ok (.aload_n 3, 1) := by decide +kernel
theorem dX6_letterAt_22 : decode cX6_letterAt 22 = .ok (.getfield 60, 3) := by decide +kernel
theorem dX6_letterAt_25 : decode cX6_letterAt 25 = .ok (.getfield 106, 3) := by decide +kernel
theorem dX6_letterAt_28 : decode cX6_letterAt 28 = .ok (.iload_n 2, 1) := by decide +kernel
theorem dX6_letterAt_29 : decode cX6_letterAt 29 = .ok (.iaload, 1) := by decide +kernel
theorem dX6_letterAt_30 : decode cX6_letterAt 30 = .ok (.goto 4, 3) := by decide +kernel
theorem dX6_letterAt_33 : decode cX6_letterAt 33 = .ok (.iconst (-1), 1) := by decide +kernel
theorem dX6_letterAt_34 : decode cX6_letterAt 34 = .ok (.ireturn, 1) := by decide +kernel
theorem dX6_count_0 : decode cX6_count 0 = .ok (.iload_n 1, 1) := by decide +kernel
theorem dX6_count_1 : decode cX6_count 1 = .ok (.tableswitch 92 0 6 #[43, 50, 57, 64, 71, 78, 85], 43) := by decide +kernel
theorem dX6_count_44 : decode cX6_count 44 = .ok (.aload_n 0, 1) := by decide +kernel
theorem dX6_count_45 : decode cX6_count 45 = .ok (.getfield 23, 3) := by decide +kernel
theorem dX6_count_48 : decode cX6_count 48 = .ok (.goto 46, 3) := by decide +kernel
theorem dX6_count_51 : decode cX6_count 51 = .ok (.aload_n 0, 1) := by decide +kernel
theorem dX6_count_52 : decode cX6_count 52 = .ok (.getfield 109, 3) := by decide +kernel
theorem dX6_count_55 : decode cX6_count 55 = .ok (.goto 39, 3) := by decide +kernel
theorem dX6_count_58 : decode cX6_count 58 = .ok (.aload_n 0, 1) := by decide +kernel
theorem dX6_count_59 : decode cX6_count 59 = .ok (.getfield 50, 3) := by decide +kernel
theorem dX6_count_62 : decode cX6_count 62 = .ok (.goto 32, 3) := by decide +kernel
theorem dX6_count_65 : decode cX6_count 65 = .ok (.aload_n 0, 1) := by decide +kernel
theorem dX6_count_66 : decode cX6_count 66 = .ok (.getfield 112, 3) := by decide +kernel
theorem dX6_count_69 : decode cX6_count 69 = .ok (.goto 25, 3) := by decide +kernel
theorem dX6_count_72 : decode cX6_count 72 = .ok (.aload_n 0, 1) := by decide +kernel
theorem dX6_count_73 : decode cX6_count 73 = .ok (.getfield 115, 3) := by decide +kernel
theorem dX6_count_76 : decode cX6_count 76 = .ok (.goto 18, 3) := by decide +kernel
theorem dX6_count_79 : decode cX6_count 79 = .ok (.aload_n 0, 1) := by decide +kernel
theorem dX6_count_80 : decode cX6_count 80 = .ok (.getfield 118, 3) := by decide +kernel
theorem dX6_count_83 : decode cX6_count 83 = .ok (.goto 11, 3) := by decide +kernel
theorem dX6_count_86 : decode cX6_count 86 = .ok (.aload_n 0, 1) := by decide +kernel
theorem dX6_count_87 : decode cX6_count 87 = .ok (.invokevirtual 121, 3) := by decide +kernel
theorem dX6_count_90 : decode cX6_count 90 = .ok (.goto 4, 3) := by decide +kernel
theorem dX6_count_93 : decode cX6_count 93 = .ok (.iconst (-1), 1) := by decide +kernel
theorem dX6_count_94 : decode cX6_count 94 = .ok (.ireturn, 1) := by decide +kernel
theorem dX6_done_0 : decode cX6_done 0 = .ok (.iload_n 1, 1) := by decide +kernel
theorem dX6_done_1 : decode cX6_done 1 = .ok (.ifCond .lt 29, 3) := by decide +kernel
theorem dX6_done_4 : decode cX6_done 4 = .ok (.iload_n 1, 1) := by decide +kernel
theorem dX6_done_5 : decode cX6_done 5 = .ok (.aload_n 0, 1) := by decide +kernel
theorem dX6_done_6 : decode cX6_done 6 = .ok (.getfield 125, 3) := by decide +kernel
theorem dX6_done_9 : decode cX6_done 9 = .ok (.if_icmp .ge 21, 3) := by decide +kernel
theorem dX6_done_12 : decode cX6_done 12 = .ok (.iload_n 1, 1) := by decide +kernel
theorem dX6_done_13 : decode cX6_done 13 = .ok (.aload_n 0, 1) := by decide +kernel
theorem dX6_done_14 : decode cX6_done 14 = .ok (.getfield 15, 3) := by decide +kernel
theorem dX6_done_17 : decode cX6_done 17 = .ok (.arraylength, 1) := by decide +kernel
theorem dX6_done_18 : decode cX6_done 18 = .ok (.if_icmp .ge 12, 3) := by decide +kernel
theorem dX6_done_21 : decode cX6_done 21 = .ok (.aload_n 0, 1) := by decide +kernel
theorem dX6_done_22 : decode cX6_done 22 = .ok (.getfield 15, 3) := by decide +kernel
theorem dX6_done_25 : decode cX6_done 25 = .ok (.iload_n 1, 1) := by decide +kernel
theorem dX6_done_26 : decode cX6_done 26 = .ok (.iaload, 1) := by decide +kernel
theorem dX6_done_27 : decode cX6_done 27 = .ok (.goto 5, 3) := by decide +kernel
theorem dX6_done_30 : decode cX6_done 30 = .ok (.bipush (-4), 2) := by decide +kernel
theorem dX6_done_32 : decode cX6_done 32 = .ok (.ireturn, 1) := by decide +kernel
theorem dX6_find_0 : decode cX6_find 0 = .ok (.iload_n 1, 1) := by decide +kernel
theorem dX6_find_1 : decode cX6_find 1 = .ok (.ifCond .lt 21, 3) := by decide +kernel
theorem dX6_find_4 : decode cX6_find 4 = .ok (.iload_n 1, 1) := by decide +kernel
theorem dX6_find_5 : decode cX6_find 5 = .ok (.aload_n 0, 1) := by decide +kernel
theorem dX6_find_6 : decode cX6_find 6 = .ok (.getfield 11, 3) := by decide +kernel
theorem dX6_find_9 : decode cX6_find 9 = .ok (.arraylength, 1) := by decide +kernel
theorem dX6_find_10 : decode cX6_find 10 = .ok (.if_icmp .ge 12, 3) := by decide +kernel
theorem dX6_find_13 : decode cX6_find 13 = .ok (.aload_n 0, 1) := by decide +kernel
theorem dX6_find_14 : decode cX6_find 14 = .ok (.getfield 11, 3) := by decide +kernel
theorem dX6_find_17 : decode cX6_find 17 = .ok (.iload_n 1, 1) := by decide +kernel
theorem dX6_find_18 : decode cX6_find 18 = .ok (.aaload, 1) := by decide +kernel
theorem dX6_find_19 : decode cX6_find 19 = .ok (.goto 4, 3) := by decide +kernel
theorem dX6_find_22 : decode cX6_find 22 = .ok (.aconst_null, 1) := by decide +kernel
theorem dX6_find_23 : decode cX6_find 23 = .ok (.areturn, 1) := by decide +kernel
theorem dX6_countGoingOn_0 : decode cX6_countGoingOn 0 = .ok (.iconst 0, 1) := by decide +kernel
theorem dX6_countGoingOn_1 : decode cX6_countGoingOn 1 = .ok (.istore_n 1, 1) := by decide +kernel
theorem dX6_countGoingOn_2 : decode cX6_countGoingOn 2 = .ok (.iconst 0, 1) := by decide +kernel
theorem dX6_countGoingOn_3 : decode cX6_countGoingOn 3 = .ok (.istore_n 2, 1) := by decide +kernel
theorem dX6_countGoingOn_4 : decode cX6_countGoingOn 4 = .ok (.iload_n 2, 1) := by decide +kernel
theorem dX6_countGoingOn_5 : decode cX6_countGoingOn 5 = .ok (.aload_n 0, 1) := by decide +kernel
theorem dX6_countGoingOn_6 : decode cX6_countGoingOn 6 = .ok (.getfield 11, 3) := by decide +kernel
theorem dX6_countGoingOn_9 : decode cX6_countGoingOn 9 = .ok (.arraylength, 1) := by decide +kernel
theorem dX6_countGoingOn_10 : decode cX6_countGoingOn 10 = .ok (.if_icmp .ge 30, 3) := by decide +kernel
theorem dX6_countGoingOn_13 : decode cX6_countGoingOn 13 = .ok (.aload_n 0, 1) := by decide +kernel
theorem dX6_countGoingOn_14 : decode cX6_countGoingOn 14 = .ok (.getfield 11, 3) := by decide +kernel
theorem dX6_countGoingOn_17 : decode cX6_countGoingOn 17 = .ok (.iload_n 2, 1) := by decide +kernel
theorem dX6_countGoingOn_18 : decode cX6_countGoingOn 18 = .ok (.aaload, 1) := by decide +kernel
theorem dX6_countGoingOn_19 : decode cX6_countGoingOn 19 = .ok (.astore_n 3, 1) := by decide +kernel
theorem dX6_countGoingOn_20 : decode cX6_countGoingOn 20 = .ok (.aload_n 3, 1) := by decide +kernel
theorem dX6_countGoingOn_21 : decode cX6_countGoingOn 21 = .ok (.ifnull 13, 3) := by decide +kernel
theorem dX6_countGoingOn_24 : decode cX6_countGoingOn 24 = .ok (.aload_n 3, 1) := by decide +kernel
theorem dX6_countGoingOn_25 : decode cX6_countGoingOn 25 = .ok (.invokevirtual 56, 3) := by decide +kernel
theorem dX6_countGoingOn_28 : decode cX6_countGoingOn 28 = .ok (.ifCond .ne 6, 3) := by decide +kernel
theorem dX6_countGoingOn_31 : decode cX6_countGoingOn 31 = .ok (.iinc 1 1, 3) := by decide +kernel
theorem dX6_countGoingOn_34 : decode cX6_countGoingOn 34 = .ok (.iinc 2 1, 3) := by decide +kernel
theorem dX6_countGoingOn_37 : decode cX6_countGoingOn 37 = .ok (.goto (-33), 3) := by decide +kernel
theorem dX6_countGoingOn_40 : decode cX6_countGoingOn 40 = .ok (.iload_n 1, 1) := by decide +kernel
theorem dX6_countGoingOn_41 : decode cX6_countGoingOn 41 = .ok (.ireturn, 1) := by decide +kernel
theorem dX6_doTurn_0 : decode cX6_doTurn 0 = .ok (.aload_n 0, 1) := by decide +kernel
theorem dX6_doTurn_1 : decode cX6_doTurn 1 = .ok (.dup, 1) := by decide +kernel
theorem dX6_doTurn_2 : decode cX6_doTurn 2 = .ok (.getfield 109, 3) := by decide +kernel
theorem dX6_doTurn_5 : decode cX6_doTurn 5 = .ok (.iconst 1, 1) := by decide +kernel
theorem dX6_doTurn_6 : decode cX6_doTurn 6 = .ok (.iadd, 1) := by decide +kernel
theorem dX6_doTurn_7 : decode cX6_doTurn 7 = .ok (.putfield 109, 3) := by decide +kernel
theorem dX6_doTurn_10 : decode cX6_doTurn 10 = .ok (.aload_n 0, 1) := by decide +kernel
theorem dX6_doTurn_11 : decode cX6_doTurn 11 = .ok (.invokevirtual 128, 3) := by decide +kernel
theorem dX6_doTurn_14 : decode cX6_doTurn 14 = .ok (.iconst 0, 1) := by decide +kernel
theorem dX6_doTurn_15 : decode cX6_doTurn 15 = .ok (.istore_n 1, 1) := by decide +kernel
theorem dX6_doTurn_16 : decode cX6_doTurn 16 = .ok (.iload_n 1, 1) := by decide +kernel
theorem dX6_doTurn_17 : decode cX6_doTurn 17 = .ok (.aload_n 0, 1) := by decide +kernel
theorem dX6_doTurn_18 : decode cX6_doTurn 18 = .ok (.getfield 19, 3) := by decide +kernel
theorem dX6_doTurn_21 : decode cX6_doTurn 21 = .ok (.if_icmp .ge 23, 3) := by decide +kernel
theorem dX6_doTurn_24 : decode cX6_doTurn 24 = .ok (.aload_n 0, 1) := by decide +kernel
theorem dX6_doTurn_25 : decode cX6_doTurn 25 = .ok (.invokevirtual 131, 3) := by decide +kernel
theorem dX6_doTurn_28 : decode cX6_doTurn 28 = .ok (.astore_n 2, 1) := by decide +kernel
theorem dX6_doTurn_29 : decode cX6_doTurn 29 = .ok (.aload_n 2, 1) := by decide +kernel
theorem dX6_doTurn_30 : decode cX6_doTurn 30 = .ok (.ifnull 8, 3) := by decide +kernel
theorem dX6_doTurn_33 : decode cX6_doTurn 33 = .ok (.aload_n 0, 1) := by decide +kernel
theorem dX6_doTurn_34 : decode cX6_doTurn 34 = .ok (.aload_n 2, 1) := by decide +kernel
theorem dX6_doTurn_35 : decode cX6_doTurn 35 = .ok (.invokevirtual 135, 3) := by decide +kernel
theorem dX6_doTurn_38 : decode cX6_doTurn 38 = .ok (.iinc 1 1, 3) := by decide +kernel
theorem dX6_doTurn_41 : decode cX6_doTurn 41 = .ok (.goto (-25), 3) := by decide +kernel
theorem dX6_doTurn_44 : decode cX6_doTurn 44 = .ok (.aload_n 0, 1) := by decide +kernel
theorem dX6_doTurn_45 : decode cX6_doTurn 45 = .ok (.invokevirtual 139, 3) := by decide +kernel
theorem dX6_doTurn_48 : decode cX6_doTurn 48 = .ok (.return_, 1) := by decide +kernel
theorem dX6_wakeTasks_0 : decode cX6_wakeTasks 0 = .ok (.iconst 0, 1) := by decide +kernel
theorem dX6_wakeTasks_1 : decode cX6_wakeTasks 1 = .ok (.istore_n 1, 1) := by decide +kernel
theorem dX6_wakeTasks_2 : decode cX6_wakeTasks 2 = .ok (.iload_n 1, 1) := by decide +kernel
theorem dX6_wakeTasks_3 : decode cX6_wakeTasks 3 = .ok (.aload_n 0, 1) := by decide +kernel
theorem dX6_wakeTasks_4 : decode cX6_wakeTasks 4 = .ok (.getfield 11, 3) := by decide +kernel
theorem dX6_wakeTasks_7 : decode cX6_wakeTasks 7 = .ok (.arraylength, 1) := by decide +kernel
theorem dX6_wakeTasks_8 : decode cX6_wakeTasks 8 = .ok (.if_icmp .ge 24, 3) := by decide +kernel
theorem dX6_wakeTasks_11 : decode cX6_wakeTasks 11 = .ok (.aload_n 0, 1) := by decide +kernel
theorem dX6_wakeTasks_12 : decode cX6_wakeTasks 12 = .ok (.getfield 11, 3) := by decide +kernel
theorem dX6_wakeTasks_15 : decode cX6_wakeTasks 15 = .ok (.iload_n 1, 1) := by decide +kernel
theorem dX6_wakeTasks_16 : decode cX6_wakeTasks 16 = .ok (.aaload, 1) := by decide +kernel
theorem dX6_wakeTasks_17 : decode cX6_wakeTasks 17 = .ok (.astore_n 2, 1) := by decide +kernel
theorem dX6_wakeTasks_18 : decode cX6_wakeTasks 18 = .ok (.aload_n 2, 1) := by decide +kernel
theorem dX6_wakeTasks_19 : decode cX6_wakeTasks 19 = .ok (.ifnull 7, 3) := by decide +kernel
theorem dX6_wakeTasks_22 : decode cX6_wakeTasks 22 = .ok (.aload_n 2, 1) := by decide +kernel
theorem dX6_wakeTasks_23 : decode cX6_wakeTasks 23 = .ok (.invokevirtual 142, 3) := by decide +kernel
theorem dX6_wakeTasks_26 : decode cX6_wakeTasks 26 = .ok (.iinc 1 1, 3) := by decide +kernel
theorem dX6_wakeTasks_29 : decode cX6_wakeTasks 29 = .ok (.goto (-27), 3) := by decide +kernel
theorem dX6_wakeTasks_32 : decode cX6_wakeTasks 32 = .ok (.return_, 1) := by decide +kernel
theorem dX6_ageTasks_0 : decode cX6_ageTasks 0 = .ok (.iconst 0, 1) := by decide +kernel
theorem dX6_ageTasks_1 : decode cX6_ageTasks 1 = .ok (.istore_n 1, 1) := by decide +kernel
theorem dX6_ageTasks_2 : decode cX6_ageTasks 2 = .ok (.iload_n 1, 1) := by decide +kernel
theorem dX6_ageTasks_3 : decode cX6_ageTasks 3 = .ok (.aload_n 0, 1) := by decide +kernel
theorem dX6_ageTasks_4 : decode cX6_ageTasks 4 = .ok (.getfield 11, 3) := by decide +kernel
theorem dX6_ageTasks_7 : decode cX6_ageTasks 7 = .ok (.arraylength, 1) := by decide +kernel
theorem dX6_ageTasks_8 : decode cX6_ageTasks 8 = .ok (.if_icmp .ge 41, 3) := by decide +kernel
theorem dX6_ageTasks_11 : decode cX6_ageTasks 11 = .ok (.aload_n 0, 1) := by decide +kernel
theorem dX6_ageTasks_12 : decode cX6_ageTasks 12 = .ok (.getfield 11, 3) := by decide +kernel
theorem dX6_ageTasks_15 : decode cX6_ageTasks 15 = .ok (.iload_n 1, 1) := by decide +kernel
theorem dX6_ageTasks_16 : decode cX6_ageTasks 16 = .ok (.aaload, 1) := by decide +kernel
theorem dX6_ageTasks_17 : decode cX6_ageTasks 17 = .ok (.astore_n 2, 1) := by decide +kernel
theorem dX6_ageTasks_18 : decode cX6_ageTasks 18 = .ok (.aload_n 2, 1) := by decide +kernel
theorem dX6_ageTasks_19 : decode cX6_ageTasks 19 = .ok (.ifnull 24, 3) := by decide +kernel
theorem dX6_ageTasks_22 : decode cX6_ageTasks 22 = .ok (.aload_n 2, 1) := by decide +kernel
theorem dX6_ageTasks_23 : decode cX6_ageTasks 23 = .ok (.aload_n 0, 1) := by decide +kernel
theorem dX6_ageTasks_24 : decode cX6_ageTasks 24 = .ok (.getfield 109, 3) := by decide +kernel
theorem dX6_ageTasks_27 : decode cX6_ageTasks 27 = .ok (.invokevirtual 145, 3) := by decide +kernel
theorem dX6_ageTasks_30 : decode cX6_ageTasks 30 = .ok (.ifCond .eq 13, 3) := by decide +kernel
theorem dX6_ageTasks_33 : decode cX6_ageTasks 33 = .ok (.aload_n 2, 1) := by decide +kernel
theorem dX6_ageTasks_34 : decode cX6_ageTasks 34 = .ok (.dup, 1) := by decide +kernel
theorem dX6_ageTasks_35 : decode cX6_ageTasks 35 = .ok (.getfield 148, 3) := by decide +kernel
theorem dX6_ageTasks_38 : decode cX6_ageTasks 38 = .ok (.iconst 1, 1) := by decide +kernel
theorem dX6_ageTasks_39 : decode cX6_ageTasks 39 = .ok (.iadd, 1) := by decide +kernel
theorem dX6_ageTasks_40 : decode cX6_ageTasks 40 = .ok (.putfield 148, 3) := by decide +kernel
theorem dX6_ageTasks_43 : decode cX6_ageTasks 43 = .ok (.iinc 1 1, 3) := by decide +kernel
theorem dX6_ageTasks_46 : decode cX6_ageTasks 46 = .ok (.goto (-44), 3) := by decide +kernel
theorem dX6_ageTasks_49 : decode cX6_ageTasks 49 = .ok (.return_, 1) := by decide +kernel
theorem dX6_findNextToWork_0 : decode cX6_findNextToWork 0 = .ok (.aconst_null, 1) := by decide +kernel
theorem dX6_findNextToWork_1 : decode cX6_findNextToWork 1 = .ok (.astore_n 1, 1) := by decide +kernel
theorem dX6_findNextToWork_2 : decode cX6_findNextToWork 2 = .ok (.iconst 0, 1) := by decide +kernel
theorem dX6_findNextToWork_3 : decode cX6_findNextToWork 3 = .ok (.istore_n 2, 1) := by decide +kernel
theorem dX6_findNextToWork_4 : decode cX6_findNextToWork 4 = .ok (.iload_n 2, 1) := by decide +kernel
theorem dX6_findNextToWork_5 : decode cX6_findNextToWork 5 = .ok (.aload_n 0, 1) := by decide +kernel
theorem dX6_findNextToWork_6 : decode cX6_findNextToWork 6 = .ok (.getfield 11, 3) := by decide +kernel
theorem dX6_findNextToWork_9 : decode cX6_findNextToWork 9 = .ok (.arraylength, 1) := by decide +kernel
theorem dX6_findNextToWork_10 : decode cX6_findNextToWork 10 = .ok (.if_icmp .ge 58, 3) := by decide +kernel
theorem dX6_findNextToWork_13 : decode cX6_findNextToWork 13 = .ok (.aload_n 0, 1) := by decide +kernel
theorem dX6_findNextToWork_14 : decode cX6_findNextToWork 14 = .ok (.getfield 11, 3) := by decide +kernel
theorem dX6_findNextToWork_17 : decode cX6_findNextToWork 17 = .ok (.iload_n 2, 1) := by decide +kernel
theorem dX6_findNextToWork_18 : decode cX6_findNextToWork 18 = .ok (.aaload, 1) := by decide +kernel
theorem dX6_findNextToWork_19 : decode cX6_findNextToWork 19 = .ok (.astore_n 3, 1) := by decide +kernel
theorem dX6_findNextToWork_20 : decode cX6_findNextToWork 20 = .ok (.aload_n 3, 1) := by decide +kernel
theorem dX6_findNextToWork_21 : decode cX6_findNextToWork 21 = .ok (.ifnull 41, 3) := by decide +kernel
theorem dX6_findNextToWork_24 : decode cX6_findNextToWork 24 = .ok (.aload_n 3, 1) := by decide +kernel
theorem dX6_findNextToWork_25 : decode cX6_findNextToWork 25 = .ok (.aload_n 0, 1) := by decide +kernel
theorem dX6_findNextToWork_26 : decode cX6_findNextToWork 26 = .ok (.getfield 109, 3) := by decide +kernel
theorem dX6_findNextToWork_29 : decode cX6_findNextToWork 29 = .ok (.invokevirtual 145, 3) := by decide +kernel
theorem dX6_findNextToWork_32 : decode cX6_findNextToWork 32 = .ok (.ifCond .eq 30, 3) := by decide +kernel
theorem dX6_findNextToWork_35 : decode cX6_findNextToWork 35 = .ok (.aload_n 1, 1) := by decide +kernel
theorem dX6_findNextToWork_36 : decode cX6_findNextToWork 36 = .ok (.ifnull 24, 3) := by decide +kernel
theorem dX6_findNextToWork_39 : decode cX6_findNextToWork 39 = .ok (.aload_n 3, 1) := by decide +kernel
theorem dX6_findNextToWork_40 : decode cX6_findNextToWork 40 = .ok (.getfield 151, 3) := by decide +kernel
theorem dX6_findNextToWork_43 : decode cX6_findNextToWork 43 = .ok (.aload_n 3, 1) := by decide +kernel
theorem dX6_findNextToWork_44 : decode cX6_findNextToWork 44 = .ok (.getfield 148, 3) := by decide +kernel
theorem dX6_findNextToWork_47 : decode cX6_findNextToWork 47 = .ok (.iadd, 1) := by decide +kernel
theorem dX6_findNextToWork_48 : decode cX6_findNextToWork 48 = .ok (.aload_n 1, 1) := by decide +kernel
theorem dX6_findNextToWork_49 : decode cX6_findNextToWork 49 = .ok (.getfield 151, 3) := by decide +kernel
theorem dX6_findNextToWork_52 : decode cX6_findNextToWork 52 = .ok (.aload_n 1, 1) := by decide +kernel
theorem dX6_findNextToWork_53 : decode cX6_findNextToWork 53 = .ok (.getfield 148, 3) := by decide +kernel
theorem dX6_findNextToWork_56 : decode cX6_findNextToWork 56 = .ok (.iadd, 1) := by decide +kernel
theorem dX6_findNextToWork_57 : decode cX6_findNextToWork 57 = .ok (.if_icmp .le 5, 3) := by decide +kernel
theorem dX6_findNextToWork_60 : decode cX6_findNextToWork 60 = .ok (.aload_n 3, 1) := by decide +kernel
theorem dX6_findNextToWork_61 : decode cX6_findNextToWork 61 = .ok (.astore_n 1, 1) := by decide +kernel
theorem dX6_findNextToWork_62 : decode cX6_findNextToWork 62 = .ok (.iinc 2 1, 3) := by decide +kernel
theorem dX6_findNextToWork_65 : decode cX6_findNextToWork 65 = .ok (.goto (-61), 3) := by decide +kernel
theorem dX6_findNextToWork_68 : decode cX6_findNextToWork 68 = .ok (.aload_n 1, 1) := by decide +kernel
theorem dX6_findNextToWork_69 : decode cX6_findNextToWork 69 = .ok (.areturn, 1) := by decide +kernel
theorem dX6_giveTurn_0 : decode cX6_giveTurn 0 = .ok (.aload_n 1, 1) := by decide +kernel
theorem dX6_giveTurn_1 : decode cX6_giveTurn 1 = .ok (.aload_n 0, 1) := by decide +kernel
theorem dX6_giveTurn_2 : decode cX6_giveTurn 2 = .ok (.getfield 109, 3) := by decide +kernel
theorem dX6_giveTurn_5 : decode cX6_giveTurn 5 = .ok (.putfield 154, 3) := by decide +kernel
theorem dX6_giveTurn_8 : decode cX6_giveTurn 8 = .ok (.aload_n 1, 1) := by decide +kernel
theorem dX6_giveTurn_9 : decode cX6_giveTurn 9 = .ok (.iconst 0, 1) := by decide +kernel
theorem dX6_giveTurn_10 : decode cX6_giveTurn 10 = .ok (.putfield 148, 3) := by decide +kernel
theorem dX6_giveTurn_13 : decode cX6_giveTurn 13 = .ok (.aload_n 1, 1) := by decide +kernel
theorem dX6_giveTurn_14 : decode cX6_giveTurn 14 = .ok (.iconst 0, 1) := by decide +kernel
theorem dX6_giveTurn_15 : decode cX6_giveTurn 15 = .ok (.putfield 157, 3) := by decide +kernel
theorem dX6_giveTurn_18 : decode cX6_giveTurn 18 = .ok (.aload_n 1, 1) := by decide +kernel
theorem dX6_giveTurn_19 : decode cX6_giveTurn 19 = .ok (.getfield 160, 3) := by decide +kernel
theorem dX6_giveTurn_22 : decode cX6_giveTurn 22 = .ok (.aload_n 1, 1) := by decide +kernel
theorem dX6_giveTurn_23 : decode cX6_giveTurn 23 = .ok (.getfield 40, 3) := by decide +kernel
theorem dX6_giveTurn_26 : decode cX6_giveTurn 26 = .ok (.getfield 163, 3) := by decide +kernel
theorem dX6_giveTurn_29 : decode cX6_giveTurn 29 = .ok (.if_icmp .ge 69, 3) := by decide +kernel
theorem dX6_giveTurn_32 : decode cX6_giveTurn 32 = .ok (.aload_n 1, 1) := by decide +kernel
theorem dX6_giveTurn_33 : decode cX6_giveTurn 33 = .ok (.getfield 40, 3) := by decide +kernel
theorem dX6_giveTurn_36 : decode cX6_giveTurn 36 = .ok (.getfield 164, 3) := by decide +kernel
theorem dX6_giveTurn_39 : decode cX6_giveTurn 39 = .ok (.aload_n 1, 1) := by decide +kernel
theorem dX6_giveTurn_40 : decode cX6_giveTurn 40 = .ok (.getfield 160, 3) := by decide +kernel
theorem dX6_giveTurn_43 : decode cX6_giveTurn 43 = .ok (.iaload, 1) := by decide +kernel
theorem dX6_giveTurn_44 : decode cX6_giveTurn 44 = .ok (.bipush 9, 2) := by decide +kernel
theorem dX6_giveTurn_46 : decode cX6_giveTurn 46 = .ok (.if_icmp .ne 11, 3) := by decide +kernel
theorem dX6_giveTurn_49 : decode cX6_giveTurn 49 = .ok (.aload_n 0, 1) := by decide +kernel
theorem dX6_giveTurn_50 : decode cX6_giveTurn 50 = .ok (.aload_n 1, 1) := by decide +kernel
theorem dX6_giveTurn_51 : decode cX6_giveTurn 51 = .ok (.invokevirtual 167, 3) := by decide +kernel
theorem dX6_giveTurn_54 : decode cX6_giveTurn 54 = .ok (.goto 9, 3) := by decide +kernel
theorem dX6_giveTurn_57 : decode cX6_giveTurn 57 = .ok (.aload_n 0, 1) := by decide +kernel
theorem dX6_giveTurn_58 : decode cX6_giveTurn 58 = .ok (.aload_n 1, 1) := by decide +kernel
theorem dX6_giveTurn_59 : decode cX6_giveTurn 59 = .ok (.iconst 0, 1) := by decide +kernel
theorem dX6_giveTurn_60 : decode cX6_giveTurn 60 = .ok (.invokevirtual 171, 3) := by decide +kernel
theorem dX6_giveTurn_63 : decode cX6_giveTurn 63 = .ok (.istore_n 2, 1) := by decide +kernel
theorem dX6_giveTurn_64 : decode cX6_giveTurn 64 = .ok (.iload_n 2, 1) := by decide +kernel
theorem dX6_giveTurn_65 : decode cX6_giveTurn 65 = .ok (.ifCond .eq 21, 3) := by decide +kernel
theorem dX6_giveTurn_68 : decode cX6_giveTurn 68 = .ok (.aload_n 0, 1) := by decide +kernel
theorem dX6_giveTurn_69 : decode cX6_giveTurn 69 = .ok (.dup, 1) := by decide +kernel
theorem dX6_giveTurn_70 : decode cX6_giveTurn 70 = .ok (.getfield 118, 3) := by decide +kernel
theorem dX6_giveTurn_73 : decode cX6_giveTurn 73 = .ok (.iconst 1, 1) := by decide +kernel
theorem dX6_giveTurn_74 : decode cX6_giveTurn 74 = .ok (.iadd, 1) := by decide +kernel
theorem dX6_giveTurn_75 : decode cX6_giveTurn 75 = .ok (.putfield 118, 3) := by decide +kernel
theorem dX6_giveTurn_78 : decode cX6_giveTurn 78 = .ok (.aload_n 1, 1) := by decide +kernel
theorem dX6_giveTurn_79 : decode cX6_giveTurn 79 = .ok (.iload_n 2, 1) := by decide +kernel
theorem dX6_giveTurn_80 : decode cX6_giveTurn 80 = .ok (.invokevirtual 175, 3) := by decide +kernel
theorem dX6_giveTurn_83 : decode cX6_giveTurn 83 = .ok (.goto 15, 3) := by decide +kernel
theorem dX6_giveTurn_86 : decode cX6_giveTurn 86 = .ok (.aload_n 1, 1) := by decide +kernel
theorem dX6_giveTurn_87 : decode cX6_giveTurn 87 = .ok (.getfield 157, 3) := by decide +kernel
theorem dX6_giveTurn_90 : decode cX6_giveTurn 90 = .ok (.ifCond .le 8, 3) := by decide +kernel
theorem dX6_giveTurn_93 : decode cX6_giveTurn 93 = .ok (.aload_n 1, 1) := by decide +kernel
theorem dX6_giveTurn_94 : decode cX6_giveTurn 94 = .ok (.iconst 1, 1) := by decide +kernel
theorem dX6_giveTurn_95 : decode cX6_giveTurn 95 = .ok (.putfield 33, 3) := by decide +kernel
theorem dX6_giveTurn_98 : decode cX6_giveTurn 98 = .ok (.aload_n 1, 1) := by decide +kernel
theorem dX6_giveTurn_99 : decode cX6_giveTurn 99 = .ok (.getfield 160, 3) := by decide +kernel
theorem dX6_giveTurn_102 : decode cX6_giveTurn 102 = .ok (.aload_n 1, 1) := by decide +kernel
theorem dX6_giveTurn_103 : decode cX6_giveTurn 103 = .ok (.getfield 40, 3) := by decide +kernel
theorem dX6_giveTurn_106 : decode cX6_giveTurn 106 = .ok (.getfield 163, 3) := by decide +kernel
theorem dX6_giveTurn_109 : decode cX6_giveTurn 109 = .ok (.if_icmp .lt 8, 3) := by decide +kernel
theorem dX6_giveTurn_112 : decode cX6_giveTurn 112 = .ok (.aload_n 0, 1) := by decide +kernel
theorem dX6_giveTurn_113 : decode cX6_giveTurn 113 = .ok (.aload_n 1, 1) := by decide +kernel
theorem dX6_giveTurn_114 : decode cX6_giveTurn 114 = .ok (.invokevirtual 178, 3) := by decide +kernel
theorem dX6_giveTurn_117 : decode cX6_giveTurn 117 = .ok (.return_, 1) := by decide +kernel
theorem dX6_becomeDone_0 : decode cX6_becomeDone 0 = .ok (.aload_n 1, 1) := by decide +kernel
theorem dX6_becomeDone_1 : decode cX6_becomeDone 1 = .ok (.iconst 3, 1) := by decide +kernel
theorem dX6_becomeDone_2 : decode cX6_becomeDone 2 = .ok (.putfield 33, 3) := by decide +kernel
theorem dX6_becomeDone_5 : decode cX6_becomeDone 5 = .ok (.aload_n 0, 1) := by decide +kernel
theorem dX6_becomeDone_6 : decode cX6_becomeDone 6 = .ok (.getfield 125, 3) := by decide +kernel
theorem dX6_becomeDone_9 : decode cX6_becomeDone 9 = .ok (.aload_n 0, 1) := by decide +kernel
theorem dX6_becomeDone_10 : decode cX6_becomeDone 10 = .ok (.getfield 15, 3) := by decide +kernel
theorem dX6_becomeDone_13 : decode cX6_becomeDone 13 = .ok (.arraylength, 1) := by decide +kernel
theorem dX6_becomeDone_14 : decode cX6_becomeDone 14 = .ok (.if_icmp .ge 26, 3) := by decide +kernel
theorem dX6_becomeDone_17 : decode cX6_becomeDone 17 = .ok (.aload_n 0, 1) := by decide +kernel
theorem dX6_becomeDone_18 : decode cX6_becomeDone 18 = .ok (.getfield 15, 3) := by decide +kernel
theorem dX6_becomeDone_21 : decode cX6_becomeDone 21 = .ok (.aload_n 0, 1) := by decide +kernel
theorem dX6_becomeDone_22 : decode cX6_becomeDone 22 = .ok (.getfield 125, 3) := by decide +kernel
theorem dX6_becomeDone_25 : decode cX6_becomeDone 25 = .ok (.aload_n 1, 1) := by decide +kernel
theorem dX6_becomeDone_26 : decode cX6_becomeDone 26 = .ok (.getfield 181, 3) := by decide +kernel
theorem dX6_becomeDone_29 : decode cX6_becomeDone 29 = .ok (.iastore, 1) := by decide +kernel
theorem dX6_becomeDone_30 : decode cX6_becomeDone 30 = .ok (.aload_n 0, 1) := by decide +kernel
theorem dX6_becomeDone_31 : decode cX6_becomeDone 31 = .ok (.dup, 1) := by decide +kernel
theorem dX6_becomeDone_32 : decode cX6_becomeDone 32 = .ok (.getfield 125, 3) := by decide +kernel
theorem dX6_becomeDone_35 : decode cX6_becomeDone 35 = .ok (.iconst 1, 1) := by decide +kernel
theorem dX6_becomeDone_36 : decode cX6_becomeDone 36 = .ok (.iadd, 1) := by decide +kernel
theorem dX6_becomeDone_37 : decode cX6_becomeDone 37 = .ok (.putfield 125, 3) := by decide +kernel
theorem dX6_becomeDone_40 : decode cX6_becomeDone 40 = .ok (.return_, 1) := by decide +kernel
theorem dX6_doGuard_0 : decode cX6_doGuard 0 = .ok (.aload_n 1, 1) := by decide +kernel
theorem dX6_doGuard_1 : decode cX6_doGuard 1 = .ok (.getfield 40, 3) := by decide +kernel
theorem dX6_doGuard_4 : decode cX6_doGuard 4 = .ok (.getfield 184, 3) := by decide +kernel
theorem dX6_doGuard_7 : decode cX6_doGuard 7 = .ok (.aload_n 1, 1) := by decide +kernel
theorem dX6_doGuard_8 : decode cX6_doGuard 8 = .ok (.getfield 160, 3) := by decide +kernel
theorem dX6_doGuard_11 : decode cX6_doGuard 11 = .ok (.iaload, 1) := by decide +kernel
theorem dX6_doGuard_12 : decode cX6_doGuard 12 = .ok (.aload_n 1, 1) := by decide +kernel
theorem dX6_doGuard_13 : decode cX6_doGuard 13 = .ok (.getfield 40, 3) := by decide +kernel
theorem dX6_doGuard_16 : decode cX6_doGuard 16 = .ok (.getfield 163, 3) := by decide +kernel
theorem dX6_doGuard_19 : decode cX6_doGuard 19 = .ok (.aload_n 1, 1) := by decide +kernel
theorem dX6_doGuard_20 : decode cX6_doGuard 20 = .ok (.getfield 160, 3) := by decide +kernel
theorem dX6_doGuard_23 : decode cX6_doGuard 23 = .ok (.isub, 1) := by decide +kernel
theorem dX6_doGuard_24 : decode cX6_doGuard 24 = .ok (.iconst 1, 1) := by decide +kernel
theorem dX6_doGuard_25 : decode cX6_doGuard 25 = .ok (.isub, 1) := by decide +kernel
theorem dX6_doGuard_26 : decode cX6_doGuard 26 = .ok (.invokestatic 187, 3) := by decide +kernel
theorem dX6_doGuard_29 : decode cX6_doGuard 29 = .ok (.istore_n 2, 1) := by decide +kernel
theorem dX6_doGuard_30 : decode cX6_doGuard 30 = .ok (.aload_n 0, 1) := by decide +kernel
theorem dX6_doGuard_31 : decode cX6_doGuard 31 = .ok (.dup, 1) := by decide +kernel
theorem dX6_doGuard_32 : decode cX6_doGuard 32 = .ok (.getfield 50, 3) := by decide +kernel
theorem dX6_doGuard_35 : decode cX6_doGuard 35 = .ok (.iconst 1, 1) := by decide +kernel
theorem dX6_doGuard_36 : decode cX6_doGuard 36 = .ok (.iadd, 1) := by decide +kernel
theorem dX6_doGuard_37 : decode cX6_doGuard 37 = .ok (.putfield 50, 3) := by decide +kernel
theorem dX6_doGuard_40 : decode cX6_doGuard 40 = .ok (.aload_n 1, 1) := by decide +kernel
theorem dX6_doGuard_41 : decode cX6_doGuard 41 = .ok (.iconst 1, 1) := by decide +kernel
theorem dX6_doGuard_42 : decode cX6_doGuard 42 = .ok (.putfield 36, 3) := by decide +kernel
theorem dX6_doGuard_45 : decode cX6_doGuard 45 = .ok (.aload_n 1, 1) := by decide +kernel
theorem dX6_doGuard_46 : decode cX6_doGuard 46 = .ok (.dup, 1) := by decide +kernel
theorem dX6_doGuard_47 : decode cX6_doGuard 47 = .ok (.getfield 160, 3) := by decide +kernel
theorem dX6_doGuard_50 : decode cX6_doGuard 50 = .ok (.iconst 1, 1) := by decide +kernel
theorem dX6_doGuard_51 : decode cX6_doGuard 51 = .ok (.iadd, 1) := by decide +kernel
theorem dX6_doGuard_52 : decode cX6_doGuard 52 = .ok (.putfield 160, 3) := by decide +kernel
theorem dX6_doGuard_55 : decode cX6_doGuard 55 = .ok (.iconst 0, 1) := by decide +kernel
theorem dX6_doGuard_56 : decode cX6_doGuard 56 = .ok (.istore_n 3, 1) := by decide +kernel
theorem dX6_doGuard_57 : decode cX6_doGuard 57 = .ok (.iconst 0, 1) := by decide +kernel
theorem dX6_doGuard_58 : decode cX6_doGuard 58 = .ok (.istore 4, 2) := by decide +kernel
theorem dX6_doGuard_60 : decode cX6_doGuard 60 = .ok (.iload 4, 2) := by decide +kernel
theorem dX6_doGuard_62 : decode cX6_doGuard 62 = .ok (.iload_n 2, 1) := by decide +kernel
theorem dX6_doGuard_63 : decode cX6_doGuard 63 = .ok (.if_icmp .ge 20, 3) := by decide +kernel
theorem dX6_doGuard_66 : decode cX6_doGuard 66 = .ok (.iload_n 3, 1) := by decide +kernel
theorem dX6_doGuard_67 : decode cX6_doGuard 67 = .ok (.ifCond .ne 16, 3) := by decide +kernel
theorem dX6_doGuard_70 : decode cX6_doGuard 70 = .ok (.aload_n 0, 1) := by decide +kernel
theorem dX6_doGuard_71 : decode cX6_doGuard 71 = .ok (.aload_n 1, 1) := by decide +kernel
theorem dX6_doGuard_72 : decode cX6_doGuard 72 = .ok (.iconst 1, 1) := by decide +kernel
theorem dX6_doGuard_73 : decode cX6_doGuard 73 = .ok (.invokevirtual 171, 3) := by decide +kernel
theorem dX6_doGuard_76 : decode cX6_doGuard 76 = .ok (.istore_n 3, 1) := by decide +kernel
theorem dX6_doGuard_77 : decode cX6_doGuard 77 = .ok (.iinc 4 1, 3) := by decide +kernel
theorem dX6_doGuard_80 : decode cX6_doGuard 80 = .ok (.goto (-20), 3) := by decide +kernel
theorem dX6_doGuard_83 : decode cX6_doGuard 83 = .ok (.aload_n 0, 1) := by decide +kernel
theorem dX6_doGuard_84 : decode cX6_doGuard 84 = .ok (.dup, 1) := by decide +kernel
theorem dX6_doGuard_85 : decode cX6_doGuard 85 = .ok (.getfield 115, 3) := by decide +kernel
theorem dX6_doGuard_88 : decode cX6_doGuard 88 = .ok (.iconst 1, 1) := by decide +kernel
theorem dX6_doGuard_89 : decode cX6_doGuard 89 = .ok (.iadd, 1) := by decide +kernel
theorem dX6_doGuard_90 : decode cX6_doGuard 90 = .ok (.putfield 115, 3) := by decide +kernel
theorem dX6_doGuard_93 : decode cX6_doGuard 93 = .ok (.iload_n 3, 1) := by decide +kernel
theorem dX6_doGuard_94 : decode cX6_doGuard 94 = .ok (.ireturn, 1) := by decide +kernel
theorem dX6_doAct_0 : decode cX6_doAct 0 = .ok (.aload_n 1, 1) := by decide +kernel
theorem dX6_doAct_1 : decode cX6_doAct 1 = .ok (.getfield 40, 3) := by decide +kernel
theorem dX6_doAct_4 : decode cX6_doAct 4 = .ok (.getfield 184, 3) := by decide +kernel
theorem dX6_doAct_7 : decode cX6_doAct 7 = .ok (.aload_n 1, 1) := by decide +kernel
theorem dX6_doAct_8 : decode cX6_doAct 8 = .ok (.getfield 160, 3) := by decide +kernel
theorem dX6_doAct_11 : decode cX6_doAct 11 = .ok (.iaload, 1) := by decide +kernel
theorem dX6_doAct_12 : decode cX6_doAct 12 = .ok (.istore_n 3, 1) := by decide +kernel
theorem dX6_doAct_13 : decode cX6_doAct 13 = .ok (.aload_n 1, 1) := by decide +kernel
theorem dX6_doAct_14 : decode cX6_doAct 14 = .ok (.getfield 40, 3) := by decide +kernel
theorem dX6_doAct_17 : decode cX6_doAct 17 = .ok (.getfield 193, 3) := by decide +kernel
theorem dX6_doAct_20 : decode cX6_doAct 20 = .ok (.aload_n 1, 1) := by decide +kernel
theorem dX6_doAct_21 : decode cX6_doAct 21 = .ok (.getfield 160, 3) := by decide +kernel
theorem dX6_doAct_24 : decode cX6_doAct 24 = .ok (.iaload, 1) := by decide +kernel
theorem dX6_doAct_25 : decode cX6_doAct 25 = .ok (.istore 4, 2) := by decide +kernel
theorem dX6_doAct_27 : decode cX6_doAct 27 = .ok (.aload_n 0, 1) := by decide +kernel
theorem dX6_doAct_28 : decode cX6_doAct 28 = .ok (.dup, 1) := by decide +kernel
theorem dX6_doAct_29 : decode cX6_doAct 29 = .ok (.getfield 50, 3) := by decide +kernel
theorem dX6_doAct_32 : decode cX6_doAct 32 = .ok (.iconst 1, 1) := by decide +kernel
theorem dX6_doAct_33 : decode cX6_doAct 33 = .ok (.iadd, 1) := by decide +kernel
theorem dX6_doAct_34 : decode cX6_doAct 34 = .ok (.putfield 50, 3) := by decide +kernel
theorem dX6_doAct_37 : decode cX6_doAct 37 = .ok (.aload_n 1, 1) := by decide +kernel
theorem dX6_doAct_38 : decode cX6_doAct 38 = .ok (.iconst 1, 1) := by decide +kernel
theorem dX6_doAct_39 : decode cX6_doAct 39 = .ok (.putfield 36, 3) := by decide +kernel
theorem dX6_doAct_42 : decode cX6_doAct 42 = .ok (.aload_n 1, 1) := by decide +kernel
theorem dX6_doAct_43 : decode cX6_doAct 43 = .ok (.getfield 40, 3) := by decide +kernel
theorem dX6_doAct_46 : decode cX6_doAct 46 = .ok (.getfield 164, 3) := by decide +kernel
theorem dX6_doAct_49 : decode cX6_doAct 49 = .ok (.aload_n 1, 1) := by decide +kernel
theorem dX6_doAct_50 : decode cX6_doAct 50 = .ok (.getfield 160, 3) := by decide +kernel
theorem dX6_doAct_53 : decode cX6_doAct 53 = .ok (.iaload, 1) := by decide +kernel
theorem dX6_doAct_54 : decode cX6_doAct 54 = .ok (.tableswitch 246 0 15 #[78, 86, 94, 102, 110, 118, 126, 141, 149, 156, 161, 169, 185, 212, 221, 238], 78) := by decide +kernel
theorem dX6_doAct_132 : decode cX6_doAct 132 = .ok (.aload_n 1, 1) := by decide +kernel
theorem dX6_doAct_133 : decode cX6_doAct 133 = .ok (.iload_n 3, 1) := by decide +kernel
theorem dX6_doAct_134 : decode cX6_doAct 134 = .ok (.invokevirtual 196, 3) := by decide +kernel
theorem dX6_doAct_137 : decode cX6_doAct 137 = .ok (.goto 164, 3) := by decide +kernel
theorem dX6_doAct_140 : decode cX6_doAct 140 = .ok (.aload_n 1, 1) := by decide +kernel
theorem dX6_doAct_141 : decode cX6_doAct 141 = .ok (.iload_n 3, 1) := by decide +kernel
theorem dX6_doAct_142 : decode cX6_doAct 142 = .ok (.invokevirtual 199, 3) := by decide +kernel
theorem dX6_doAct_145 : decode cX6_doAct 145 = .ok (.goto 156, 3) := by decide +kernel
theorem dX6_doAct_148 : decode cX6_doAct 148 = .ok (.aload_n 1, 1) := by decide +kernel
theorem dX6_doAct_149 : decode cX6_doAct 149 = .ok (.iload_n 3, 1) := by decide +kernel
theorem dX6_doAct_150 : decode cX6_doAct 150 = .ok (.invokevirtual 202, 3) := by decide +kernel
theorem dX6_doAct_153 : decode cX6_doAct 153 = .ok (.goto 148, 3) := by decide +kernel
theorem dX6_doAct_156 : decode cX6_doAct 156 = .ok (.aload_n 1, 1) := by decide +kernel
theorem dX6_doAct_157 : decode cX6_doAct 157 = .ok (.iload_n 3, 1) := by decide +kernel
theorem dX6_doAct_158 : decode cX6_doAct 158 = .ok (.invokevirtual 205, 3) := by decide +kernel
theorem dX6_doAct_161 : decode cX6_doAct 161 = .ok (.goto 140, 3) := by decide +kernel
theorem dX6_doAct_164 : decode cX6_doAct 164 = .ok (.aload_n 1, 1) := by decide +kernel
theorem dX6_doAct_165 : decode cX6_doAct 165 = .ok (.iload_n 3, 1) := by decide +kernel
theorem dX6_doAct_166 : decode cX6_doAct 166 = .ok (.invokevirtual 208, 3) := by decide +kernel
theorem dX6_doAct_169 : decode cX6_doAct 169 = .ok (.goto 132, 3) := by decide +kernel
theorem dX6_doAct_172 : decode cX6_doAct 172 = .ok (.aload_n 1, 1) := by decide +kernel
theorem dX6_doAct_173 : decode cX6_doAct 173 = .ok (.iload_n 2, 1) := by decide +kernel
theorem dX6_doAct_174 : decode cX6_doAct 174 = .ok (.invokevirtual 211, 3) := by decide +kernel
theorem dX6_doAct_177 : decode cX6_doAct 177 = .ok (.goto 124, 3) := by decide +kernel
theorem dX6_doAct_180 : decode cX6_doAct 180 = .ok (.aload_n 0, 1) := by decide +kernel
theorem dX6_doAct_181 : decode cX6_doAct 181 = .ok (.aload_n 1, 1) := by decide +kernel
theorem dX6_doAct_182 : decode cX6_doAct 182 = .ok (.getfield 215, 3) := by decide +kernel
theorem dX6_doAct_185 : decode cX6_doAct 185 = .ok (.iload 4, 2) := by decide +kernel
theorem dX6_doAct_187 : decode cX6_doAct 187 = .ok (.iadd, 1) := by decide +kernel
theorem dX6_doAct_188 : decode cX6_doAct 188 = .ok (.iload_n 3, 1) := by decide +kernel
theorem dX6_doAct_189 : decode cX6_doAct 189 = .ok (.invokevirtual 218, 3) := by decide +kernel
theorem dX6_doAct_192 : decode cX6_doAct 192 = .ok (.goto 109, 3) := by decide +kernel
theorem dX6_doAct_195 : decode cX6_doAct 195 = .ok (.aload_n 1, 1) := by decide +kernel
theorem dX6_doAct_196 : decode cX6_doAct 196 = .ok (.iload_n 3, 1) := by decide +kernel
theorem dX6_doAct_197 : decode cX6_doAct 197 = .ok (.invokevirtual 221, 3) := by decide +kernel
theorem dX6_doAct_200 : decode cX6_doAct 200 = .ok (.goto 101, 3) := by decide +kernel
theorem dX6_doAct_203 : decode cX6_doAct 203 = .ok (.aload_n 1, 1) := by decide +kernel
theorem dX6_doAct_204 : decode cX6_doAct 204 = .ok (.invokevirtual 224, 3) := by decide +kernel
theorem dX6_doAct_207 : decode cX6_doAct 207 = .ok (.goto 94, 3) := by decide +kernel
theorem dX6_doAct_210 : decode cX6_doAct 210 = .ok (.bipush 8, 2) := by decide +kernel
theorem dX6_doAct_212 : decode cX6_doAct 212 = .ok (.goto 89, 3) := by decide +kernel
theorem dX6_doAct_215 : decode cX6_doAct 215 = .ok (.aload_n 1, 1) := by decide +kernel
theorem dX6_doAct_216 : decode cX6_doAct 216 = .ok (.iload_n 3, 1) := by decide +kernel
theorem dX6_doAct_217 : decode cX6_doAct 217 = .ok (.invokevirtual 227, 3) := by decide +kernel
theorem dX6_doAct_220 : decode cX6_doAct 220 = .ok (.goto 81, 3) := by decide +kernel
theorem dX6_doAct_223 : decode cX6_doAct 223 = .ok (.aload_n 1, 1) := by decide +kernel
theorem dX6_doAct_224 : decode cX6_doAct 224 = .ok (.getfield 82, 3) := by decide +kernel
theorem dX6_doAct_227 : decode cX6_doAct 227 = .ok (.iconst 0, 1) := by decide +kernel
theorem dX6_doAct_228 : decode cX6_doAct 228 = .ok (.iload_n 3, 1) := by decide +kernel
theorem dX6_doAct_229 : decode cX6_doAct 229 = .ok (.aload_n 1, 1) := by decide +kernel
theorem dX6_doAct_230 : decode cX6_doAct 230 = .ok (.getfield 215, 3) := by decide +kernel
theorem dX6_doAct_233 : decode cX6_doAct 233 = .ok (.invokevirtual 230, 3) := by decide +kernel
theorem dX6_doAct_236 : decode cX6_doAct 236 = .ok (.goto 65, 3) := by decide +kernel
theorem dX6_doAct_239 : decode cX6_doAct 239 = .ok (.aload_n 0, 1) := by decide +kernel
theorem dX6_doAct_240 : decode cX6_doAct 240 = .ok (.iload 4, 2) := by decide +kernel
theorem dX6_doAct_242 : decode cX6_doAct 242 = .ok (.invokevirtual 29, 3) := by decide +kernel
theorem dX6_doAct_245 : decode cX6_doAct 245 = .ok (.ifnonnull 7, 3) := by decide +kernel
theorem dX6_doAct_248 : decode cX6_doAct 248 = .ok (.iconst 2, 1) := by decide +kernel
theorem dX6_doAct_249 : decode cX6_doAct 249 = .ok (.goto 52, 3) := by decide +kernel
theorem dX6_doAct_252 : decode cX6_doAct 252 = .ok (.aload_n 1, 1) := by decide +kernel
theorem dX6_doAct_253 : decode cX6_doAct 253 = .ok (.getfield 82, 3) := by decide +kernel
theorem dX6_doAct_256 : decode cX6_doAct 256 = .ok (.iconst 1, 1) := by decide +kernel
theorem dX6_doAct_257 : decode cX6_doAct 257 = .ok (.iload_n 3, 1) := by decide +kernel
theorem dX6_doAct_258 : decode cX6_doAct 258 = .ok (.iload 4, 2) := by decide +kernel
theorem dX6_doAct_260 : decode cX6_doAct 260 = .ok (.invokevirtual 230, 3) := by decide +kernel
theorem dX6_doAct_263 : decode cX6_doAct 263 = .ok (.goto 38, 3) := by decide +kernel
theorem dX6_doAct_266 : decode cX6_doAct 266 = .ok (.aload_n 0, 1) := by decide +kernel
theorem dX6_doAct_267 : decode cX6_doAct 267 = .ok (.aload_n 1, 1) := by decide +kernel
theorem dX6_doAct_268 : decode cX6_doAct 268 = .ok (.iload_n 3, 1) := by decide +kernel
theorem dX6_doAct_269 : decode cX6_doAct 269 = .ok (.invokevirtual 232, 3) := by decide +kernel
theorem dX6_doAct_272 : decode cX6_doAct 272 = .ok (.goto 29, 3) := by decide +kernel
theorem dX6_doAct_275 : decode cX6_doAct 275 = .ok (.aload_n 1, 1) := by decide +kernel
theorem dX6_doAct_276 : decode cX6_doAct 276 = .ok (.getfield 215, 3) := by decide +kernel
theorem dX6_doAct_279 : decode cX6_doAct 279 = .ok (.iload_n 3, 1) := by decide +kernel
theorem dX6_doAct_280 : decode cX6_doAct 280 = .ok (.if_icmp .ge 8, 3) := by decide +kernel
theorem dX6_doAct_283 : decode cX6_doAct 283 = .ok (.bipush 10, 2) := by decide +kernel
theorem dX6_doAct_285 : decode cX6_doAct 285 = .ok (.goto 16, 3) := by decide +kernel
theorem dX6_doAct_288 : decode cX6_doAct 288 = .ok (.iconst 0, 1) := by decide +kernel
theorem dX6_doAct_289 : decode cX6_doAct 289 = .ok (.goto 12, 3) := by decide +kernel
theorem dX6_doAct_292 : decode cX6_doAct 292 = .ok (.aload_n 1, 1) := by decide +kernel
theorem dX6_doAct_293 : decode cX6_doAct 293 = .ok (.iload_n 3, 1) := by decide +kernel
theorem dX6_doAct_294 : decode cX6_doAct 294 = .ok (.invokevirtual 236, 3) := by decide +kernel
theorem dX6_doAct_297 : decode cX6_doAct 297 = .ok (.goto 4, 3) := by decide +kernel
theorem dX6_doAct_300 : decode cX6_doAct 300 = .ok (.iconst 0, 1) := by decide +kernel
theorem dX6_doAct_301 : decode cX6_doAct 301 = .ok (.istore 5, 2) := by decide +kernel
theorem dX6_doAct_303 : decode cX6_doAct 303 = .ok (.iload 5, 2) := by decide +kernel
theorem dX6_doAct_305 : decode cX6_doAct 305 = .ok (.ifCond .ne 21, 3) := by decide +kernel
theorem dX6_doAct_308 : decode cX6_doAct 308 = .ok (.aload_n 1, 1) := by decide +kernel
theorem dX6_doAct_309 : decode cX6_doAct 309 = .ok (.getfield 33, 3) := by decide +kernel
theorem dX6_doAct_312 : decode cX6_doAct 312 = .ok (.iconst 2, 1) := by decide +kernel
theorem dX6_doAct_313 : decode cX6_doAct 313 = .ok (.if_icmp .eq 13, 3) := by decide +kernel
theorem dX6_doAct_316 : decode cX6_doAct 316 = .ok (.aload_n 1, 1) := by decide +kernel
theorem dX6_doAct_317 : decode cX6_doAct 317 = .ok (.dup, 1) := by decide +kernel
theorem dX6_doAct_318 : decode cX6_doAct 318 = .ok (.getfield 160, 3) := by decide +kernel
theorem dX6_doAct_321 : decode cX6_doAct 321 = .ok (.iconst 1, 1) := by decide +kernel
theorem dX6_doAct_322 : decode cX6_doAct 322 = .ok (.iadd, 1) := by decide +kernel
theorem dX6_doAct_323 : decode cX6_doAct 323 = .ok (.putfield 160, 3) := by decide +kernel
theorem dX6_doAct_326 : decode cX6_doAct 326 = .ok (.iload 5, 2) := by decide +kernel
theorem dX6_doAct_328 : decode cX6_doAct 328 = .ok (.ireturn, 1) := by decide +kernel
theorem dX6_send_0 : decode cX6_send 0 = .ok (.aload_n 0, 1) := by decide +kernel
theorem dX6_send_1 : decode cX6_send 1 = .ok (.iload_n 2, 1) := by decide +kernel
theorem dX6_send_2 : decode cX6_send 2 = .ok (.invokevirtual 29, 3) := by decide +kernel
theorem dX6_send_5 : decode cX6_send 5 = .ok (.astore_n 3, 1) := by decide +kernel
theorem dX6_send_6 : decode cX6_send 6 = .ok (.aload_n 3, 1) := by decide +kernel
theorem dX6_send_7 : decode cX6_send 7 = .ok (.ifnonnull 5, 3) := by decide +kernel
theorem dX6_send_10 : decode cX6_send 10 = .ok (.iconst 2, 1) := by decide +kernel
theorem dX6_send_11 : decode cX6_send 11 = .ok (.ireturn, 1) := by decide +kernel
theorem dX6_send_12 : decode cX6_send 12 = .ok (.aload_n 3, 1) := by decide +kernel
theorem dX6_send_13 : decode cX6_send 13 = .ok (.invokevirtual 56, 3) := by decide +kernel
theorem dX6_send_16 : decode cX6_send 16 = .ok (.ifCond .eq 15, 3) := by decide +kernel
theorem dX6_send_19 : decode cX6_send 19 = .ok (.aload_n 0, 1) := by decide +kernel
theorem dX6_send_20 : decode cX6_send 20 = .ok (.dup, 1) := by decide +kernel
