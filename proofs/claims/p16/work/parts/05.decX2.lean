theorem dX2_init_0 : decode cX2_init 0 = .ok (.aload_n 0, 1) := by decide +kernel
theorem dX2_init_1 : decode cX2_init 1 = .ok (.invokespecial 3, 3) := by decide +kernel
theorem dX2_init_4 : decode cX2_init 4 = .ok (.aload_n 0, 1) := by decide +kernel
theorem dX2_init_5 : decode cX2_init 5 = .ok (.bipush 25, 2) := by decide +kernel
theorem dX2_init_7 : decode cX2_init 7 = .ok (.newarray .int, 2) := by decide +kernel
theorem dX2_init_9 : decode cX2_init 9 = .ok (.putfield 9, 3) := by decide +kernel
theorem dX2_init_12 : decode cX2_init 12 = .ok (.aload_n 0, 1) := by decide +kernel
theorem dX2_init_13 : decode cX2_init 13 = .ok (.bipush 25, 2) := by decide +kernel
theorem dX2_init_15 : decode cX2_init 15 = .ok (.newarray .int, 2) := by decide +kernel
theorem dX2_init_17 : decode cX2_init 17 = .ok (.putfield 15, 3) := by decide +kernel
theorem dX2_init_20 : decode cX2_init 20 = .ok (.aload_n 0, 1) := by decide +kernel
theorem dX2_init_21 : decode cX2_init 21 = .ok (.bipush 25, 2) := by decide +kernel
theorem dX2_init_23 : decode cX2_init 23 = .ok (.newarray .int, 2) := by decide +kernel
theorem dX2_init_25 : decode cX2_init 25 = .ok (.putfield 18, 3) := by decide +kernel
theorem dX2_init_28 : decode cX2_init 28 = .ok (.aload_n 0, 1) := by decide +kernel
theorem dX2_init_29 : decode cX2_init 29 = .ok (.iconst 0, 1) := by decide +kernel
theorem dX2_init_30 : decode cX2_init 30 = .ok (.putfield 21, 3) := by decide +kernel
theorem dX2_init_33 : decode cX2_init 33 = .ok (.aload_n 0, 1) := by decide +kernel
theorem dX2_init_34 : decode cX2_init 34 = .ok (.iconst 0, 1) := by decide +kernel
theorem dX2_init_35 : decode cX2_init 35 = .ok (.putfield 25, 3) := by decide +kernel
theorem dX2_init_38 : decode cX2_init 38 = .ok (.return_, 1) := by decide +kernel
theorem dX2_startAnew_0 : decode cX2_startAnew 0 = .ok (.iconst 0, 1) := by decide +kernel
theorem dX2_startAnew_1 : decode cX2_startAnew 1 = .ok (.istore_n 1, 1) := by decide +kernel
theorem dX2_startAnew_2 : decode cX2_startAnew 2 = .ok (.iload_n 1, 1) := by decide +kernel
theorem dX2_startAnew_3 : decode cX2_startAnew 3 = .ok (.bipush 25, 2) := by decide +kernel
theorem dX2_startAnew_5 : decode cX2_startAnew 5 = .ok (.if_icmp .ge 30, 3) := by decide +kernel
theorem dX2_startAnew_8 : decode cX2_startAnew 8 = .ok (.aload_n 0, 1) := by decide +kernel
theorem dX2_startAnew_9 : decode cX2_startAnew 9 = .ok (.getfield 9, 3) := by decide +kernel
theorem dX2_startAnew_12 : decode cX2_startAnew 12 = .ok (.iload_n 1, 1) := by decide +kernel
theorem dX2_startAnew_13 : decode cX2_startAnew 13 = .ok (.iconst 0, 1) := by decide +kernel
theorem dX2_startAnew_14 : decode cX2_startAnew 14 = .ok (.iastore, 1) := by decide +kernel
theorem dX2_startAnew_15 : decode cX2_startAnew 15 = .ok (.aload_n 0, 1) := by decide +kernel
theorem dX2_startAnew_16 : decode cX2_startAnew 16 = .ok (.getfield 15, 3) := by decide +kernel
theorem dX2_startAnew_19 : decode cX2_startAnew 19 = .ok (.iload_n 1, 1) := by decide +kernel
theorem dX2_startAnew_20 : decode cX2_startAnew 20 = .ok (.iconst 0, 1) := by decide +kernel
theorem dX2_startAnew_21 : decode cX2_startAnew 21 = .ok (.iastore, 1) := by decide +kernel
theorem dX2_startAnew_22 : decode cX2_startAnew 22 = .ok (.aload_n 0, 1) := by decide +kernel
theorem dX2_startAnew_23 : decode cX2_startAnew 23 = .ok (.getfield 18, 3) := by decide +kernel
theorem dX2_startAnew_26 : decode cX2_startAnew 26 = .ok (.iload_n 1, 1) := by decide +kernel
theorem dX2_startAnew_27 : decode cX2_startAnew 27 = .ok (.iconst 0, 1) := by decide +kernel
theorem dX2_startAnew_28 : decode cX2_startAnew 28 = .ok (.iastore, 1) := by decide +kernel
theorem dX2_startAnew_29 : decode cX2_startAnew 29 = .ok (.iinc 1 1, 3) := by decide +kernel
theorem dX2_startAnew_32 : decode cX2_startAnew 32 = .ok (.goto (-30), 3) := by decide +kernel
theorem dX2_startAnew_35 : decode cX2_startAnew 35 = .ok (.aload_n 0, 1) := by decide +kernel
theorem dX2_startAnew_36 : decode cX2_startAnew 36 = .ok (.iconst 0, 1) := by decide +kernel
theorem dX2_startAnew_37 : decode cX2_startAnew 37 = .ok (.putfield 21, 3) := by decide +kernel
theorem dX2_startAnew_40 : decode cX2_startAnew 40 = .ok (.aload_n 0, 1) := by decide +kernel
theorem dX2_startAnew_41 : decode cX2_startAnew 41 = .ok (.iconst 0, 1) := by decide +kernel
theorem dX2_startAnew_42 : decode cX2_startAnew 42 = .ok (.putfield 25, 3) := by decide +kernel
theorem dX2_startAnew_45 : decode cX2_startAnew 45 = .ok (.return_, 1) := by decide +kernel
theorem dX2_isDue_0 : decode cX2_isDue 0 = .ok (.iload_n 2, 1) := by decide +kernel
theorem dX2_isDue_1 : decode cX2_isDue 1 = .ok (.aload_n 0, 1) := by decide +kernel
theorem dX2_isDue_2 : decode cX2_isDue 2 = .ok (.getfield 21, 3) := by decide +kernel
theorem dX2_isDue_5 : decode cX2_isDue 5 = .ok (.iload_n 1, 1) := by decide +kernel
theorem dX2_isDue_6 : decode cX2_isDue 6 = .ok (.invokestatic 28, 3) := by decide +kernel
theorem dX2_isDue_9 : decode cX2_isDue 9 = .ok (.if_icmp .ne 12, 3) := by decide +kernel
theorem dX2_isDue_12 : decode cX2_isDue 12 = .ok (.aload_n 0, 1) := by decide +kernel
theorem dX2_isDue_13 : decode cX2_isDue 13 = .ok (.getfield 9, 3) := by decide +kernel
theorem dX2_isDue_16 : decode cX2_isDue 16 = .ok (.iload_n 1, 1) := by decide +kernel
theorem dX2_isDue_17 : decode cX2_isDue 17 = .ok (.iconst 0, 1) := by decide +kernel
theorem dX2_isDue_18 : decode cX2_isDue 18 = .ok (.iastore, 1) := by decide +kernel
theorem dX2_isDue_19 : decode cX2_isDue 19 = .ok (.iconst 0, 1) := by decide +kernel
theorem dX2_isDue_20 : decode cX2_isDue 20 = .ok (.ireturn, 1) := by decide +kernel
theorem dX2_isDue_21 : decode cX2_isDue 21 = .ok (.aload_n 0, 1) := by decide +kernel
theorem dX2_isDue_22 : decode cX2_isDue 22 = .ok (.getfield 9, 3) := by decide +kernel
theorem dX2_isDue_25 : decode cX2_isDue 25 = .ok (.iload_n 1, 1) := by decide +kernel
theorem dX2_isDue_26 : decode cX2_isDue 26 = .ok (.dup2, 1) := by decide +kernel
theorem dX2_isDue_27 : decode cX2_isDue 27 = .ok (.iaload, 1) := by decide +kernel
theorem dX2_isDue_28 : decode cX2_isDue 28 = .ok (.iconst 1, 1) := by decide +kernel
theorem dX2_isDue_29 : decode cX2_isDue 29 = .ok (.iadd, 1) := by decide +kernel
theorem dX2_isDue_30 : decode cX2_isDue 30 = .ok (.iastore, 1) := by decide +kernel
theorem dX2_isDue_31 : decode cX2_isDue 31 = .ok (.aload_n 0, 1) := by decide +kernel
theorem dX2_isDue_32 : decode cX2_isDue 32 = .ok (.getfield 9, 3) := by decide +kernel
theorem dX2_isDue_35 : decode cX2_isDue 35 = .ok (.iload_n 1, 1) := by decide +kernel
theorem dX2_isDue_36 : decode cX2_isDue 36 = .ok (.iaload, 1) := by decide +kernel
theorem dX2_isDue_37 : decode cX2_isDue 37 = .ok (.iload_n 3, 1) := by decide +kernel
theorem dX2_isDue_38 : decode cX2_isDue 38 = .ok (.if_icmp .lt 7, 3) := by decide +kernel
theorem dX2_isDue_41 : decode cX2_isDue 41 = .ok (.iconst 1, 1) := by decide +kernel
theorem dX2_isDue_42 : decode cX2_isDue 42 = .ok (.goto 4, 3) := by decide +kernel
theorem dX2_isDue_45 : decode cX2_isDue 45 = .ok (.iconst 0, 1) := by decide +kernel
theorem dX2_isDue_46 : decode cX2_isDue 46 = .ok (.ireturn, 1) := by decide +kernel
theorem dX2_change_0 : decode cX2_change 0 = .ok (.aload_n 0, 1) := by decide +kernel
theorem dX2_change_1 : decode cX2_change 1 = .ok (.dup, 1) := by decide +kernel
theorem dX2_change_2 : decode cX2_change 2 = .ok (.getfield 21, 3) := by decide +kernel
theorem dX2_change_5 : decode cX2_change 5 = .ok (.iconst 1, 1) := by decide +kernel
theorem dX2_change_6 : decode cX2_change 6 = .ok (.iload_n 1, 1) := by decide +kernel
theorem dX2_change_7 : decode cX2_change 7 = .ok (.ishl, 1) := by decide +kernel
theorem dX2_change_8 : decode cX2_change 8 = .ok (.ixor, 1) := by decide +kernel
theorem dX2_change_9 : decode cX2_change 9 = .ok (.putfield 21, 3) := by decide +kernel
theorem dX2_change_12 : decode cX2_change 12 = .ok (.aload_n 0, 1) := by decide +kernel
theorem dX2_change_13 : decode cX2_change 13 = .ok (.getfield 9, 3) := by decide +kernel
theorem dX2_change_16 : decode cX2_change 16 = .ok (.iload_n 1, 1) := by decide +kernel
theorem dX2_change_17 : decode cX2_change 17 = .ok (.iconst 0, 1) := by decide +kernel
theorem dX2_change_18 : decode cX2_change 18 = .ok (.iastore, 1) := by decide +kernel
theorem dX2_change_19 : decode cX2_change 19 = .ok (.aload_n 0, 1) := by decide +kernel
theorem dX2_change_20 : decode cX2_change 20 = .ok (.getfield 15, 3) := by decide +kernel
theorem dX2_change_23 : decode cX2_change 23 = .ok (.iload_n 1, 1) := by decide +kernel
theorem dX2_change_24 : decode cX2_change 24 = .ok (.dup2, 1) := by decide +kernel
theorem dX2_change_25 : decode cX2_change 25 = .ok (.iaload, 1) := by decide +kernel
theorem dX2_change_26 : decode cX2_change 26 = .ok (.iconst 1, 1) := by decide +kernel
theorem dX2_change_27 : decode cX2_change 27 = .ok (.iadd, 1) := by decide +kernel
theorem dX2_change_28 : decode cX2_change 28 = .ok (.iastore, 1) := by decide +kernel
theorem dX2_change_29 : decode cX2_change 29 = .ok (.aload_n 0, 1) := by decide +kernel
theorem dX2_change_30 : decode cX2_change 30 = .ok (.getfield 18, 3) := by decide +kernel
theorem dX2_change_33 : decode cX2_change 33 = .ok (.iload_n 1, 1) := by decide +kernel
theorem dX2_change_34 : decode cX2_change 34 = .ok (.iload_n 2, 1) := by decide +kernel
theorem dX2_change_35 : decode cX2_change 35 = .ok (.iastore, 1) := by decide +kernel
theorem dX2_change_36 : decode cX2_change 36 = .ok (.aload_n 0, 1) := by decide +kernel
theorem dX2_change_37 : decode cX2_change 37 = .ok (.dup, 1) := by decide +kernel
theorem dX2_change_38 : decode cX2_change 38 = .ok (.getfield 25, 3) := by decide +kernel
theorem dX2_change_41 : decode cX2_change 41 = .ok (.iconst 1, 1) := by decide +kernel
theorem dX2_change_42 : decode cX2_change 42 = .ok (.iadd, 1) := by decide +kernel
theorem dX2_change_43 : decode cX2_change 43 = .ok (.putfield 25, 3) := by decide +kernel
theorem dX2_change_46 : decode cX2_change 46 = .ok (.return_, 1) := by decide +kernel
