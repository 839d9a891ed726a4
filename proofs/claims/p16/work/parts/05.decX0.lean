theorem dX0_init_0 : decode cX0_init 0 = .ok (.aload_n 0, 1) := by decide +kernel
theorem dX0_init_1 : decode cX0_init 1 = .ok (.invokespecial 3, 3) := by decide +kernel
theorem dX0_init_4 : decode cX0_init 4 = .ok (.aload_n 0, 1) := by decide +kernel
theorem dX0_init_5 : decode cX0_init 5 = .ok (.bipush 25, 2) := by decide +kernel
theorem dX0_init_7 : decode cX0_init 7 = .ok (.newarray .int, 2) := by decide +kernel
theorem dX0_init_9 : decode cX0_init 9 = .ok (.putfield 9, 3) := by decide +kernel
theorem dX0_init_12 : decode cX0_init 12 = .ok (.aload_n 0, 1) := by decide +kernel
theorem dX0_init_13 : decode cX0_init 13 = .ok (.bipush 25, 2) := by decide +kernel
theorem dX0_init_15 : decode cX0_init 15 = .ok (.newarray .int, 2) := by decide +kernel
theorem dX0_init_17 : decode cX0_init 17 = .ok (.putfield 15, 3) := by decide +kernel
theorem dX0_init_20 : decode cX0_init 20 = .ok (.aload_n 0, 1) := by decide +kernel
theorem dX0_init_21 : decode cX0_init 21 = .ok (.bipush 25, 2) := by decide +kernel
theorem dX0_init_23 : decode cX0_init 23 = .ok (.newarray .int, 2) := by decide +kernel
theorem dX0_init_25 : decode cX0_init 25 = .ok (.putfield 18, 3) := by decide +kernel
theorem dX0_init_28 : decode cX0_init 28 = .ok (.aload_n 0, 1) := by decide +kernel
theorem dX0_init_29 : decode cX0_init 29 = .ok (.bipush 25, 2) := by decide +kernel
theorem dX0_init_31 : decode cX0_init 31 = .ok (.newarray .int, 2) := by decide +kernel
theorem dX0_init_33 : decode cX0_init 33 = .ok (.putfield 21, 3) := by decide +kernel
theorem dX0_init_36 : decode cX0_init 36 = .ok (.aload_n 0, 1) := by decide +kernel
theorem dX0_init_37 : decode cX0_init 37 = .ok (.iconst 0, 1) := by decide +kernel
theorem dX0_init_38 : decode cX0_init 38 = .ok (.putfield 24, 3) := by decide +kernel
theorem dX0_init_41 : decode cX0_init 41 = .ok (.aload_n 0, 1) := by decide +kernel
theorem dX0_init_42 : decode cX0_init 42 = .ok (.bipush 23, 2) := by decide +kernel
theorem dX0_init_44 : decode cX0_init 44 = .ok (.putfield 28, 3) := by decide +kernel
theorem dX0_init_47 : decode cX0_init 47 = .ok (.return_, 1) := by decide +kernel
theorem dX0_startAnew_0 : decode cX0_startAnew 0 = .ok (.iconst 0, 1) := by decide +kernel
theorem dX0_startAnew_1 : decode cX0_startAnew 1 = .ok (.istore_n 1, 1) := by decide +kernel
theorem dX0_startAnew_2 : decode cX0_startAnew 2 = .ok (.iload_n 1, 1) := by decide +kernel
theorem dX0_startAnew_3 : decode cX0_startAnew 3 = .ok (.bipush 25, 2) := by decide +kernel
theorem dX0_startAnew_5 : decode cX0_startAnew 5 = .ok (.if_icmp .ge 37, 3) := by decide +kernel
theorem dX0_startAnew_8 : decode cX0_startAnew 8 = .ok (.aload_n 0, 1) := by decide +kernel
theorem dX0_startAnew_9 : decode cX0_startAnew 9 = .ok (.getfield 9, 3) := by decide +kernel
theorem dX0_startAnew_12 : decode cX0_startAnew 12 = .ok (.iload_n 1, 1) := by decide +kernel
theorem dX0_startAnew_13 : decode cX0_startAnew 13 = .ok (.iconst 0, 1) := by decide +kernel
theorem dX0_startAnew_14 : decode cX0_startAnew 14 = .ok (.iastore, 1) := by decide +kernel
theorem dX0_startAnew_15 : decode cX0_startAnew 15 = .ok (.aload_n 0, 1) := by decide +kernel
theorem dX0_startAnew_16 : decode cX0_startAnew 16 = .ok (.getfield 15, 3) := by decide +kernel
theorem dX0_startAnew_19 : decode cX0_startAnew 19 = .ok (.iload_n 1, 1) := by decide +kernel
theorem dX0_startAnew_20 : decode cX0_startAnew 20 = .ok (.iconst 0, 1) := by decide +kernel
theorem dX0_startAnew_21 : decode cX0_startAnew 21 = .ok (.iastore, 1) := by decide +kernel
theorem dX0_startAnew_22 : decode cX0_startAnew 22 = .ok (.aload_n 0, 1) := by decide +kernel
theorem dX0_startAnew_23 : decode cX0_startAnew 23 = .ok (.getfield 18, 3) := by decide +kernel
theorem dX0_startAnew_26 : decode cX0_startAnew 26 = .ok (.iload_n 1, 1) := by decide +kernel
theorem dX0_startAnew_27 : decode cX0_startAnew 27 = .ok (.iconst 0, 1) := by decide +kernel
theorem dX0_startAnew_28 : decode cX0_startAnew 28 = .ok (.iastore, 1) := by decide +kernel
theorem dX0_startAnew_29 : decode cX0_startAnew 29 = .ok (.aload_n 0, 1) := by decide +kernel
theorem dX0_startAnew_30 : decode cX0_startAnew 30 = .ok (.getfield 21, 3) := by decide +kernel
theorem dX0_startAnew_33 : decode cX0_startAnew 33 = .ok (.iload_n 1, 1) := by decide +kernel
theorem dX0_startAnew_34 : decode cX0_startAnew 34 = .ok (.iconst (-1), 1) := by decide +kernel
theorem dX0_startAnew_35 : decode cX0_startAnew 35 = .ok (.iastore, 1) := by decide +kernel
theorem dX0_startAnew_36 : decode cX0_startAnew 36 = .ok (.iinc 1 1, 3) := by decide +kernel
theorem dX0_startAnew_39 : decode cX0_startAnew 39 = .ok (.goto (-37), 3) := by decide +kernel
theorem dX0_startAnew_42 : decode cX0_startAnew 42 = .ok (.aload_n 0, 1) := by decide +kernel
theorem dX0_startAnew_43 : decode cX0_startAnew 43 = .ok (.iconst 0, 1) := by decide +kernel
theorem dX0_startAnew_44 : decode cX0_startAnew 44 = .ok (.putfield 24, 3) := by decide +kernel
theorem dX0_startAnew_47 : decode cX0_startAnew 47 = .ok (.return_, 1) := by decide +kernel
theorem dX0_move_0 : decode cX0_move 0 = .ok (.aload_n 0, 1) := by decide +kernel
theorem dX0_move_1 : decode cX0_move 1 = .ok (.getfield 24, 3) := by decide +kernel
theorem dX0_move_4 : decode cX0_move 4 = .ok (.iload_n 1, 1) := by decide +kernel
theorem dX0_move_5 : decode cX0_move 5 = .ok (.invokestatic 31, 3) := by decide +kernel
theorem dX0_move_8 : decode cX0_move 8 = .ok (.iload_n 2, 1) := by decide +kernel
theorem dX0_move_9 : decode cX0_move 9 = .ok (.if_icmp .ne 4, 3) := by decide +kernel
theorem dX0_move_12 : decode cX0_move 12 = .ok (.return_, 1) := by decide +kernel
theorem dX0_move_13 : decode cX0_move 13 = .ok (.aload_n 0, 1) := by decide +kernel
theorem dX0_move_14 : decode cX0_move 14 = .ok (.dup, 1) := by decide +kernel
theorem dX0_move_15 : decode cX0_move 15 = .ok (.getfield 24, 3) := by decide +kernel
theorem dX0_move_18 : decode cX0_move 18 = .ok (.iconst 1, 1) := by decide +kernel
theorem dX0_move_19 : decode cX0_move 19 = .ok (.iload_n 1, 1) := by decide +kernel
theorem dX0_move_20 : decode cX0_move 20 = .ok (.ishl, 1) := by decide +kernel
theorem dX0_move_21 : decode cX0_move 21 = .ok (.ixor, 1) := by decide +kernel
theorem dX0_move_22 : decode cX0_move 22 = .ok (.putfield 24, 3) := by decide +kernel
theorem dX0_move_25 : decode cX0_move 25 = .ok (.aload_n 0, 1) := by decide +kernel
theorem dX0_move_26 : decode cX0_move 26 = .ok (.getfield 18, 3) := by decide +kernel
theorem dX0_move_29 : decode cX0_move 29 = .ok (.iload_n 1, 1) := by decide +kernel
theorem dX0_move_30 : decode cX0_move 30 = .ok (.aload_n 0, 1) := by decide +kernel
theorem dX0_move_31 : decode cX0_move 31 = .ok (.getfield 9, 3) := by decide +kernel
theorem dX0_move_34 : decode cX0_move 34 = .ok (.iload_n 1, 1) := by decide +kernel
theorem dX0_move_35 : decode cX0_move 35 = .ok (.iaload, 1) := by decide +kernel
theorem dX0_move_36 : decode cX0_move 36 = .ok (.iastore, 1) := by decide +kernel
theorem dX0_move_37 : decode cX0_move 37 = .ok (.aload_n 0, 1) := by decide +kernel
theorem dX0_move_38 : decode cX0_move 38 = .ok (.getfield 21, 3) := by decide +kernel
theorem dX0_move_41 : decode cX0_move 41 = .ok (.iload_n 1, 1) := by decide +kernel
theorem dX0_move_42 : decode cX0_move 42 = .ok (.iload_n 3, 1) := by decide +kernel
theorem dX0_move_43 : decode cX0_move 43 = .ok (.iastore, 1) := by decide +kernel
theorem dX0_move_44 : decode cX0_move 44 = .ok (.return_, 1) := by decide +kernel
theorem dX0_closedNow_0 : decode cX0_closedNow 0 = .ok (.iconst 0, 1) := by decide +kernel
theorem dX0_closedNow_1 : decode cX0_closedNow 1 = .ok (.istore_n 3, 1) := by decide +kernel
theorem dX0_closedNow_2 : decode cX0_closedNow 2 = .ok (.iconst 0, 1) := by decide +kernel
theorem dX0_closedNow_3 : decode cX0_closedNow 3 = .ok (.istore 4, 2) := by decide +kernel
theorem dX0_closedNow_5 : decode cX0_closedNow 5 = .ok (.iload 4, 2) := by decide +kernel
theorem dX0_closedNow_7 : decode cX0_closedNow 7 = .ok (.iload_n 2, 1) := by decide +kernel
theorem dX0_closedNow_8 : decode cX0_closedNow 8 = .ok (.if_icmp .ge 34, 3) := by decide +kernel
theorem dX0_closedNow_11 : decode cX0_closedNow 11 = .ok (.iload_n 1, 1) := by decide +kernel
theorem dX0_closedNow_12 : decode cX0_closedNow 12 = .ok (.iload 4, 2) := by decide +kernel
theorem dX0_closedNow_14 : decode cX0_closedNow 14 = .ok (.invokestatic 31, 3) := by decide +kernel
theorem dX0_closedNow_17 : decode cX0_closedNow 17 = .ok (.ifCond .eq 19, 3) := by decide +kernel
theorem dX0_closedNow_20 : decode cX0_closedNow 20 = .ok (.aload_n 0, 1) := by decide +kernel
theorem dX0_closedNow_21 : decode cX0_closedNow 21 = .ok (.iload 4, 2) := by decide +kernel
theorem dX0_closedNow_23 : decode cX0_closedNow 23 = .ok (.invokevirtual 35, 3) := by decide +kernel
theorem dX0_closedNow_26 : decode cX0_closedNow 26 = .ok (.ifCond .eq 10, 3) := by decide +kernel
theorem dX0_closedNow_29 : decode cX0_closedNow 29 = .ok (.iload_n 3, 1) := by decide +kernel
theorem dX0_closedNow_30 : decode cX0_closedNow 30 = .ok (.iconst 1, 1) := by decide +kernel
theorem dX0_closedNow_31 : decode cX0_closedNow 31 = .ok (.iload 4, 2) := by decide +kernel
theorem dX0_closedNow_33 : decode cX0_closedNow 33 = .ok (.ishl, 1) := by decide +kernel
theorem dX0_closedNow_34 : decode cX0_closedNow 34 = .ok (.ior, 1) := by decide +kernel
theorem dX0_closedNow_35 : decode cX0_closedNow 35 = .ok (.istore_n 3, 1) := by decide +kernel
theorem dX0_closedNow_36 : decode cX0_closedNow 36 = .ok (.iinc 4 1, 3) := by decide +kernel
theorem dX0_closedNow_39 : decode cX0_closedNow 39 = .ok (.goto (-34), 3) := by decide +kernel
theorem dX0_closedNow_42 : decode cX0_closedNow 42 = .ok (.iload_n 3, 1) := by decide +kernel
theorem dX0_closedNow_43 : decode cX0_closedNow 43 = .ok (.ireturn, 1) := by decide +kernel
theorem dX0_isClosedNow_0 : decode cX0_isClosedNow 0 = .ok (.aload_n 0, 1) := by decide +kernel
theorem dX0_isClosedNow_1 : decode cX0_isClosedNow 1 = .ok (.getfield 15, 3) := by decide +kernel
theorem dX0_isClosedNow_4 : decode cX0_isClosedNow 4 = .ok (.iload_n 1, 1) := by decide +kernel
theorem dX0_isClosedNow_5 : decode cX0_isClosedNow 5 = .ok (.iaload, 1) := by decide +kernel
theorem dX0_isClosedNow_6 : decode cX0_isClosedNow 6 = .ok (.ifCond .eq 19, 3) := by decide +kernel
theorem dX0_isClosedNow_9 : decode cX0_isClosedNow 9 = .ok (.aload_n 0, 1) := by decide +kernel
theorem dX0_isClosedNow_10 : decode cX0_isClosedNow 10 = .ok (.getfield 15, 3) := by decide +kernel
theorem dX0_isClosedNow_13 : decode cX0_isClosedNow 13 = .ok (.iload_n 1, 1) := by decide +kernel
theorem dX0_isClosedNow_14 : decode cX0_isClosedNow 14 = .ok (.iaload, 1) := by decide +kernel
theorem dX0_isClosedNow_15 : decode cX0_isClosedNow 15 = .ok (.iconst 1, 1) := by decide +kernel
theorem dX0_isClosedNow_16 : decode cX0_isClosedNow 16 = .ok (.if_icmp .eq 7, 3) := by decide +kernel
theorem dX0_isClosedNow_19 : decode cX0_isClosedNow 19 = .ok (.iconst 1, 1) := by decide +kernel
theorem dX0_isClosedNow_20 : decode cX0_isClosedNow 20 = .ok (.goto 4, 3) := by decide +kernel
theorem dX0_isClosedNow_23 : decode cX0_isClosedNow 23 = .ok (.iconst 0, 1) := by decide +kernel
theorem dX0_isClosedNow_24 : decode cX0_isClosedNow 24 = .ok (.ireturn, 1) := by decide +kernel
theorem dX0_isClosedNow_25 : decode cX0_isClosedNow 25 = .ok (.aload_n 0, 1) := by decide +kernel
theorem dX0_isClosedNow_26 : decode cX0_isClosedNow 26 = .ok (.getfield 18, 3) := by decide +kernel
theorem dX0_isClosedNow_29 : decode cX0_isClosedNow 29 = .ok (.iload_n 1, 1) := by decide +kernel
theorem dX0_isClosedNow_30 : decode cX0_isClosedNow 30 = .ok (.iaload, 1) := by decide +kernel
theorem dX0_isClosedNow_31 : decode cX0_isClosedNow 31 = .ok (.ifCond .le 47, 3) := by decide +kernel
theorem dX0_isClosedNow_34 : decode cX0_isClosedNow 34 = .ok (.aload_n 0, 1) := by decide +kernel
theorem dX0_isClosedNow_35 : decode cX0_isClosedNow 35 = .ok (.getfield 18, 3) := by decide +kernel
theorem dX0_isClosedNow_38 : decode cX0_isClosedNow 38 = .ok (.iload_n 1, 1) := by decide +kernel
theorem dX0_isClosedNow_39 : decode cX0_isClosedNow 39 = .ok (.dup2, 1) := by decide +kernel
theorem dX0_isClosedNow_40 : decode cX0_isClosedNow 40 = .ok (.iaload, 1) := by decide +kernel
theorem dX0_isClosedNow_41 : decode cX0_isClosedNow 41 = .ok (.iconst 1, 1) := by decide +kernel
theorem dX0_isClosedNow_42 : decode cX0_isClosedNow 42 = .ok (.isub, 1) := by decide +kernel
theorem dX0_isClosedNow_43 : decode cX0_isClosedNow 43 = .ok (.iastore, 1) := by decide +kernel
theorem dX0_isClosedNow_44 : decode cX0_isClosedNow 44 = .ok (.aload_n 0, 1) := by decide +kernel
theorem dX0_isClosedNow_45 : decode cX0_isClosedNow 45 = .ok (.bipush 61, 2) := by decide +kernel
theorem dX0_isClosedNow_47 : decode cX0_isClosedNow 47 = .ok (.aload_n 0, 1) := by decide +kernel
theorem dX0_isClosedNow_48 : decode cX0_isClosedNow 48 = .ok (.getfield 28, 3) := by decide +kernel
theorem dX0_isClosedNow_51 : decode cX0_isClosedNow 51 = .ok (.imul, 1) := by decide +kernel
theorem dX0_isClosedNow_52 : decode cX0_isClosedNow 52 = .ok (.bipush 35, 2) := by decide +kernel
theorem dX0_isClosedNow_54 : decode cX0_isClosedNow 54 = .ok (.iadd, 1) := by decide +kernel
theorem dX0_isClosedNow_55 : decode cX0_isClosedNow 55 = .ok (.sipush 128, 3) := by decide +kernel
theorem dX0_isClosedNow_58 : decode cX0_isClosedNow 58 = .ok (.irem, 1) := by decide +kernel
theorem dX0_isClosedNow_59 : decode cX0_isClosedNow 59 = .ok (.putfield 28, 3) := by decide +kernel
theorem dX0_isClosedNow_62 : decode cX0_isClosedNow 62 = .ok (.aload_n 0, 1) := by decide +kernel
theorem dX0_isClosedNow_63 : decode cX0_isClosedNow 63 = .ok (.getfield 28, 3) := by decide +kernel
theorem dX0_isClosedNow_66 : decode cX0_isClosedNow 66 = .ok (.iconst 2, 1) := by decide +kernel
theorem dX0_isClosedNow_67 : decode cX0_isClosedNow 67 = .ok (.irem, 1) := by decide +kernel
theorem dX0_isClosedNow_68 : decode cX0_isClosedNow 68 = .ok (.iconst 1, 1) := by decide +kernel
theorem dX0_isClosedNow_69 : decode cX0_isClosedNow 69 = .ok (.if_icmp .ne 7, 3) := by decide +kernel
theorem dX0_isClosedNow_72 : decode cX0_isClosedNow 72 = .ok (.iconst 1, 1) := by decide +kernel
theorem dX0_isClosedNow_73 : decode cX0_isClosedNow 73 = .ok (.goto 4, 3) := by decide +kernel
theorem dX0_isClosedNow_76 : decode cX0_isClosedNow 76 = .ok (.iconst 0, 1) := by decide +kernel
theorem dX0_isClosedNow_77 : decode cX0_isClosedNow 77 = .ok (.ireturn, 1) := by decide +kernel
theorem dX0_isClosedNow_78 : decode cX0_isClosedNow 78 = .ok (.aload_n 0, 1) := by decide +kernel
theorem dX0_isClosedNow_79 : decode cX0_isClosedNow 79 = .ok (.getfield 24, 3) := by decide +kernel
theorem dX0_isClosedNow_82 : decode cX0_isClosedNow 82 = .ok (.iload_n 1, 1) := by decide +kernel
theorem dX0_isClosedNow_83 : decode cX0_isClosedNow 83 = .ok (.invokestatic 31, 3) := by decide +kernel
theorem dX0_isClosedNow_86 : decode cX0_isClosedNow 86 = .ok (.ireturn, 1) := by decide +kernel
