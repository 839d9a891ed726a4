theorem dX7_isIn_0 : decode cX7_isIn 0 = .ok (.iload_n 0, 1) := by decide +kernel
theorem dX7_isIn_1 : decode cX7_isIn 1 = .ok (.iload_n 1, 1) := by decide +kernel
theorem dX7_isIn_2 : decode cX7_isIn 2 = .ok (.if_icmp .lt 12, 3) := by decide +kernel
theorem dX7_isIn_5 : decode cX7_isIn 5 = .ok (.iload_n 0, 1) := by decide +kernel
theorem dX7_isIn_6 : decode cX7_isIn 6 = .ok (.iload_n 2, 1) := by decide +kernel
theorem dX7_isIn_7 : decode cX7_isIn 7 = .ok (.if_icmp .gt 7, 3) := by decide +kernel
theorem dX7_isIn_10 : decode cX7_isIn 10 = .ok (.iconst 1, 1) := by decide +kernel
theorem dX7_isIn_11 : decode cX7_isIn 11 = .ok (.goto 4, 3) := by decide +kernel
theorem dX7_isIn_14 : decode cX7_isIn 14 = .ok (.iconst 0, 1) := by decide +kernel
theorem dX7_isIn_15 : decode cX7_isIn 15 = .ok (.ireturn, 1) := by decide +kernel
theorem dX7_one_0 : decode cX7_one 0 = .ok (.iload_n 0, 1) := by decide +kernel
theorem dX7_one_1 : decode cX7_one 1 = .ok (.ifCond .eq 7, 3) := by decide +kernel
theorem dX7_one_4 : decode cX7_one 4 = .ok (.iconst 1, 1) := by decide +kernel
theorem dX7_one_5 : decode cX7_one 5 = .ok (.goto 4, 3) := by decide +kernel
theorem dX7_one_8 : decode cX7_one 8 = .ok (.iconst 0, 1) := by decide +kernel
theorem dX7_one_9 : decode cX7_one 9 = .ok (.ireturn, 1) := by decide +kernel
theorem dX7_has_0 : decode cX7_has 0 = .ok (.iload_n 0, 1) := by decide +kernel
theorem dX7_has_1 : decode cX7_has 1 = .ok (.iload_n 1, 1) := by decide +kernel
theorem dX7_has_2 : decode cX7_has 2 = .ok (.ishr, 1) := by decide +kernel
theorem dX7_has_3 : decode cX7_has 3 = .ok (.iconst 1, 1) := by decide +kernel
theorem dX7_has_4 : decode cX7_has 4 = .ok (.iand, 1) := by decide +kernel
theorem dX7_has_5 : decode cX7_has 5 = .ok (.iconst 1, 1) := by decide +kernel
theorem dX7_has_6 : decode cX7_has 6 = .ok (.if_icmp .ne 7, 3) := by decide +kernel
theorem dX7_has_9 : decode cX7_has 9 = .ok (.iconst 1, 1) := by decide +kernel
theorem dX7_has_10 : decode cX7_has 10 = .ok (.goto 4, 3) := by decide +kernel
theorem dX7_has_13 : decode cX7_has 13 = .ok (.iconst 0, 1) := by decide +kernel
theorem dX7_has_14 : decode cX7_has 14 = .ok (.ireturn, 1) := by decide +kernel
theorem dX7_with_0 : decode cX7_with 0 = .ok (.iload_n 2, 1) := by decide +kernel
theorem dX7_with_1 : decode cX7_with 1 = .ok (.ifCond .eq 11, 3) := by decide +kernel
theorem dX7_with_4 : decode cX7_with 4 = .ok (.iload_n 0, 1) := by decide +kernel
theorem dX7_with_5 : decode cX7_with 5 = .ok (.iconst 1, 1) := by decide +kernel
theorem dX7_with_6 : decode cX7_with 6 = .ok (.iload_n 1, 1) := by decide +kernel
theorem dX7_with_7 : decode cX7_with 7 = .ok (.ishl, 1) := by decide +kernel
theorem dX7_with_8 : decode cX7_with 8 = .ok (.ior, 1) := by decide +kernel
theorem dX7_with_9 : decode cX7_with 9 = .ok (.goto 10, 3) := by decide +kernel
theorem dX7_with_12 : decode cX7_with 12 = .ok (.iload_n 0, 1) := by decide +kernel
theorem dX7_with_13 : decode cX7_with 13 = .ok (.iconst 1, 1) := by decide +kernel
theorem dX7_with_14 : decode cX7_with 14 = .ok (.iload_n 1, 1) := by decide +kernel
theorem dX7_with_15 : decode cX7_with 15 = .ok (.ishl, 1) := by decide +kernel
theorem dX7_with_16 : decode cX7_with 16 = .ok (.iconst (-1), 1) := by decide +kernel
theorem dX7_with_17 : decode cX7_with 17 = .ok (.ixor, 1) := by decide +kernel
theorem dX7_with_18 : decode cX7_with 18 = .ok (.iand, 1) := by decide +kernel
theorem dX7_with_19 : decode cX7_with 19 = .ok (.ireturn, 1) := by decide +kernel
theorem dX7_many_0 : decode cX7_many 0 = .ok (.iconst 0, 1) := by decide +kernel
theorem dX7_many_1 : decode cX7_many 1 = .ok (.istore_n 1, 1) := by decide +kernel
theorem dX7_many_2 : decode cX7_many 2 = .ok (.iload_n 0, 1) := by decide +kernel
theorem dX7_many_3 : decode cX7_many 3 = .ok (.istore_n 2, 1) := by decide +kernel
theorem dX7_many_4 : decode cX7_many 4 = .ok (.iload_n 2, 1) := by decide +kernel
theorem dX7_many_5 : decode cX7_many 5 = .ok (.ifCond .le 16, 3) := by decide +kernel
theorem dX7_many_8 : decode cX7_many 8 = .ok (.iload_n 1, 1) := by decide +kernel
theorem dX7_many_9 : decode cX7_many 9 = .ok (.iload_n 2, 1) := by decide +kernel
theorem dX7_many_10 : decode cX7_many 10 = .ok (.iconst 2, 1) := by decide +kernel
theorem dX7_many_11 : decode cX7_many 11 = .ok (.irem, 1) := by decide +kernel
theorem dX7_many_12 : decode cX7_many 12 = .ok (.iadd, 1) := by decide +kernel
theorem dX7_many_13 : decode cX7_many 13 = .ok (.istore_n 1, 1) := by decide +kernel
theorem dX7_many_14 : decode cX7_many 14 = .ok (.iload_n 2, 1) := by decide +kernel
theorem dX7_many_15 : decode cX7_many 15 = .ok (.iconst 2, 1) := by decide +kernel
theorem dX7_many_16 : decode cX7_many 16 = .ok (.idiv, 1) := by decide +kernel
theorem dX7_many_17 : decode cX7_many 17 = .ok (.istore_n 2, 1) := by decide +kernel
theorem dX7_many_18 : decode cX7_many 18 = .ok (.goto (-14), 3) := by decide +kernel
theorem dX7_many_21 : decode cX7_many 21 = .ok (.iload_n 1, 1) := by decide +kernel
theorem dX7_many_22 : decode cX7_many 22 = .ok (.ireturn, 1) := by decide +kernel
theorem dX7_init_0 : decode cX7_init 0 = .ok (.aload_n 0, 1) := by decide +kernel
theorem dX7_init_1 : decode cX7_init 1 = .ok (.invokespecial 1, 3) := by decide +kernel
theorem dX7_init_4 : decode cX7_init 4 = .ok (.aload_n 0, 1) := by decide +kernel
theorem dX7_init_5 : decode cX7_init 5 = .ok (.bipush 23, 2) := by decide +kernel
theorem dX7_init_7 : decode cX7_init 7 = .ok (.putfield 7, 3) := by decide +kernel
theorem dX7_init_10 : decode cX7_init 10 = .ok (.aload_n 0, 1) := by decide +kernel
theorem dX7_init_11 : decode cX7_init 11 = .ok (.new 13, 3) := by decide +kernel
theorem dX7_init_14 : decode cX7_init 14 = .ok (.dup, 1) := by decide +kernel
theorem dX7_init_15 : decode cX7_init 15 = .ok (.invokespecial 15, 3) := by decide +kernel
theorem dX7_init_18 : decode cX7_init 18 = .ok (.putfield 16, 3) := by decide +kernel
theorem dX7_init_21 : decode cX7_init 21 = .ok (.aload_n 0, 1) := by decide +kernel
theorem dX7_init_22 : decode cX7_init 22 = .ok (.new 13, 3) := by decide +kernel
theorem dX7_init_25 : decode cX7_init 25 = .ok (.dup, 1) := by decide +kernel
theorem dX7_init_26 : decode cX7_init 26 = .ok (.invokespecial 15, 3) := by decide +kernel
theorem dX7_init_29 : decode cX7_init 29 = .ok (.putfield 20, 3) := by decide +kernel
theorem dX7_init_32 : decode cX7_init 32 = .ok (.aload_n 0, 1) := by decide +kernel
theorem dX7_init_33 : decode cX7_init 33 = .ok (.new 23, 3) := by decide +kernel
theorem dX7_init_36 : decode cX7_init 36 = .ok (.dup, 1) := by decide +kernel
theorem dX7_init_37 : decode cX7_init 37 = .ok (.invokespecial 25, 3) := by decide +kernel
theorem dX7_init_40 : decode cX7_init 40 = .ok (.putfield 26, 3) := by decide +kernel
theorem dX7_init_43 : decode cX7_init 43 = .ok (.aload_n 0, 1) := by decide +kernel
theorem dX7_init_44 : decode cX7_init 44 = .ok (.iconst 3, 1) := by decide +kernel
theorem dX7_init_45 : decode cX7_init 45 = .ok (.iconst 3, 1) := by decide +kernel
theorem dX7_init_46 : decode cX7_init 46 = .ok (.invokevirtual 30, 3) := by decide +kernel
theorem dX7_init_49 : decode cX7_init 49 = .ok (.return_, 1) := by decide +kernel
theorem dX7_begin_0 : decode cX7_begin 0 = .ok (.aload_n 0, 1) := by decide +kernel
theorem dX7_begin_1 : decode cX7_begin 1 = .ok (.iload_n 1, 1) := by decide +kernel
theorem dX7_begin_2 : decode cX7_begin 2 = .ok (.putfield 34, 3) := by decide +kernel
theorem dX7_begin_5 : decode cX7_begin 5 = .ok (.aload_n 0, 1) := by decide +kernel
theorem dX7_begin_6 : decode cX7_begin 6 = .ok (.iload_n 2, 1) := by decide +kernel
theorem dX7_begin_7 : decode cX7_begin 7 = .ok (.putfield 37, 3) := by decide +kernel
theorem dX7_begin_10 : decode cX7_begin 10 = .ok (.aload_n 0, 1) := by decide +kernel
theorem dX7_begin_11 : decode cX7_begin 11 = .ok (.getfield 16, 3) := by decide +kernel
theorem dX7_begin_14 : decode cX7_begin 14 = .ok (.invokevirtual 40, 3) := by decide +kernel
theorem dX7_begin_17 : decode cX7_begin 17 = .ok (.iconst 0, 1) := by decide +kernel
theorem dX7_begin_18 : decode cX7_begin 18 = .ok (.istore_n 3, 1) := by decide +kernel
theorem dX7_begin_19 : decode cX7_begin 19 = .ok (.iload_n 3, 1) := by decide +kernel
theorem dX7_begin_20 : decode cX7_begin 20 = .ok (.aload_n 0, 1) := by decide +kernel
theorem dX7_begin_21 : decode cX7_begin 21 = .ok (.getfield 34, 3) := by decide +kernel
theorem dX7_begin_24 : decode cX7_begin 24 = .ok (.aload_n 0, 1) := by decide +kernel
theorem dX7_begin_25 : decode cX7_begin 25 = .ok (.getfield 37, 3) := by decide +kernel
theorem dX7_begin_28 : decode cX7_begin 28 = .ok (.imul, 1) := by decide +kernel
theorem dX7_begin_29 : decode cX7_begin 29 = .ok (.if_icmp .ge 25, 3) := by decide +kernel
theorem dX7_begin_32 : decode cX7_begin 32 = .ok (.aload_n 0, 1) := by decide +kernel
theorem dX7_begin_33 : decode cX7_begin 33 = .ok (.getfield 16, 3) := by decide +kernel
theorem dX7_begin_36 : decode cX7_begin 36 = .ok (.new 43, 3) := by decide +kernel
theorem dX7_begin_39 : decode cX7_begin 39 = .ok (.dup, 1) := by decide +kernel
theorem dX7_begin_40 : decode cX7_begin 40 = .ok (.iload_n 3, 1) := by decide +kernel
theorem dX7_begin_41 : decode cX7_begin 41 = .ok (.invokespecial 45, 3) := by decide +kernel
theorem dX7_begin_44 : decode cX7_begin 44 = .ok (.invokevirtual 48, 3) := by decide +kernel
theorem dX7_begin_47 : decode cX7_begin 47 = .ok (.pop, 1) := by decide +kernel
theorem dX7_begin_48 : decode cX7_begin 48 = .ok (.iinc 3 1, 3) := by decide +kernel
theorem dX7_begin_51 : decode cX7_begin 51 = .ok (.goto (-32), 3) := by decide +kernel
theorem dX7_begin_54 : decode cX7_begin 54 = .ok (.aload_n 0, 1) := by decide +kernel
theorem dX7_begin_55 : decode cX7_begin 55 = .ok (.iconst 1, 1) := by decide +kernel
theorem dX7_begin_56 : decode cX7_begin 56 = .ok (.aload_n 0, 1) := by decide +kernel
theorem dX7_begin_57 : decode cX7_begin 57 = .ok (.getfield 16, 3) := by decide +kernel
theorem dX7_begin_60 : decode cX7_begin 60 = .ok (.invokevirtual 52, 3) := by decide +kernel
theorem dX7_begin_63 : decode cX7_begin 63 = .ok (.ishl, 1) := by decide +kernel
theorem dX7_begin_64 : decode cX7_begin 64 = .ok (.iconst 1, 1) := by decide +kernel
theorem dX7_begin_65 : decode cX7_begin 65 = .ok (.isub, 1) := by decide +kernel
theorem dX7_begin_66 : decode cX7_begin 66 = .ok (.putfield 56, 3) := by decide +kernel
theorem dX7_begin_69 : decode cX7_begin 69 = .ok (.aload_n 0, 1) := by decide +kernel
theorem dX7_begin_70 : decode cX7_begin 70 = .ok (.iconst 0, 1) := by decide +kernel
theorem dX7_begin_71 : decode cX7_begin 71 = .ok (.putfield 59, 3) := by decide +kernel
theorem dX7_begin_74 : decode cX7_begin 74 = .ok (.aload_n 0, 1) := by decide +kernel
theorem dX7_begin_75 : decode cX7_begin 75 = .ok (.iconst 0, 1) := by decide +kernel
theorem dX7_begin_76 : decode cX7_begin 76 = .ok (.putfield 62, 3) := by decide +kernel
theorem dX7_begin_79 : decode cX7_begin 79 = .ok (.aload_n 0, 1) := by decide +kernel
theorem dX7_begin_80 : decode cX7_begin 80 = .ok (.iconst 0, 1) := by decide +kernel
theorem dX7_begin_81 : decode cX7_begin 81 = .ok (.putfield 65, 3) := by decide +kernel
theorem dX7_begin_84 : decode cX7_begin 84 = .ok (.aload_n 0, 1) := by decide +kernel
theorem dX7_begin_85 : decode cX7_begin 85 = .ok (.iconst 2, 1) := by decide +kernel
theorem dX7_begin_86 : decode cX7_begin 86 = .ok (.putfield 68, 3) := by decide +kernel
theorem dX7_begin_89 : decode cX7_begin 89 = .ok (.aload_n 0, 1) := by decide +kernel
theorem dX7_begin_90 : decode cX7_begin 90 = .ok (.iconst 0, 1) := by decide +kernel
theorem dX7_begin_91 : decode cX7_begin 91 = .ok (.putfield 71, 3) := by decide +kernel
theorem dX7_begin_94 : decode cX7_begin 94 = .ok (.aload_n 0, 1) := by decide +kernel
theorem dX7_begin_95 : decode cX7_begin 95 = .ok (.iconst 0, 1) := by decide +kernel
theorem dX7_begin_96 : decode cX7_begin 96 = .ok (.putfield 75, 3) := by decide +kernel
theorem dX7_begin_99 : decode cX7_begin 99 = .ok (.aload_n 0, 1) := by decide +kernel
theorem dX7_begin_100 : decode cX7_begin 100 = .ok (.iconst 0, 1) := by decide +kernel
theorem dX7_begin_101 : decode cX7_begin 101 = .ok (.putfield 78, 3) := by decide +kernel
theorem dX7_begin_104 : decode cX7_begin 104 = .ok (.aload_n 0, 1) := by decide +kernel
theorem dX7_begin_105 : decode cX7_begin 105 = .ok (.iconst 0, 1) := by decide +kernel
theorem dX7_begin_106 : decode cX7_begin 106 = .ok (.putfield 81, 3) := by decide +kernel
theorem dX7_begin_109 : decode cX7_begin 109 = .ok (.aload_n 0, 1) := by decide +kernel
theorem dX7_begin_110 : decode cX7_begin 110 = .ok (.iconst 0, 1) := by decide +kernel
theorem dX7_begin_111 : decode cX7_begin 111 = .ok (.putfield 84, 3) := by decide +kernel
theorem dX7_begin_114 : decode cX7_begin 114 = .ok (.aload_n 0, 1) := by decide +kernel
theorem dX7_begin_115 : decode cX7_begin 115 = .ok (.getfield 20, 3) := by decide +kernel
theorem dX7_begin_118 : decode cX7_begin 118 = .ok (.invokevirtual 40, 3) := by decide +kernel
theorem dX7_begin_121 : decode cX7_begin 121 = .ok (.aload_n 0, 1) := by decide +kernel
theorem dX7_begin_122 : decode cX7_begin 122 = .ok (.getfield 26, 3) := by decide +kernel
theorem dX7_begin_125 : decode cX7_begin 125 = .ok (.iconst 0, 1) := by decide +kernel
theorem dX7_begin_126 : decode cX7_begin 126 = .ok (.invokevirtual 87, 3) := by decide +kernel
theorem dX7_begin_129 : decode cX7_begin 129 = .ok (.return_, 1) := by decide +kernel
theorem dX7_refuse_0 : decode cX7_refuse 0 = .ok (.iload_n 1, 1) := by decide +kernel
theorem dX7_refuse_1 : decode cX7_refuse 1 = .ok (.ifCond .eq 15, 3) := by decide +kernel
theorem dX7_refuse_4 : decode cX7_refuse 4 = .ok (.aload_n 0, 1) := by decide +kernel
theorem dX7_refuse_5 : decode cX7_refuse 5 = .ok (.getfield 90, 3) := by decide +kernel
theorem dX7_refuse_8 : decode cX7_refuse 8 = .ok (.ifCond .ne 8, 3) := by decide +kernel
theorem dX7_refuse_11 : decode cX7_refuse 11 = .ok (.aload_n 0, 1) := by decide +kernel
theorem dX7_refuse_12 : decode cX7_refuse 12 = .ok (.iload_n 2, 1) := by decide +kernel
theorem dX7_refuse_13 : decode cX7_refuse 13 = .ok (.putfield 90, 3) := by decide +kernel
theorem dX7_refuse_16 : decode cX7_refuse 16 = .ok (.aload_n 0, 1) := by decide +kernel
theorem dX7_refuse_17 : decode cX7_refuse 17 = .ok (.getfield 90, 3) := by decide +kernel
theorem dX7_refuse_20 : decode cX7_refuse 20 = .ok (.ifCond .le 7, 3) := by decide +kernel
theorem dX7_refuse_23 : decode cX7_refuse 23 = .ok (.iconst 1, 1) := by decide +kernel
theorem dX7_refuse_24 : decode cX7_refuse 24 = .ok (.goto 4, 3) := by decide +kernel
theorem dX7_refuse_27 : decode cX7_refuse 27 = .ok (.iconst 0, 1) := by decide +kernel
theorem dX7_refuse_28 : decode cX7_refuse 28 = .ok (.ireturn, 1) := by decide +kernel
theorem dX7_start_0 : decode cX7_start 0 = .ok (.aload_n 0, 1) := by decide +kernel
theorem dX7_start_1 : decode cX7_start 1 = .ok (.iconst 0, 1) := by decide +kernel
theorem dX7_start_2 : decode cX7_start 2 = .ok (.putfield 90, 3) := by decide +kernel
theorem dX7_start_5 : decode cX7_start 5 = .ok (.aload_n 0, 1) := by decide +kernel
theorem dX7_start_6 : decode cX7_start 6 = .ok (.iload_n 1, 1) := by decide +kernel
theorem dX7_start_7 : decode cX7_start 7 = .ok (.iload_n 2, 1) := by decide +kernel
theorem dX7_start_8 : decode cX7_start 8 = .ok (.invokevirtual 93, 3) := by decide +kernel
theorem dX7_start_11 : decode cX7_start 11 = .ok (.ireturn, 1) := by decide +kernel
theorem dX7_isNoKey_0 : decode cX7_isNoKey 0 = .ok (.iload_n 1, 1) := by decide +kernel
theorem dX7_isNoKey_1 : decode cX7_isNoKey 1 = .ok (.iconst 0, 1) := by decide +kernel
theorem dX7_isNoKey_2 : decode cX7_isNoKey 2 = .ok (.aload_n 0, 1) := by decide +kernel
theorem dX7_isNoKey_3 : decode cX7_isNoKey 3 = .ok (.getfield 16, 3) := by decide +kernel
theorem dX7_isNoKey_6 : decode cX7_isNoKey 6 = .ok (.invokevirtual 52, 3) := by decide +kernel
theorem dX7_isNoKey_9 : decode cX7_isNoKey 9 = .ok (.iconst 1, 1) := by decide +kernel
theorem dX7_isNoKey_10 : decode cX7_isNoKey 10 = .ok (.isub, 1) := by decide +kernel
theorem dX7_isNoKey_11 : decode cX7_isNoKey 11 = .ok (.invokestatic 97, 3) := by decide +kernel
theorem dX7_isNoKey_14 : decode cX7_isNoKey 14 = .ok (.ifCond .ne 7, 3) := by decide +kernel
theorem dX7_isNoKey_17 : decode cX7_isNoKey 17 = .ok (.iconst 1, 1) := by decide +kernel
theorem dX7_isNoKey_18 : decode cX7_isNoKey 18 = .ok (.goto 4, 3) := by decide +kernel
theorem dX7_isNoKey_21 : decode cX7_isNoKey 21 = .ok (.iconst 0, 1) := by decide +kernel
theorem dX7_isNoKey_22 : decode cX7_isNoKey 22 = .ok (.ireturn, 1) := by decide +kernel
theorem dX7_isNoSet_0 : decode cX7_isNoSet 0 = .ok (.iload_n 1, 1) := by decide +kernel
theorem dX7_isNoSet_1 : decode cX7_isNoSet 1 = .ok (.ifCond .lt 15, 3) := by decide +kernel
theorem dX7_isNoSet_4 : decode cX7_isNoSet 4 = .ok (.iload_n 1, 1) := by decide +kernel
theorem dX7_isNoSet_5 : decode cX7_isNoSet 5 = .ok (.aload_n 0, 1) := by decide +kernel
theorem dX7_isNoSet_6 : decode cX7_isNoSet 6 = .ok (.getfield 16, 3) := by decide +kernel
theorem dX7_isNoSet_9 : decode cX7_isNoSet 9 = .ok (.invokevirtual 52, 3) := by decide +kernel
theorem dX7_isNoSet_12 : decode cX7_isNoSet 12 = .ok (.ishr, 1) := by decide +kernel
theorem dX7_isNoSet_13 : decode cX7_isNoSet 13 = .ok (.ifCond .eq 7, 3) := by decide +kernel
theorem dX7_isNoSet_16 : decode cX7_isNoSet 16 = .ok (.iconst 1, 1) := by decide +kernel
theorem dX7_isNoSet_17 : decode cX7_isNoSet 17 = .ok (.goto 4, 3) := by decide +kernel
theorem dX7_isNoSet_20 : decode cX7_isNoSet 20 = .ok (.iconst 0, 1) := by decide +kernel
theorem dX7_isNoSet_21 : decode cX7_isNoSet 21 = .ok (.ireturn, 1) := by decide +kernel
theorem dX7_lay_0 : decode cX7_lay 0 = .ok (.aload_n 0, 1) := by decide +kernel
theorem dX7_lay_1 : decode cX7_lay 1 = .ok (.iload_n 1, 1) := by decide +kernel
theorem dX7_lay_2 : decode cX7_lay 2 = .ok (.iconst 2, 1) := by decide +kernel
theorem dX7_lay_3 : decode cX7_lay 3 = .ok (.iconst 5, 1) := by decide +kernel
theorem dX7_lay_4 : decode cX7_lay 4 = .ok (.invokestatic 97, 3) := by decide +kernel
theorem dX7_lay_7 : decode cX7_lay 7 = .ok (.ifCond .eq 12, 3) := by decide +kernel
theorem dX7_lay_10 : decode cX7_lay 10 = .ok (.iload_n 2, 1) := by decide +kernel
theorem dX7_lay_11 : decode cX7_lay 11 = .ok (.iconst 2, 1) := by decide +kernel
theorem dX7_lay_12 : decode cX7_lay 12 = .ok (.iconst 5, 1) := by decide +kernel
theorem dX7_lay_13 : decode cX7_lay 13 = .ok (.invokestatic 97, 3) := by decide +kernel
theorem dX7_lay_16 : decode cX7_lay 16 = .ok (.ifCond .ne 7, 3) := by decide +kernel
theorem dX7_lay_19 : decode cX7_lay 19 = .ok (.iconst 1, 1) := by decide +kernel
theorem dX7_lay_20 : decode cX7_lay 20 = .ok (.goto 4, 3) := by decide +kernel
theorem dX7_lay_23 : decode cX7_lay 23 = .ok (.iconst 0, 1) := by decide +kernel
theorem dX7_lay_24 : decode cX7_lay 24 = .ok (.iconst 1, 1) := by decide +kernel
theorem dX7_lay_25 : decode cX7_lay 25 = .ok (.invokevirtual 101, 3) := by decide +kernel
theorem dX7_lay_28 : decode cX7_lay 28 = .ok (.ifCond .eq 5, 3) := by decide +kernel
theorem dX7_lay_31 : decode cX7_lay 31 = .ok (.iconst 0, 1) := by decide +kernel
theorem dX7_lay_32 : decode cX7_lay 32 = .ok (.ireturn, 1) := by decide +kernel
theorem dX7_lay_33 : decode cX7_lay 33 = .ok (.aload_n 0, 1) := by decide +kernel
theorem dX7_lay_34 : decode cX7_lay 34 = .ok (.iload_n 1, 1) := by decide +kernel
theorem dX7_lay_35 : decode cX7_lay 35 = .ok (.iload_n 2, 1) := by decide +kernel
theorem dX7_lay_36 : decode cX7_lay 36 = .ok (.invokevirtual 30, 3) := by decide +kernel
theorem dX7_lay_39 : decode cX7_lay 39 = .ok (.aload_n 0, 1) := by decide +kernel
theorem dX7_lay_40 : decode cX7_lay 40 = .ok (.getfield 16, 3) := by decide +kernel
theorem dX7_lay_43 : decode cX7_lay 43 = .ok (.invokevirtual 52, 3) := by decide +kernel
theorem dX7_lay_46 : decode cX7_lay 46 = .ok (.ireturn, 1) := by decide +kernel
theorem dX7_touch_0 : decode cX7_touch 0 = .ok (.aload_n 0, 1) := by decide +kernel
theorem dX7_touch_1 : decode cX7_touch 1 = .ok (.aload_n 0, 1) := by decide +kernel
theorem dX7_touch_2 : decode cX7_touch 2 = .ok (.getfield 62, 3) := by decide +kernel
theorem dX7_touch_5 : decode cX7_touch 5 = .ok (.iload_n 1, 1) := by decide +kernel
theorem dX7_touch_6 : decode cX7_touch 6 = .ok (.iload_n 2, 1) := by decide +kernel
theorem dX7_touch_7 : decode cX7_touch 7 = .ok (.invokestatic 104, 3) := by decide +kernel
theorem dX7_touch_10 : decode cX7_touch 10 = .ok (.putfield 62, 3) := by decide +kernel
theorem dX7_touch_13 : decode cX7_touch 13 = .ok (.aload_n 0, 1) := by decide +kernel
theorem dX7_touch_14 : decode cX7_touch 14 = .ok (.getfield 16, 3) := by decide +kernel
theorem dX7_touch_17 : decode cX7_touch 17 = .ok (.iload_n 1, 1) := by decide +kernel
theorem dX7_touch_18 : decode cX7_touch 18 = .ok (.invokevirtual 108, 3) := by decide +kernel
theorem dX7_touch_21 : decode cX7_touch 21 = .ok (.checkcast 43, 3) := by decide +kernel
theorem dX7_touch_24 : decode cX7_touch 24 = .ok (.aload_n 0, 1) := by decide +kernel
theorem dX7_touch_25 : decode cX7_touch 25 = .ok (.getfield 16, 3) := by decide +kernel
theorem dX7_touch_28 : decode cX7_touch 28 = .ok (.iload_n 1, 1) := by decide +kernel
theorem dX7_touch_29 : decode cX7_touch 29 = .ok (.invokevirtual 108, 3) := by decide +kernel
theorem dX7_touch_32 : decode cX7_touch 32 = .ok (.checkcast 43, 3) := by decide +kernel
theorem dX7_touch_35 : decode cX7_touch 35 = .ok (.getfield 112, 3) := by decide +kernel
theorem dX7_touch_38 : decode cX7_touch 38 = .ok (.putfield 115, 3) := by decide +kernel
theorem dX7_touch_41 : decode cX7_touch 41 = .ok (.aload_n 0, 1) := by decide +kernel
theorem dX7_touch_42 : decode cX7_touch 42 = .ok (.getfield 16, 3) := by decide +kernel
theorem dX7_touch_45 : decode cX7_touch 45 = .ok (.iload_n 1, 1) := by decide +kernel
theorem dX7_touch_46 : decode cX7_touch 46 = .ok (.invokevirtual 108, 3) := by decide +kernel
theorem dX7_touch_49 : decode cX7_touch 49 = .ok (.checkcast 43, 3) := by decide +kernel
theorem dX7_touch_52 : decode cX7_touch 52 = .ok (.aload_n 0, 1) := by decide +kernel
theorem dX7_touch_53 : decode cX7_touch 53 = .ok (.getfield 75, 3) := by decide +kernel
theorem dX7_touch_56 : decode cX7_touch 56 = .ok (.putfield 118, 3) := by decide +kernel
theorem dX7_touch_59 : decode cX7_touch 59 = .ok (.return_, 1) := by decide +kernel
theorem dX7_key_0 : decode cX7_key 0 = .ok (.aload_n 0, 1) := by decide +kernel
theorem dX7_key_1 : decode cX7_key 1 = .ok (.aload_n 0, 1) := by decide +kernel
theorem dX7_key_2 : decode cX7_key 2 = .ok (.iload_n 1, 1) := by decide +kernel
theorem dX7_key_3 : decode cX7_key 3 = .ok (.invokevirtual 121, 3) := by decide +kernel
theorem dX7_key_6 : decode cX7_key 6 = .ok (.iconst 1, 1) := by decide +kernel
theorem dX7_key_7 : decode cX7_key 7 = .ok (.invokevirtual 101, 3) := by decide +kernel
theorem dX7_key_10 : decode cX7_key 10 = .ok (.ifCond .ne 36, 3) := by decide +kernel
theorem dX7_key_13 : decode cX7_key 13 = .ok (.aload_n 0, 1) := by decide +kernel
theorem dX7_key_14 : decode cX7_key 14 = .ok (.iload 4, 2) := by decide +kernel
theorem dX7_key_16 : decode cX7_key 16 = .ok (.iconst 0, 1) := by decide +kernel
theorem dX7_key_17 : decode cX7_key 17 = .ok (.iconst 5, 1) := by decide +kernel
theorem dX7_key_18 : decode cX7_key 18 = .ok (.invokestatic 97, 3) := by decide +kernel
theorem dX7_key_21 : decode cX7_key 21 = .ok (.ifCond .eq 13, 3) := by decide +kernel
theorem dX7_key_24 : decode cX7_key 24 = .ok (.iload 5, 2) := by decide +kernel
theorem dX7_key_26 : decode cX7_key 26 = .ok (.iconst 0, 1) := by decide +kernel
theorem dX7_key_27 : decode cX7_key 27 = .ok (.iconst 2, 1) := by decide +kernel
theorem dX7_key_28 : decode cX7_key 28 = .ok (.invokestatic 97, 3) := by decide +kernel
theorem dX7_key_31 : decode cX7_key 31 = .ok (.ifCond .ne 7, 3) := by decide +kernel
theorem dX7_key_34 : decode cX7_key 34 = .ok (.iconst 1, 1) := by decide +kernel
theorem dX7_key_35 : decode cX7_key 35 = .ok (.goto 4, 3) := by decide +kernel
theorem dX7_key_38 : decode cX7_key 38 = .ok (.iconst 0, 1) := by decide +kernel
theorem dX7_key_39 : decode cX7_key 39 = .ok (.iconst 2, 1) := by decide +kernel
theorem dX7_key_40 : decode cX7_key 40 = .ok (.invokevirtual 93, 3) := by decide +kernel
theorem dX7_key_43 : decode cX7_key 43 = .ok (.ifCond .eq 5, 3) := by decide +kernel
theorem dX7_key_46 : decode cX7_key 46 = .ok (.iconst 0, 1) := by decide +kernel
theorem dX7_key_47 : decode cX7_key 47 = .ok (.ireturn, 1) := by decide +kernel
theorem dX7_key_48 : decode cX7_key 48 = .ok (.aload_n 0, 1) := by decide +kernel
theorem dX7_key_49 : decode cX7_key 49 = .ok (.aload_n 0, 1) := by decide +kernel
theorem dX7_key_50 : decode cX7_key 50 = .ok (.getfield 56, 3) := by decide +kernel
theorem dX7_key_53 : decode cX7_key 53 = .ok (.iload_n 1, 1) := by decide +kernel
theorem dX7_key_54 : decode cX7_key 54 = .ok (.iload_n 2, 1) := by decide +kernel
theorem dX7_key_55 : decode cX7_key 55 = .ok (.invokestatic 104, 3) := by decide +kernel
theorem dX7_key_58 : decode cX7_key 58 = .ok (.putfield 56, 3) := by decide +kernel
theorem dX7_key_61 : decode cX7_key 61 = .ok (.aload_n 0, 1) := by decide +kernel
theorem dX7_key_62 : decode cX7_key 62 = .ok (.aload_n 0, 1) := by decide +kernel
theorem dX7_key_63 : decode cX7_key 63 = .ok (.getfield 59, 3) := by decide +kernel
theorem dX7_key_66 : decode cX7_key 66 = .ok (.iload_n 1, 1) := by decide +kernel
theorem dX7_key_67 : decode cX7_key 67 = .ok (.iload_n 3, 1) := by decide +kernel
theorem dX7_key_68 : decode cX7_key 68 = .ok (.invokestatic 104, 3) := by decide +kernel
theorem dX7_key_71 : decode cX7_key 71 = .ok (.putfield 59, 3) := by decide +kernel
theorem dX7_key_74 : decode cX7_key 74 = .ok (.aload_n 0, 1) := by decide +kernel
theorem dX7_key_75 : decode cX7_key 75 = .ok (.getfield 16, 3) := by decide +kernel
theorem dX7_key_78 : decode cX7_key 78 = .ok (.iload_n 1, 1) := by decide +kernel
theorem dX7_key_79 : decode cX7_key 79 = .ok (.invokevirtual 108, 3) := by decide +kernel
theorem dX7_key_82 : decode cX7_key 82 = .ok (.checkcast 43, 3) := by decide +kernel
theorem dX7_key_85 : decode cX7_key 85 = .ok (.iload 4, 2) := by decide +kernel
theorem dX7_key_87 : decode cX7_key 87 = .ok (.putfield 112, 3) := by decide +kernel
theorem dX7_key_90 : decode cX7_key 90 = .ok (.aload_n 0, 1) := by decide +kernel
theorem dX7_key_91 : decode cX7_key 91 = .ok (.getfield 16, 3) := by decide +kernel
theorem dX7_key_94 : decode cX7_key 94 = .ok (.iload_n 1, 1) := by decide +kernel
theorem dX7_key_95 : decode cX7_key 95 = .ok (.invokevirtual 108, 3) := by decide +kernel
theorem dX7_key_98 : decode cX7_key 98 = .ok (.checkcast 43, 3) := by decide +kernel
theorem dX7_key_101 : decode cX7_key 101 = .ok (.iload 5, 2) := by decide +kernel
theorem dX7_key_103 : decode cX7_key 103 = .ok (.putfield 125, 3) := by decide +kernel
theorem dX7_key_106 : decode cX7_key 106 = .ok (.iload_n 2, 1) := by decide +kernel
theorem dX7_key_107 : decode cX7_key 107 = .ok (.ifCond .ne 20, 3) := by decide +kernel
theorem dX7_key_110 : decode cX7_key 110 = .ok (.aload_n 0, 1) := by decide +kernel
theorem dX7_key_111 : decode cX7_key 111 = .ok (.getfield 62, 3) := by decide +kernel
theorem dX7_key_114 : decode cX7_key 114 = .ok (.iload_n 1, 1) := by decide +kernel
theorem dX7_key_115 : decode cX7_key 115 = .ok (.invokestatic 128, 3) := by decide +kernel
theorem dX7_key_118 : decode cX7_key 118 = .ok (.ifCond .eq 9, 3) := by decide +kernel
theorem dX7_key_121 : decode cX7_key 121 = .ok (.aload_n 0, 1) := by decide +kernel
theorem dX7_key_122 : decode cX7_key 122 = .ok (.iload_n 1, 1) := by decide +kernel
theorem dX7_key_123 : decode cX7_key 123 = .ok (.iconst 0, 1) := by decide +kernel
theorem dX7_key_124 : decode cX7_key 124 = .ok (.invokevirtual 132, 3) := by decide +kernel
theorem dX7_key_127 : decode cX7_key 127 = .ok (.aload_n 0, 1) := by decide +kernel
theorem dX7_key_128 : decode cX7_key 128 = .ok (.getfield 56, 3) := by decide +kernel
theorem dX7_key_131 : decode cX7_key 131 = .ok (.invokestatic 136, 3) := by decide +kernel
theorem dX7_key_134 : decode cX7_key 134 = .ok (.ireturn, 1) := by decide +kernel
theorem dX7_line_0 : decode cX7_line 0 = .ok (.aload_n 0, 1) := by decide +kernel
theorem dX7_line_1 : decode cX7_line 1 = .ok (.iload_n 1, 1) := by decide +kernel
theorem dX7_line_2 : decode cX7_line 2 = .ok (.iconst 0, 1) := by decide +kernel
theorem dX7_line_3 : decode cX7_line 3 = .ok (.aload_n 0, 1) := by decide +kernel
theorem dX7_line_4 : decode cX7_line 4 = .ok (.getfield 34, 3) := by decide +kernel
theorem dX7_line_7 : decode cX7_line 7 = .ok (.aload_n 0, 1) := by decide +kernel
theorem dX7_line_8 : decode cX7_line 8 = .ok (.getfield 37, 3) := by decide +kernel
theorem dX7_line_11 : decode cX7_line 11 = .ok (.iadd, 1) := by decide +kernel
theorem dX7_line_12 : decode cX7_line 12 = .ok (.iconst 1, 1) := by decide +kernel
theorem dX7_line_13 : decode cX7_line 13 = .ok (.isub, 1) := by decide +kernel
theorem dX7_line_14 : decode cX7_line 14 = .ok (.invokestatic 97, 3) := by decide +kernel
theorem dX7_line_17 : decode cX7_line 17 = .ok (.ifCond .ne 7, 3) := by decide +kernel
theorem dX7_line_20 : decode cX7_line 20 = .ok (.iconst 1, 1) := by decide +kernel
theorem dX7_line_21 : decode cX7_line 21 = .ok (.goto 4, 3) := by decide +kernel
theorem dX7_line_24 : decode cX7_line 24 = .ok (.iconst 0, 1) := by decide +kernel
theorem dX7_line_25 : decode cX7_line 25 = .ok (.iconst 1, 1) := by decide +kernel
theorem dX7_line_26 : decode cX7_line 26 = .ok (.invokevirtual 101, 3) := by decide +kernel
theorem dX7_line_29 : decode cX7_line 29 = .ok (.ifCond .eq 5, 3) := by decide +kernel
theorem dX7_line_32 : decode cX7_line 32 = .ok (.iconst 0, 1) := by decide +kernel
theorem dX7_line_33 : decode cX7_line 33 = .ok (.ireturn, 1) := by decide +kernel
theorem dX7_line_34 : decode cX7_line 34 = .ok (.aload_n 0, 1) := by decide +kernel
theorem dX7_line_35 : decode cX7_line 35 = .ok (.aload_n 0, 1) := by decide +kernel
theorem dX7_line_36 : decode cX7_line 36 = .ok (.getfield 65, 3) := by decide +kernel
theorem dX7_line_39 : decode cX7_line 39 = .ok (.iload_n 1, 1) := by decide +kernel
theorem dX7_line_40 : decode cX7_line 40 = .ok (.iload_n 2, 1) := by decide +kernel
theorem dX7_line_41 : decode cX7_line 41 = .ok (.invokestatic 104, 3) := by decide +kernel
theorem dX7_line_44 : decode cX7_line 44 = .ok (.putfield 65, 3) := by decide +kernel
theorem dX7_line_47 : decode cX7_line 47 = .ok (.aload_n 0, 1) := by decide +kernel
theorem dX7_line_48 : decode cX7_line 48 = .ok (.getfield 65, 3) := by decide +kernel
theorem dX7_line_51 : decode cX7_line 51 = .ok (.invokestatic 136, 3) := by decide +kernel
theorem dX7_line_54 : decode cX7_line 54 = .ok (.ireturn, 1) := by decide +kernel
theorem dX7_patience_0 : decode cX7_patience 0 = .ok (.aload_n 0, 1) := by decide +kernel
theorem dX7_patience_1 : decode cX7_patience 1 = .ok (.iload_n 1, 1) := by decide +kernel
theorem dX7_patience_2 : decode cX7_patience 2 = .ok (.iconst 1, 1) := by decide +kernel
theorem dX7_patience_3 : decode cX7_patience 3 = .ok (.bipush 6, 2) := by decide +kernel
theorem dX7_patience_5 : decode cX7_patience 5 = .ok (.invokestatic 97, 3) := by decide +kernel
theorem dX7_patience_8 : decode cX7_patience 8 = .ok (.ifCond .ne 7, 3) := by decide +kernel
theorem dX7_patience_11 : decode cX7_patience 11 = .ok (.iconst 1, 1) := by decide +kernel
theorem dX7_patience_12 : decode cX7_patience 12 = .ok (.goto 4, 3) := by decide +kernel
theorem dX7_patience_15 : decode cX7_patience 15 = .ok (.iconst 0, 1) := by decide +kernel
theorem dX7_patience_16 : decode cX7_patience 16 = .ok (.iconst 1, 1) := by decide +kernel
theorem dX7_patience_17 : decode cX7_patience 17 = .ok (.invokevirtual 101, 3) := by decide +kernel
theorem dX7_patience_20 : decode cX7_patience 20 = .ok (.ifCond .eq 5, 3) := by decide +kernel
theorem dX7_patience_23 : decode cX7_patience 23 = .ok (.iconst 0, 1) := by decide +kernel
theorem dX7_patience_24 : decode cX7_patience 24 = .ok (.ireturn, 1) := by decide +kernel
theorem dX7_patience_25 : decode cX7_patience 25 = .ok (.aload_n 0, 1) := by decide +kernel
theorem dX7_patience_26 : decode cX7_patience 26 = .ok (.getfield 68, 3) := by decide +kernel
theorem dX7_patience_29 : decode cX7_patience 29 = .ok (.istore_n 3, 1) := by decide +kernel
theorem dX7_patience_30 : decode cX7_patience 30 = .ok (.aload_n 0, 1) := by decide +kernel
theorem dX7_patience_31 : decode cX7_patience 31 = .ok (.iload_n 1, 1) := by decide +kernel
theorem dX7_patience_32 : decode cX7_patience 32 = .ok (.putfield 68, 3) := by decide +kernel
theorem dX7_patience_35 : decode cX7_patience 35 = .ok (.aload_n 0, 1) := by decide +kernel
theorem dX7_patience_36 : decode cX7_patience 36 = .ok (.iload_n 2, 1) := by decide +kernel
theorem dX7_patience_37 : decode cX7_patience 37 = .ok (.putfield 71, 3) := by decide +kernel
theorem dX7_patience_40 : decode cX7_patience 40 = .ok (.iload_n 3, 1) := by decide +kernel
theorem dX7_patience_41 : decode cX7_patience 41 = .ok (.ireturn, 1) := by decide +kernel
theorem dX7_code_0 : decode cX7_code 0 = .ok (.aload_n 0, 1) := by decide +kernel
theorem dX7_code_1 : decode cX7_code 1 = .ok (.aload_n 0, 1) := by decide +kernel
theorem dX7_code_2 : decode cX7_code 2 = .ok (.iload_n 2, 1) := by decide +kernel
theorem dX7_code_3 : decode cX7_code 3 = .ok (.invokevirtual 121, 3) := by decide +kernel
theorem dX7_code_6 : decode cX7_code 6 = .ok (.iconst 1, 1) := by decide +kernel
theorem dX7_code_7 : decode cX7_code 7 = .ok (.invokevirtual 101, 3) := by decide +kernel
theorem dX7_code_10 : decode cX7_code 10 = .ok (.ifCond .ne 35, 3) := by decide +kernel
theorem dX7_code_13 : decode cX7_code 13 = .ok (.aload_n 0, 1) := by decide +kernel
theorem dX7_code_14 : decode cX7_code 14 = .ok (.iload_n 1, 1) := by decide +kernel
theorem dX7_code_15 : decode cX7_code 15 = .ok (.iconst 0, 1) := by decide +kernel
theorem dX7_code_16 : decode cX7_code 16 = .ok (.iconst 2, 1) := by decide +kernel
theorem dX7_code_17 : decode cX7_code 17 = .ok (.invokestatic 97, 3) := by decide +kernel
theorem dX7_code_20 : decode cX7_code 20 = .ok (.ifCond .eq 13, 3) := by decide +kernel
theorem dX7_code_23 : decode cX7_code 23 = .ok (.iload_n 3, 1) := by decide +kernel
theorem dX7_code_24 : decode cX7_code 24 = .ok (.iconst 0, 1) := by decide +kernel
theorem dX7_code_25 : decode cX7_code 25 = .ok (.bipush 31, 2) := by decide +kernel
theorem dX7_code_27 : decode cX7_code 27 = .ok (.invokestatic 97, 3) := by decide +kernel
theorem dX7_code_30 : decode cX7_code 30 = .ok (.ifCond .ne 7, 3) := by decide +kernel
theorem dX7_code_33 : decode cX7_code 33 = .ok (.iconst 1, 1) := by decide +kernel
theorem dX7_code_34 : decode cX7_code 34 = .ok (.goto 4, 3) := by decide +kernel
theorem dX7_code_37 : decode cX7_code 37 = .ok (.iconst 0, 1) := by decide +kernel
theorem dX7_code_38 : decode cX7_code 38 = .ok (.iconst 2, 1) := by decide +kernel
theorem dX7_code_39 : decode cX7_code 39 = .ok (.invokevirtual 93, 3) := by decide +kernel
theorem dX7_code_42 : decode cX7_code 42 = .ok (.ifCond .eq 5, 3) := by decide +kernel
theorem dX7_code_45 : decode cX7_code 45 = .ok (.iconst 0, 1) := by decide +kernel
theorem dX7_code_46 : decode cX7_code 46 = .ok (.ireturn, 1) := by decide +kernel
theorem dX7_code_47 : decode cX7_code 47 = .ok (.aload_n 0, 1) := by decide +kernel
theorem dX7_code_48 : decode cX7_code 48 = .ok (.getfield 16, 3) := by decide +kernel
theorem dX7_code_51 : decode cX7_code 51 = .ok (.iload_n 2, 1) := by decide +kernel
theorem dX7_code_52 : decode cX7_code 52 = .ok (.invokevirtual 108, 3) := by decide +kernel
theorem dX7_code_55 : decode cX7_code 55 = .ok (.checkcast 43, 3) := by decide +kernel
theorem dX7_code_58 : decode cX7_code 58 = .ok (.getfield 140, 3) := by decide +kernel
theorem dX7_code_61 : decode cX7_code 61 = .ok (.iload_n 1, 1) := by decide +kernel
theorem dX7_code_62 : decode cX7_code 62 = .ok (.iaload, 1) := by decide +kernel
theorem dX7_code_63 : decode cX7_code 63 = .ok (.istore 4, 2) := by decide +kernel
theorem dX7_code_65 : decode cX7_code 65 = .ok (.aload_n 0, 1) := by decide +kernel
theorem dX7_code_66 : decode cX7_code 66 = .ok (.getfield 16, 3) := by decide +kernel
theorem dX7_code_69 : decode cX7_code 69 = .ok (.iload_n 2, 1) := by decide +kernel
theorem dX7_code_70 : decode cX7_code 70 = .ok (.invokevirtual 108, 3) := by decide +kernel
theorem dX7_code_73 : decode cX7_code 73 = .ok (.checkcast 43, 3) := by decide +kernel
theorem dX7_code_76 : decode cX7_code 76 = .ok (.getfield 140, 3) := by decide +kernel
theorem dX7_code_79 : decode cX7_code 79 = .ok (.iload_n 1, 1) := by decide +kernel
theorem dX7_code_80 : decode cX7_code 80 = .ok (.iload_n 3, 1) := by decide +kernel
theorem dX7_code_81 : decode cX7_code 81 = .ok (.iastore, 1) := by decide +kernel
theorem dX7_code_82 : decode cX7_code 82 = .ok (.iload 4, 2) := by decide +kernel
theorem dX7_code_84 : decode cX7_code 84 = .ok (.ireturn, 1) := by decide +kernel
theorem dX7_chord_0 : decode cX7_chord 0 = .ok (.aload_n 0, 1) := by decide +kernel
theorem dX7_chord_1 : decode cX7_chord 1 = .ok (.aload_n 0, 1) := by decide +kernel
theorem dX7_chord_2 : decode cX7_chord 2 = .ok (.iload_n 1, 1) := by decide +kernel
theorem dX7_chord_3 : decode cX7_chord 3 = .ok (.invokevirtual 144, 3) := by decide +kernel
theorem dX7_chord_6 : decode cX7_chord 6 = .ok (.ifCond .ne 25, 3) := by decide +kernel
theorem dX7_chord_9 : decode cX7_chord 9 = .ok (.iload_n 1, 1) := by decide +kernel
theorem dX7_chord_10 : decode cX7_chord 10 = .ok (.invokestatic 136, 3) := by decide +kernel
theorem dX7_chord_13 : decode cX7_chord 13 = .ok (.iconst 2, 1) := by decide +kernel
theorem dX7_chord_14 : decode cX7_chord 14 = .ok (.iconst 3, 1) := by decide +kernel
theorem dX7_chord_15 : decode cX7_chord 15 = .ok (.invokestatic 97, 3) := by decide +kernel
theorem dX7_chord_18 : decode cX7_chord 18 = .ok (.ifCond .eq 13, 3) := by decide +kernel
theorem dX7_chord_21 : decode cX7_chord 21 = .ok (.iload_n 2, 1) := by decide +kernel
theorem dX7_chord_22 : decode cX7_chord 22 = .ok (.iconst 0, 1) := by decide +kernel
theorem dX7_chord_23 : decode cX7_chord 23 = .ok (.bipush 25, 2) := by decide +kernel
theorem dX7_chord_25 : decode cX7_chord 25 = .ok (.invokestatic 97, 3) := by decide +kernel
theorem dX7_chord_28 : decode cX7_chord 28 = .ok (.ifCond .ne 7, 3) := by decide +kernel
theorem dX7_chord_31 : decode cX7_chord 31 = .ok (.iconst 1, 1) := by decide +kernel
theorem dX7_chord_32 : decode cX7_chord 32 = .ok (.goto 4, 3) := by decide +kernel
theorem dX7_chord_35 : decode cX7_chord 35 = .ok (.iconst 0, 1) := by decide +kernel
theorem dX7_chord_36 : decode cX7_chord 36 = .ok (.iconst 1, 1) := by decide +kernel
theorem dX7_chord_37 : decode cX7_chord 37 = .ok (.invokevirtual 101, 3) := by decide +kernel
theorem dX7_chord_40 : decode cX7_chord 40 = .ok (.ifCond .ne 28, 3) := by decide +kernel
theorem dX7_chord_43 : decode cX7_chord 43 = .ok (.aload_n 0, 1) := by decide +kernel
theorem dX7_chord_44 : decode cX7_chord 44 = .ok (.aload_n 0, 1) := by decide +kernel
theorem dX7_chord_45 : decode cX7_chord 45 = .ok (.getfield 20, 3) := by decide +kernel
theorem dX7_chord_48 : decode cX7_chord 48 = .ok (.invokevirtual 52, 3) := by decide +kernel
theorem dX7_chord_51 : decode cX7_chord 51 = .ok (.bipush 6, 2) := by decide +kernel
theorem dX7_chord_53 : decode cX7_chord 53 = .ok (.if_icmp .ne 7, 3) := by decide +kernel
theorem dX7_chord_56 : decode cX7_chord 56 = .ok (.iconst 1, 1) := by decide +kernel
theorem dX7_chord_57 : decode cX7_chord 57 = .ok (.goto 4, 3) := by decide +kernel
theorem dX7_chord_60 : decode cX7_chord 60 = .ok (.iconst 0, 1) := by decide +kernel
theorem dX7_chord_61 : decode cX7_chord 61 = .ok (.iconst 2, 1) := by decide +kernel
theorem dX7_chord_62 : decode cX7_chord 62 = .ok (.invokevirtual 93, 3) := by decide +kernel
theorem dX7_chord_65 : decode cX7_chord 65 = .ok (.ifCond .eq 5, 3) := by decide +kernel
theorem dX7_chord_68 : decode cX7_chord 68 = .ok (.iconst 0, 1) := by decide +kernel
theorem dX7_chord_69 : decode cX7_chord 69 = .ok (.ireturn, 1) := by decide +kernel
theorem dX7_chord_70 : decode cX7_chord 70 = .ok (.aload_n 0, 1) := by decide +kernel
theorem dX7_chord_71 : decode cX7_chord 71 = .ok (.getfield 20, 3) := by decide +kernel
theorem dX7_chord_74 : decode cX7_chord 74 = .ok (.iconst 4, 1) := by decide +kernel
theorem dX7_chord_75 : decode cX7_chord 75 = .ok (.newarray .int, 2) := by decide +kernel
theorem dX7_chord_77 : decode cX7_chord 77 = .ok (.dup, 1) := by decide +kernel
theorem dX7_chord_78 : decode cX7_chord 78 = .ok (.iconst 0, 1) := by decide +kernel
theorem dX7_chord_79 : decode cX7_chord 79 = .ok (.iload_n 1, 1) := by decide +kernel
theorem dX7_chord_80 : decode cX7_chord 80 = .ok (.iastore, 1) := by decide +kernel
theorem dX7_chord_81 : decode cX7_chord 81 = .ok (.dup, 1) := by decide +kernel
theorem dX7_chord_82 : decode cX7_chord 82 = .ok (.iconst 1, 1) := by decide +kernel
theorem dX7_chord_83 : decode cX7_chord 83 = .ok (.iload_n 2, 1) := by decide +kernel
theorem dX7_chord_84 : decode cX7_chord 84 = .ok (.iastore, 1) := by decide +kernel
theorem dX7_chord_85 : decode cX7_chord 85 = .ok (.dup, 1) := by decide +kernel
theorem dX7_chord_86 : decode cX7_chord 86 = .ok (.iconst 2, 1) := by decide +kernel
theorem dX7_chord_87 : decode cX7_chord 87 = .ok (.iconst 0, 1) := by decide +kernel
theorem dX7_chord_88 : decode cX7_chord 88 = .ok (.iastore, 1) := by decide +kernel
theorem dX7_chord_89 : decode cX7_chord 89 = .ok (.dup, 1) := by decide +kernel
theorem dX7_chord_90 : decode cX7_chord 90 = .ok (.iconst 3, 1) := by decide +kernel
theorem dX7_chord_91 : decode cX7_chord 91 = .ok (.iconst 0, 1) := by decide +kernel
theorem dX7_chord_92 : decode cX7_chord 92 = .ok (.iastore, 1) := by decide +kernel
theorem dX7_chord_93 : decode cX7_chord 93 = .ok (.invokevirtual 48, 3) := by decide +kernel
theorem dX7_chord_96 : decode cX7_chord 96 = .ok (.pop, 1) := by decide +kernel
theorem dX7_chord_97 : decode cX7_chord 97 = .ok (.aload_n 0, 1) := by decide +kernel
theorem dX7_chord_98 : decode cX7_chord 98 = .ok (.getfield 20, 3) := by decide +kernel
theorem dX7_chord_101 : decode cX7_chord 101 = .ok (.invokevirtual 52, 3) := by decide +kernel
theorem dX7_chord_104 : decode cX7_chord 104 = .ok (.iconst 1, 1) := by decide +kernel
theorem dX7_chord_105 : decode cX7_chord 105 = .ok (.isub, 1) := by decide +kernel
theorem dX7_chord_106 : decode cX7_chord 106 = .ok (.ireturn, 1) := by decide +kernel
theorem dX7_rowOf_0 : decode cX7_rowOf 0 = .ok (.iload_n 1, 1) := by decide +kernel
theorem dX7_rowOf_1 : decode cX7_rowOf 1 = .ok (.iload_n 2, 1) := by decide +kernel
theorem dX7_rowOf_2 : decode cX7_rowOf 2 = .ok (.aload_n 0, 1) := by decide +kernel
theorem dX7_rowOf_3 : decode cX7_rowOf 3 = .ok (.getfield 37, 3) := by decide +kernel
theorem dX7_rowOf_6 : decode cX7_rowOf 6 = .ok (.imul, 1) := by decide +kernel
theorem dX7_rowOf_7 : decode cX7_rowOf 7 = .ok (.ishr, 1) := by decide +kernel
theorem dX7_rowOf_8 : decode cX7_rowOf 8 = .ok (.iconst 1, 1) := by decide +kernel
theorem dX7_rowOf_9 : decode cX7_rowOf 9 = .ok (.aload_n 0, 1) := by decide +kernel
theorem dX7_rowOf_10 : decode cX7_rowOf 10 = .ok (.getfield 37, 3) := by decide +kernel
theorem dX7_rowOf_13 : decode cX7_rowOf 13 = .ok (.ishl, 1) := by decide +kernel
theorem dX7_rowOf_14 : decode cX7_rowOf 14 = .ok (.iconst 1, 1) := by decide +kernel
theorem dX7_rowOf_15 : decode cX7_rowOf 15 = .ok (.isub, 1) := by decide +kernel
theorem dX7_rowOf_16 : decode cX7_rowOf 16 = .ok (.iand, 1) := by decide +kernel
theorem dX7_rowOf_17 : decode cX7_rowOf 17 = .ok (.ireturn, 1) := by decide +kernel
theorem dX7_able_0 : decode cX7_able 0 = .ok (.aload_n 0, 1) := by decide +kernel
theorem dX7_able_1 : decode cX7_able 1 = .ok (.getfield 56, 3) := by decide +kernel
theorem dX7_able_4 : decode cX7_able 4 = .ok (.istore_n 1, 1) := by decide +kernel
theorem dX7_able_5 : decode cX7_able 5 = .ok (.iconst 0, 1) := by decide +kernel
theorem dX7_able_6 : decode cX7_able 6 = .ok (.istore_n 2, 1) := by decide +kernel
theorem dX7_able_7 : decode cX7_able 7 = .ok (.iload_n 2, 1) := by decide +kernel
theorem dX7_able_8 : decode cX7_able 8 = .ok (.aload_n 0, 1) := by decide +kernel
theorem dX7_able_9 : decode cX7_able 9 = .ok (.getfield 16, 3) := by decide +kernel
theorem dX7_able_12 : decode cX7_able 12 = .ok (.invokevirtual 52, 3) := by decide +kernel
theorem dX7_able_15 : decode cX7_able 15 = .ok (.if_icmp .ge 53, 3) := by decide +kernel
theorem dX7_able_18 : decode cX7_able 18 = .ok (.aload_n 0, 1) := by decide +kernel
theorem dX7_able_19 : decode cX7_able 19 = .ok (.getfield 65, 3) := by decide +kernel
theorem dX7_able_22 : decode cX7_able 22 = .ok (.iload_n 2, 1) := by decide +kernel
theorem dX7_able_23 : decode cX7_able 23 = .ok (.aload_n 0, 1) := by decide +kernel
theorem dX7_able_24 : decode cX7_able 24 = .ok (.getfield 37, 3) := by decide +kernel
theorem dX7_able_27 : decode cX7_able 27 = .ok (.idiv, 1) := by decide +kernel
theorem dX7_able_28 : decode cX7_able 28 = .ok (.invokestatic 128, 3) := by decide +kernel
theorem dX7_able_31 : decode cX7_able 31 = .ok (.ifCond .ne 24, 3) := by decide +kernel
theorem dX7_able_34 : decode cX7_able 34 = .ok (.aload_n 0, 1) := by decide +kernel
theorem dX7_able_35 : decode cX7_able 35 = .ok (.getfield 65, 3) := by decide +kernel
theorem dX7_able_38 : decode cX7_able 38 = .ok (.aload_n 0, 1) := by decide +kernel
theorem dX7_able_39 : decode cX7_able 39 = .ok (.getfield 34, 3) := by decide +kernel
theorem dX7_able_42 : decode cX7_able 42 = .ok (.iload_n 2, 1) := by decide +kernel
theorem dX7_able_43 : decode cX7_able 43 = .ok (.aload_n 0, 1) := by decide +kernel
theorem dX7_able_44 : decode cX7_able 44 = .ok (.getfield 37, 3) := by decide +kernel
theorem dX7_able_47 : decode cX7_able 47 = .ok (.irem, 1) := by decide +kernel
theorem dX7_able_48 : decode cX7_able 48 = .ok (.iadd, 1) := by decide +kernel
theorem dX7_able_49 : decode cX7_able 49 = .ok (.invokestatic 128, 3) := by decide +kernel
theorem dX7_able_52 : decode cX7_able 52 = .ok (.ifCond .eq 10, 3) := by decide +kernel
theorem dX7_able_55 : decode cX7_able 55 = .ok (.iload_n 1, 1) := by decide +kernel
theorem dX7_able_56 : decode cX7_able 56 = .ok (.iload_n 2, 1) := by decide +kernel
theorem dX7_able_57 : decode cX7_able 57 = .ok (.iconst 0, 1) := by decide +kernel
theorem dX7_able_58 : decode cX7_able 58 = .ok (.invokestatic 104, 3) := by decide +kernel
theorem dX7_able_61 : decode cX7_able 61 = .ok (.istore_n 1, 1) := by decide +kernel
theorem dX7_able_62 : decode cX7_able 62 = .ok (.iinc 2 1, 3) := by decide +kernel
theorem dX7_able_65 : decode cX7_able 65 = .ok (.goto (-58), 3) := by decide +kernel
theorem dX7_able_68 : decode cX7_able 68 = .ok (.iload_n 1, 1) := by decide +kernel
theorem dX7_able_69 : decode cX7_able 69 = .ok (.ireturn, 1) := by decide +kernel
theorem dX7_seenOf_0 : decode cX7_seenOf 0 = .ok (.iload_n 1, 1) := by decide +kernel
theorem dX7_seenOf_1 : decode cX7_seenOf 1 = .ok (.aload_n 0, 1) := by decide +kernel
theorem dX7_seenOf_2 : decode cX7_seenOf 2 = .ok (.invokevirtual 147, 3) := by decide +kernel
theorem dX7_seenOf_5 : decode cX7_seenOf 5 = .ok (.iand, 1) := by decide +kernel
theorem dX7_seenOf_6 : decode cX7_seenOf 6 = .ok (.istore_n 3, 1) := by decide +kernel
theorem dX7_seenOf_7 : decode cX7_seenOf 7 = .ok (.iload_n 3, 1) := by decide +kernel
theorem dX7_seenOf_8 : decode cX7_seenOf 8 = .ok (.iload_n 2, 1) := by decide +kernel
theorem dX7_seenOf_9 : decode cX7_seenOf 9 = .ok (.iconst (-1), 1) := by decide +kernel
theorem dX7_seenOf_10 : decode cX7_seenOf 10 = .ok (.ixor, 1) := by decide +kernel
theorem dX7_seenOf_11 : decode cX7_seenOf 11 = .ok (.iand, 1) := by decide +kernel
theorem dX7_seenOf_12 : decode cX7_seenOf 12 = .ok (.istore 4, 2) := by decide +kernel
theorem dX7_seenOf_14 : decode cX7_seenOf 14 = .ok (.iload_n 3, 1) := by decide +kernel
theorem dX7_seenOf_15 : decode cX7_seenOf 15 = .ok (.istore 5, 2) := by decide +kernel
theorem dX7_seenOf_17 : decode cX7_seenOf 17 = .ok (.iconst (-1), 1) := by decide +kernel
theorem dX7_seenOf_18 : decode cX7_seenOf 18 = .ok (.istore 6, 2) := by decide +kernel
theorem dX7_seenOf_20 : decode cX7_seenOf 20 = .ok (.iload 6, 2) := by decide +kernel
theorem dX7_seenOf_22 : decode cX7_seenOf 22 = .ok (.iload 5, 2) := by decide +kernel
theorem dX7_seenOf_24 : decode cX7_seenOf 24 = .ok (.if_icmp .eq 86, 3) := by decide +kernel
theorem dX7_seenOf_27 : decode cX7_seenOf 27 = .ok (.iload 5, 2) := by decide +kernel
theorem dX7_seenOf_29 : decode cX7_seenOf 29 = .ok (.istore 6, 2) := by decide +kernel
theorem dX7_seenOf_31 : decode cX7_seenOf 31 = .ok (.iconst 0, 1) := by decide +kernel
theorem dX7_seenOf_32 : decode cX7_seenOf 32 = .ok (.istore 7, 2) := by decide +kernel
theorem dX7_seenOf_34 : decode cX7_seenOf 34 = .ok (.iload 7, 2) := by decide +kernel
theorem dX7_seenOf_36 : decode cX7_seenOf 36 = .ok (.aload_n 0, 1) := by decide +kernel
theorem dX7_seenOf_37 : decode cX7_seenOf 37 = .ok (.getfield 34, 3) := by decide +kernel
theorem dX7_seenOf_40 : decode cX7_seenOf 40 = .ok (.if_icmp .ge 67, 3) := by decide +kernel
theorem dX7_seenOf_43 : decode cX7_seenOf 43 = .ok (.iconst 0, 1) := by decide +kernel
theorem dX7_seenOf_44 : decode cX7_seenOf 44 = .ok (.istore 8, 2) := by decide +kernel
theorem dX7_seenOf_46 : decode cX7_seenOf 46 = .ok (.iload 8, 2) := by decide +kernel
theorem dX7_seenOf_48 : decode cX7_seenOf 48 = .ok (.aload_n 0, 1) := by decide +kernel
theorem dX7_seenOf_49 : decode cX7_seenOf 49 = .ok (.getfield 34, 3) := by decide +kernel
theorem dX7_seenOf_52 : decode cX7_seenOf 52 = .ok (.if_icmp .ge 49, 3) := by decide +kernel
theorem dX7_seenOf_55 : decode cX7_seenOf 55 = .ok (.aload_n 0, 1) := by decide +kernel
theorem dX7_seenOf_56 : decode cX7_seenOf 56 = .ok (.iload 5, 2) := by decide +kernel
theorem dX7_seenOf_58 : decode cX7_seenOf 58 = .ok (.iload 7, 2) := by decide +kernel
theorem dX7_seenOf_60 : decode cX7_seenOf 60 = .ok (.invokevirtual 150, 3) := by decide +kernel
theorem dX7_seenOf_63 : decode cX7_seenOf 63 = .ok (.aload_n 0, 1) := by decide +kernel
theorem dX7_seenOf_64 : decode cX7_seenOf 64 = .ok (.iload 4, 2) := by decide +kernel
theorem dX7_seenOf_66 : decode cX7_seenOf 66 = .ok (.iload 8, 2) := by decide +kernel
theorem dX7_seenOf_68 : decode cX7_seenOf 68 = .ok (.invokevirtual 150, 3) := by decide +kernel
theorem dX7_seenOf_71 : decode cX7_seenOf 71 = .ok (.iand, 1) := by decide +kernel
theorem dX7_seenOf_72 : decode cX7_seenOf 72 = .ok (.ifCond .eq 23, 3) := by decide +kernel
theorem dX7_seenOf_75 : decode cX7_seenOf 75 = .ok (.iload 5, 2) := by decide +kernel
theorem dX7_seenOf_77 : decode cX7_seenOf 77 = .ok (.aload_n 0, 1) := by decide +kernel
theorem dX7_seenOf_78 : decode cX7_seenOf 78 = .ok (.iload_n 3, 1) := by decide +kernel
theorem dX7_seenOf_79 : decode cX7_seenOf 79 = .ok (.iload 8, 2) := by decide +kernel
theorem dX7_seenOf_81 : decode cX7_seenOf 81 = .ok (.invokevirtual 150, 3) := by decide +kernel
theorem dX7_seenOf_84 : decode cX7_seenOf 84 = .ok (.iload 7, 2) := by decide +kernel
theorem dX7_seenOf_86 : decode cX7_seenOf 86 = .ok (.aload_n 0, 1) := by decide +kernel
theorem dX7_seenOf_87 : decode cX7_seenOf 87 = .ok (.getfield 37, 3) := by decide +kernel
theorem dX7_seenOf_90 : decode cX7_seenOf 90 = .ok (.imul, 1) := by decide +kernel
theorem dX7_seenOf_91 : decode cX7_seenOf 91 = .ok (.ishl, 1) := by decide +kernel
theorem dX7_seenOf_92 : decode cX7_seenOf 92 = .ok (.ior, 1) := by decide +kernel
theorem dX7_seenOf_93 : decode cX7_seenOf 93 = .ok (.istore 5, 2) := by decide +kernel
theorem dX7_seenOf_95 : decode cX7_seenOf 95 = .ok (.iinc 8 1, 3) := by decide +kernel
theorem dX7_seenOf_98 : decode cX7_seenOf 98 = .ok (.goto (-52), 3) := by decide +kernel
theorem dX7_seenOf_101 : decode cX7_seenOf 101 = .ok (.iinc 7 1, 3) := by decide +kernel
theorem dX7_seenOf_104 : decode cX7_seenOf 104 = .ok (.goto (-70), 3) := by decide +kernel
theorem dX7_seenOf_107 : decode cX7_seenOf 107 = .ok (.goto (-87), 3) := by decide +kernel
theorem dX7_seenOf_110 : decode cX7_seenOf 110 = .ok (.iload 5, 2) := by decide +kernel
theorem dX7_seenOf_112 : decode cX7_seenOf 112 = .ok (.aload_n 0, 1) := by decide +kernel
theorem dX7_seenOf_113 : decode cX7_seenOf 113 = .ok (.getfield 56, 3) := by decide +kernel
theorem dX7_seenOf_116 : decode cX7_seenOf 116 = .ok (.iand, 1) := by decide +kernel
theorem dX7_seenOf_117 : decode cX7_seenOf 117 = .ok (.ireturn, 1) := by decide +kernel
theorem dX7_isExact_0 : decode cX7_isExact 0 = .ok (.aload_n 0, 1) := by decide +kernel
theorem dX7_isExact_1 : decode cX7_isExact 1 = .ok (.iload_n 1, 1) := by decide +kernel
theorem dX7_isExact_2 : decode cX7_isExact 2 = .ok (.iload_n 2, 1) := by decide +kernel
theorem dX7_isExact_3 : decode cX7_isExact 3 = .ok (.invokevirtual 154, 3) := by decide +kernel
theorem dX7_isExact_6 : decode cX7_isExact 6 = .ok (.iload_n 1, 1) := by decide +kernel
theorem dX7_isExact_7 : decode cX7_isExact 7 = .ok (.iconst (-1), 1) := by decide +kernel
theorem dX7_isExact_8 : decode cX7_isExact 8 = .ok (.ixor, 1) := by decide +kernel
theorem dX7_isExact_9 : decode cX7_isExact 9 = .ok (.iand, 1) := by decide +kernel
theorem dX7_isExact_10 : decode cX7_isExact 10 = .ok (.ifCond .ne 7, 3) := by decide +kernel
theorem dX7_isExact_13 : decode cX7_isExact 13 = .ok (.iconst 1, 1) := by decide +kernel
theorem dX7_isExact_14 : decode cX7_isExact 14 = .ok (.goto 4, 3) := by decide +kernel
theorem dX7_isExact_17 : decode cX7_isExact 17 = .ok (.iconst 0, 1) := by decide +kernel
theorem dX7_isExact_18 : decode cX7_isExact 18 = .ok (.ireturn, 1) := by decide +kernel
theorem dX7_isClear_0 : decode cX7_isClear 0 = .ok (.iconst 0, 1) := by decide +kernel
theorem dX7_isClear_1 : decode cX7_isClear 1 = .ok (.istore_n 1, 1) := by decide +kernel
theorem dX7_isClear_2 : decode cX7_isClear 2 = .ok (.iload_n 1, 1) := by decide +kernel
theorem dX7_isClear_3 : decode cX7_isClear 3 = .ok (.aload_n 0, 1) := by decide +kernel
theorem dX7_isClear_4 : decode cX7_isClear 4 = .ok (.getfield 16, 3) := by decide +kernel
theorem dX7_isClear_7 : decode cX7_isClear 7 = .ok (.invokevirtual 52, 3) := by decide +kernel
theorem dX7_isClear_10 : decode cX7_isClear 10 = .ok (.if_icmp .ge 46, 3) := by decide +kernel
theorem dX7_isClear_13 : decode cX7_isClear 13 = .ok (.aload_n 0, 1) := by decide +kernel
theorem dX7_isClear_14 : decode cX7_isClear 14 = .ok (.getfield 56, 3) := by decide +kernel
theorem dX7_isClear_17 : decode cX7_isClear 17 = .ok (.iload_n 1, 1) := by decide +kernel
theorem dX7_isClear_18 : decode cX7_isClear 18 = .ok (.invokestatic 128, 3) := by decide +kernel
theorem dX7_isClear_21 : decode cX7_isClear 21 = .ok (.ifCond .eq 29, 3) := by decide +kernel
theorem dX7_isClear_24 : decode cX7_isClear 24 = .ok (.aload_n 0, 1) := by decide +kernel
theorem dX7_isClear_25 : decode cX7_isClear 25 = .ok (.aload_n 0, 1) := by decide +kernel
theorem dX7_isClear_26 : decode cX7_isClear 26 = .ok (.getfield 56, 3) := by decide +kernel
theorem dX7_isClear_29 : decode cX7_isClear 29 = .ok (.iload_n 1, 1) := by decide +kernel
theorem dX7_isClear_30 : decode cX7_isClear 30 = .ok (.iconst 0, 1) := by decide +kernel
theorem dX7_isClear_31 : decode cX7_isClear 31 = .ok (.invokestatic 104, 3) := by decide +kernel
theorem dX7_isClear_34 : decode cX7_isClear 34 = .ok (.aload_n 0, 1) := by decide +kernel
theorem dX7_isClear_35 : decode cX7_isClear 35 = .ok (.getfield 59, 3) := by decide +kernel
theorem dX7_isClear_38 : decode cX7_isClear 38 = .ok (.invokevirtual 154, 3) := by decide +kernel
theorem dX7_isClear_41 : decode cX7_isClear 41 = .ok (.iload_n 1, 1) := by decide +kernel
theorem dX7_isClear_42 : decode cX7_isClear 42 = .ok (.invokestatic 128, 3) := by decide +kernel
theorem dX7_isClear_45 : decode cX7_isClear 45 = .ok (.ifCond .eq 5, 3) := by decide +kernel
theorem dX7_isClear_48 : decode cX7_isClear 48 = .ok (.iconst 0, 1) := by decide +kernel
theorem dX7_isClear_49 : decode cX7_isClear 49 = .ok (.ireturn, 1) := by decide +kernel
theorem dX7_isClear_50 : decode cX7_isClear 50 = .ok (.iinc 1 1, 3) := by decide +kernel
theorem dX7_isClear_53 : decode cX7_isClear 53 = .ok (.goto (-51), 3) := by decide +kernel
theorem dX7_isClear_56 : decode cX7_isClear 56 = .ok (.iconst 1, 1) := by decide +kernel
theorem dX7_isClear_57 : decode cX7_isClear 57 = .ok (.ireturn, 1) := by decide +kernel
theorem dX7_stepsTo_0 : decode cX7_stepsTo 0 = .ok (.aload_n 0, 1) := by decide +kernel
theorem dX7_stepsTo_1 : decode cX7_stepsTo 1 = .ok (.invokevirtual 147, 3) := by decide +kernel
theorem dX7_stepsTo_4 : decode cX7_stepsTo 4 = .ok (.iload_n 1, 1) := by decide +kernel
theorem dX7_stepsTo_5 : decode cX7_stepsTo 5 = .ok (.iconst 0, 1) := by decide +kernel
theorem dX7_stepsTo_6 : decode cX7_stepsTo 6 = .ok (.invokestatic 104, 3) := by decide +kernel
theorem dX7_stepsTo_9 : decode cX7_stepsTo 9 = .ok (.istore_n 3, 1) := by decide +kernel
theorem dX7_stepsTo_10 : decode cX7_stepsTo 10 = .ok (.aload_n 0, 1) := by decide +kernel
theorem dX7_stepsTo_11 : decode cX7_stepsTo 11 = .ok (.iload_n 3, 1) := by decide +kernel
theorem dX7_stepsTo_12 : decode cX7_stepsTo 12 = .ok (.iload_n 1, 1) := by decide +kernel
theorem dX7_stepsTo_13 : decode cX7_stepsTo 13 = .ok (.aload_n 0, 1) := by decide +kernel
theorem dX7_stepsTo_14 : decode cX7_stepsTo 14 = .ok (.getfield 37, 3) := by decide +kernel
theorem dX7_stepsTo_17 : decode cX7_stepsTo 17 = .ok (.idiv, 1) := by decide +kernel
theorem dX7_stepsTo_18 : decode cX7_stepsTo 18 = .ok (.invokevirtual 150, 3) := by decide +kernel
theorem dX7_stepsTo_21 : decode cX7_stepsTo 21 = .ok (.istore 4, 2) := by decide +kernel
theorem dX7_stepsTo_23 : decode cX7_stepsTo 23 = .ok (.iconst 1, 1) := by decide +kernel
theorem dX7_stepsTo_24 : decode cX7_stepsTo 24 = .ok (.istore 5, 2) := by decide +kernel
theorem dX7_stepsTo_26 : decode cX7_stepsTo 26 = .ok (.iload 4, 2) := by decide +kernel
theorem dX7_stepsTo_28 : decode cX7_stepsTo 28 = .ok (.iload_n 1, 1) := by decide +kernel
theorem dX7_stepsTo_29 : decode cX7_stepsTo 29 = .ok (.aload_n 0, 1) := by decide +kernel
theorem dX7_stepsTo_30 : decode cX7_stepsTo 30 = .ok (.getfield 37, 3) := by decide +kernel
theorem dX7_stepsTo_33 : decode cX7_stepsTo 33 = .ok (.irem, 1) := by decide +kernel
theorem dX7_stepsTo_34 : decode cX7_stepsTo 34 = .ok (.invokestatic 128, 3) := by decide +kernel
theorem dX7_stepsTo_37 : decode cX7_stepsTo 37 = .ok (.ifCond .eq 6, 3) := by decide +kernel
theorem dX7_stepsTo_40 : decode cX7_stepsTo 40 = .ok (.iload 5, 2) := by decide +kernel
theorem dX7_stepsTo_42 : decode cX7_stepsTo 42 = .ok (.ireturn, 1) := by decide +kernel
theorem dX7_stepsTo_43 : decode cX7_stepsTo 43 = .ok (.iload 4, 2) := by decide +kernel
theorem dX7_stepsTo_45 : decode cX7_stepsTo 45 = .ok (.istore 6, 2) := by decide +kernel
theorem dX7_stepsTo_47 : decode cX7_stepsTo 47 = .ok (.iconst 0, 1) := by decide +kernel
theorem dX7_stepsTo_48 : decode cX7_stepsTo 48 = .ok (.istore 7, 2) := by decide +kernel
theorem dX7_stepsTo_50 : decode cX7_stepsTo 50 = .ok (.iload 7, 2) := by decide +kernel
theorem dX7_stepsTo_52 : decode cX7_stepsTo 52 = .ok (.aload_n 0, 1) := by decide +kernel
theorem dX7_stepsTo_53 : decode cX7_stepsTo 53 = .ok (.getfield 34, 3) := by decide +kernel
theorem dX7_stepsTo_56 : decode cX7_stepsTo 56 = .ok (.if_icmp .ge 38, 3) := by decide +kernel
theorem dX7_stepsTo_59 : decode cX7_stepsTo 59 = .ok (.aload_n 0, 1) := by decide +kernel
theorem dX7_stepsTo_60 : decode cX7_stepsTo 60 = .ok (.iload_n 3, 1) := by decide +kernel
theorem dX7_stepsTo_61 : decode cX7_stepsTo 61 = .ok (.iload_n 2, 1) := by decide +kernel
theorem dX7_stepsTo_62 : decode cX7_stepsTo 62 = .ok (.iconst (-1), 1) := by decide +kernel
theorem dX7_stepsTo_63 : decode cX7_stepsTo 63 = .ok (.ixor, 1) := by decide +kernel
theorem dX7_stepsTo_64 : decode cX7_stepsTo 64 = .ok (.iand, 1) := by decide +kernel
theorem dX7_stepsTo_65 : decode cX7_stepsTo 65 = .ok (.iload 7, 2) := by decide +kernel
theorem dX7_stepsTo_67 : decode cX7_stepsTo 67 = .ok (.invokevirtual 150, 3) := by decide +kernel
theorem dX7_stepsTo_70 : decode cX7_stepsTo 70 = .ok (.iload 4, 2) := by decide +kernel
theorem dX7_stepsTo_72 : decode cX7_stepsTo 72 = .ok (.iand, 1) := by decide +kernel
theorem dX7_stepsTo_73 : decode cX7_stepsTo 73 = .ok (.ifCond .eq 15, 3) := by decide +kernel
theorem dX7_stepsTo_76 : decode cX7_stepsTo 76 = .ok (.iload 6, 2) := by decide +kernel
theorem dX7_stepsTo_78 : decode cX7_stepsTo 78 = .ok (.aload_n 0, 1) := by decide +kernel
theorem dX7_stepsTo_79 : decode cX7_stepsTo 79 = .ok (.iload_n 3, 1) := by decide +kernel
theorem dX7_stepsTo_80 : decode cX7_stepsTo 80 = .ok (.iload 7, 2) := by decide +kernel
theorem dX7_stepsTo_82 : decode cX7_stepsTo 82 = .ok (.invokevirtual 150, 3) := by decide +kernel
theorem dX7_stepsTo_85 : decode cX7_stepsTo 85 = .ok (.ior, 1) := by decide +kernel
theorem dX7_stepsTo_86 : decode cX7_stepsTo 86 = .ok (.istore 6, 2) := by decide +kernel
theorem dX7_stepsTo_88 : decode cX7_stepsTo 88 = .ok (.iinc 7 1, 3) := by decide +kernel
theorem dX7_stepsTo_91 : decode cX7_stepsTo 91 = .ok (.goto (-41), 3) := by decide +kernel
theorem dX7_stepsTo_94 : decode cX7_stepsTo 94 = .ok (.iload 6, 2) := by decide +kernel
theorem dX7_stepsTo_96 : decode cX7_stepsTo 96 = .ok (.iload 4, 2) := by decide +kernel
theorem dX7_stepsTo_98 : decode cX7_stepsTo 98 = .ok (.if_icmp .ne 5, 3) := by decide +kernel
theorem dX7_stepsTo_101 : decode cX7_stepsTo 101 = .ok (.iconst (-1), 1) := by decide +kernel
theorem dX7_stepsTo_102 : decode cX7_stepsTo 102 = .ok (.ireturn, 1) := by decide +kernel
theorem dX7_stepsTo_103 : decode cX7_stepsTo 103 = .ok (.iload 6, 2) := by decide +kernel
theorem dX7_stepsTo_105 : decode cX7_stepsTo 105 = .ok (.istore 4, 2) := by decide +kernel
theorem dX7_stepsTo_107 : decode cX7_stepsTo 107 = .ok (.iinc 5 2, 3) := by decide +kernel
theorem dX7_stepsTo_110 : decode cX7_stepsTo 110 = .ok (.goto (-84), 3) := by decide +kernel
theorem dX7_leastOf_0 : decode cX7_leastOf 0 = .ok (.iconst (-1), 1) := by decide +kernel
theorem dX7_leastOf_1 : decode cX7_leastOf 1 = .ok (.istore_n 2, 1) := by decide +kernel
theorem dX7_leastOf_2 : decode cX7_leastOf 2 = .ok (.iconst 0, 1) := by decide +kernel
theorem dX7_leastOf_3 : decode cX7_leastOf 3 = .ok (.istore_n 3, 1) := by decide +kernel
theorem dX7_leastOf_4 : decode cX7_leastOf 4 = .ok (.iload_n 3, 1) := by decide +kernel
theorem dX7_leastOf_5 : decode cX7_leastOf 5 = .ok (.aload_n 0, 1) := by decide +kernel
theorem dX7_leastOf_6 : decode cX7_leastOf 6 = .ok (.getfield 16, 3) := by decide +kernel
theorem dX7_leastOf_9 : decode cX7_leastOf 9 = .ok (.invokevirtual 52, 3) := by decide +kernel
theorem dX7_leastOf_12 : decode cX7_leastOf 12 = .ok (.if_icmp .ge 52, 3) := by decide +kernel
theorem dX7_leastOf_15 : decode cX7_leastOf 15 = .ok (.aload_n 0, 1) := by decide +kernel
theorem dX7_leastOf_16 : decode cX7_leastOf 16 = .ok (.getfield 56, 3) := by decide +kernel
theorem dX7_leastOf_19 : decode cX7_leastOf 19 = .ok (.iload_n 3, 1) := by decide +kernel
theorem dX7_leastOf_20 : decode cX7_leastOf 20 = .ok (.invokestatic 128, 3) := by decide +kernel
theorem dX7_leastOf_23 : decode cX7_leastOf 23 = .ok (.ifCond .eq 12, 3) := by decide +kernel
theorem dX7_leastOf_26 : decode cX7_leastOf 26 = .ok (.aload_n 0, 1) := by decide +kernel
theorem dX7_leastOf_27 : decode cX7_leastOf 27 = .ok (.iload_n 3, 1) := by decide +kernel
theorem dX7_leastOf_28 : decode cX7_leastOf 28 = .ok (.iload_n 1, 1) := by decide +kernel
theorem dX7_leastOf_29 : decode cX7_leastOf 29 = .ok (.invokevirtual 157, 3) := by decide +kernel
theorem dX7_leastOf_32 : decode cX7_leastOf 32 = .ok (.goto 4, 3) := by decide +kernel
theorem dX7_leastOf_35 : decode cX7_leastOf 35 = .ok (.iconst (-1), 1) := by decide +kernel
theorem dX7_leastOf_36 : decode cX7_leastOf 36 = .ok (.istore 4, 2) := by decide +kernel
theorem dX7_leastOf_38 : decode cX7_leastOf 38 = .ok (.iload 4, 2) := by decide +kernel
theorem dX7_leastOf_40 : decode cX7_leastOf 40 = .ok (.iconst (-1), 1) := by decide +kernel
theorem dX7_leastOf_41 : decode cX7_leastOf 41 = .ok (.if_icmp .eq 17, 3) := by decide +kernel
theorem dX7_leastOf_44 : decode cX7_leastOf 44 = .ok (.iload_n 2, 1) := by decide +kernel
theorem dX7_leastOf_45 : decode cX7_leastOf 45 = .ok (.iconst (-1), 1) := by decide +kernel
theorem dX7_leastOf_46 : decode cX7_leastOf 46 = .ok (.if_icmp .eq 9, 3) := by decide +kernel
theorem dX7_leastOf_49 : decode cX7_leastOf 49 = .ok (.iload 4, 2) := by decide +kernel
theorem dX7_leastOf_51 : decode cX7_leastOf 51 = .ok (.iload_n 2, 1) := by decide +kernel
theorem dX7_leastOf_52 : decode cX7_leastOf 52 = .ok (.if_icmp .ge 6, 3) := by decide +kernel
theorem dX7_leastOf_55 : decode cX7_leastOf 55 = .ok (.iload 4, 2) := by decide +kernel
theorem dX7_leastOf_57 : decode cX7_leastOf 57 = .ok (.istore_n 2, 1) := by decide +kernel
theorem dX7_leastOf_58 : decode cX7_leastOf 58 = .ok (.iinc 3 1, 3) := by decide +kernel
theorem dX7_leastOf_61 : decode cX7_leastOf 61 = .ok (.goto (-57), 3) := by decide +kernel
theorem dX7_leastOf_64 : decode cX7_leastOf 64 = .ok (.iload_n 2, 1) := by decide +kernel
theorem dX7_leastOf_65 : decode cX7_leastOf 65 = .ok (.ireturn, 1) := by decide +kernel
theorem dX7_unclearOf_0 : decode cX7_unclearOf 0 = .ok (.iload_n 1, 1) := by decide +kernel
theorem dX7_unclearOf_1 : decode cX7_unclearOf 1 = .ok (.ifCond .ne 22, 3) := by decide +kernel
theorem dX7_unclearOf_4 : decode cX7_unclearOf 4 = .ok (.aload_n 0, 1) := by decide +kernel
theorem dX7_unclearOf_5 : decode cX7_unclearOf 5 = .ok (.iload_n 3, 1) := by decide +kernel
theorem dX7_unclearOf_6 : decode cX7_unclearOf 6 = .ok (.iload 4, 2) := by decide +kernel
theorem dX7_unclearOf_8 : decode cX7_unclearOf 8 = .ok (.invokevirtual 160, 3) := by decide +kernel
theorem dX7_unclearOf_11 : decode cX7_unclearOf 11 = .ok (.ifCond .ne 7, 3) := by decide +kernel
theorem dX7_unclearOf_14 : decode cX7_unclearOf 14 = .ok (.iconst 1, 1) := by decide +kernel
theorem dX7_unclearOf_15 : decode cX7_unclearOf 15 = .ok (.goto 4, 3) := by decide +kernel
theorem dX7_unclearOf_18 : decode cX7_unclearOf 18 = .ok (.iconst 0, 1) := by decide +kernel
theorem dX7_unclearOf_19 : decode cX7_unclearOf 19 = .ok (.invokestatic 163, 3) := by decide +kernel
theorem dX7_unclearOf_22 : decode cX7_unclearOf 22 = .ok (.ireturn, 1) := by decide +kernel
theorem dX7_unclearOf_23 : decode cX7_unclearOf 23 = .ok (.iconst 0, 1) := by decide +kernel
theorem dX7_unclearOf_24 : decode cX7_unclearOf 24 = .ok (.istore 5, 2) := by decide +kernel
theorem dX7_unclearOf_26 : decode cX7_unclearOf 26 = .ok (.iload_n 2, 1) := by decide +kernel
theorem dX7_unclearOf_27 : decode cX7_unclearOf 27 = .ok (.istore 6, 2) := by decide +kernel
theorem dX7_unclearOf_29 : decode cX7_unclearOf 29 = .ok (.iload 6, 2) := by decide +kernel
theorem dX7_unclearOf_31 : decode cX7_unclearOf 31 = .ok (.aload_n 0, 1) := by decide +kernel
theorem dX7_unclearOf_32 : decode cX7_unclearOf 32 = .ok (.getfield 16, 3) := by decide +kernel
theorem dX7_unclearOf_35 : decode cX7_unclearOf 35 = .ok (.invokevirtual 52, 3) := by decide +kernel
theorem dX7_unclearOf_38 : decode cX7_unclearOf 38 = .ok (.if_icmp .ge 46, 3) := by decide +kernel
theorem dX7_unclearOf_41 : decode cX7_unclearOf 41 = .ok (.aload_n 0, 1) := by decide +kernel
theorem dX7_unclearOf_42 : decode cX7_unclearOf 42 = .ok (.getfield 56, 3) := by decide +kernel
theorem dX7_unclearOf_45 : decode cX7_unclearOf 45 = .ok (.iload 6, 2) := by decide +kernel
theorem dX7_unclearOf_47 : decode cX7_unclearOf 47 = .ok (.invokestatic 128, 3) := by decide +kernel
theorem dX7_unclearOf_50 : decode cX7_unclearOf 50 = .ok (.ifCond .eq 28, 3) := by decide +kernel
theorem dX7_unclearOf_53 : decode cX7_unclearOf 53 = .ok (.iload 5, 2) := by decide +kernel
theorem dX7_unclearOf_55 : decode cX7_unclearOf 55 = .ok (.aload_n 0, 1) := by decide +kernel
theorem dX7_unclearOf_56 : decode cX7_unclearOf 56 = .ok (.iload_n 1, 1) := by decide +kernel
theorem dX7_unclearOf_57 : decode cX7_unclearOf 57 = .ok (.iconst 1, 1) := by decide +kernel
theorem dX7_unclearOf_58 : decode cX7_unclearOf 58 = .ok (.isub, 1) := by decide +kernel
theorem dX7_unclearOf_59 : decode cX7_unclearOf 59 = .ok (.iload 6, 2) := by decide +kernel
theorem dX7_unclearOf_61 : decode cX7_unclearOf 61 = .ok (.iconst 1, 1) := by decide +kernel
theorem dX7_unclearOf_62 : decode cX7_unclearOf 62 = .ok (.iadd, 1) := by decide +kernel
theorem dX7_unclearOf_63 : decode cX7_unclearOf 63 = .ok (.iload_n 3, 1) := by decide +kernel
theorem dX7_unclearOf_64 : decode cX7_unclearOf 64 = .ok (.iload 6, 2) := by decide +kernel
theorem dX7_unclearOf_66 : decode cX7_unclearOf 66 = .ok (.iconst 1, 1) := by decide +kernel
theorem dX7_unclearOf_67 : decode cX7_unclearOf 67 = .ok (.invokestatic 104, 3) := by decide +kernel
theorem dX7_unclearOf_70 : decode cX7_unclearOf 70 = .ok (.iload 4, 2) := by decide +kernel
theorem dX7_unclearOf_72 : decode cX7_unclearOf 72 = .ok (.invokevirtual 167, 3) := by decide +kernel
theorem dX7_unclearOf_75 : decode cX7_unclearOf 75 = .ok (.iadd, 1) := by decide +kernel
theorem dX7_unclearOf_76 : decode cX7_unclearOf 76 = .ok (.istore 5, 2) := by decide +kernel
theorem dX7_unclearOf_78 : decode cX7_unclearOf 78 = .ok (.iinc 6 1, 3) := by decide +kernel
theorem dX7_unclearOf_81 : decode cX7_unclearOf 81 = .ok (.goto (-52), 3) := by decide +kernel
theorem dX7_unclearOf_84 : decode cX7_unclearOf 84 = .ok (.iload 5, 2) := by decide +kernel
theorem dX7_unclearOf_86 : decode cX7_unclearOf 86 = .ok (.ireturn, 1) := by decide +kernel
theorem dX7_hold_0 : decode cX7_hold 0 = .ok (.aload_n 0, 1) := by decide +kernel
theorem dX7_hold_1 : decode cX7_hold 1 = .ok (.aload_n 0, 1) := by decide +kernel
theorem dX7_hold_2 : decode cX7_hold 2 = .ok (.iload_n 1, 1) := by decide +kernel
theorem dX7_hold_3 : decode cX7_hold 3 = .ok (.invokevirtual 121, 3) := by decide +kernel
theorem dX7_hold_6 : decode cX7_hold 6 = .ok (.iconst 1, 1) := by decide +kernel
theorem dX7_hold_7 : decode cX7_hold 7 = .ok (.invokevirtual 101, 3) := by decide +kernel
theorem dX7_hold_10 : decode cX7_hold 10 = .ok (.ifCond .ne 27, 3) := by decide +kernel
theorem dX7_hold_13 : decode cX7_hold 13 = .ok (.aload_n 0, 1) := by decide +kernel
theorem dX7_hold_14 : decode cX7_hold 14 = .ok (.aload_n 0, 1) := by decide +kernel
theorem dX7_hold_15 : decode cX7_hold 15 = .ok (.getfield 56, 3) := by decide +kernel
theorem dX7_hold_18 : decode cX7_hold 18 = .ok (.iload_n 1, 1) := by decide +kernel
theorem dX7_hold_19 : decode cX7_hold 19 = .ok (.invokestatic 128, 3) := by decide +kernel
theorem dX7_hold_22 : decode cX7_hold 22 = .ok (.ifCond .ne 7, 3) := by decide +kernel
theorem dX7_hold_25 : decode cX7_hold 25 = .ok (.iconst 1, 1) := by decide +kernel
theorem dX7_hold_26 : decode cX7_hold 26 = .ok (.goto 4, 3) := by decide +kernel
theorem dX7_hold_29 : decode cX7_hold 29 = .ok (.iconst 0, 1) := by decide +kernel
theorem dX7_hold_30 : decode cX7_hold 30 = .ok (.iconst 2, 1) := by decide +kernel
theorem dX7_hold_31 : decode cX7_hold 31 = .ok (.invokevirtual 93, 3) := by decide +kernel
theorem dX7_hold_34 : decode cX7_hold 34 = .ok (.ifCond .eq 5, 3) := by decide +kernel
theorem dX7_hold_37 : decode cX7_hold 37 = .ok (.iconst 0, 1) := by decide +kernel
theorem dX7_hold_38 : decode cX7_hold 38 = .ok (.ireturn, 1) := by decide +kernel
theorem dX7_hold_39 : decode cX7_hold 39 = .ok (.aload_n 0, 1) := by decide +kernel
theorem dX7_hold_40 : decode cX7_hold 40 = .ok (.getfield 62, 3) := by decide +kernel
theorem dX7_hold_43 : decode cX7_hold 43 = .ok (.iload_n 1, 1) := by decide +kernel
theorem dX7_hold_44 : decode cX7_hold 44 = .ok (.invokestatic 128, 3) := by decide +kernel
theorem dX7_hold_47 : decode cX7_hold 47 = .ok (.iload_n 2, 1) := by decide +kernel
theorem dX7_hold_48 : decode cX7_hold 48 = .ok (.if_icmp .eq 9, 3) := by decide +kernel
theorem dX7_hold_51 : decode cX7_hold 51 = .ok (.aload_n 0, 1) := by decide +kernel
theorem dX7_hold_52 : decode cX7_hold 52 = .ok (.iload_n 1, 1) := by decide +kernel
theorem dX7_hold_53 : decode cX7_hold 53 = .ok (.iload_n 2, 1) := by decide +kernel
theorem dX7_hold_54 : decode cX7_hold 54 = .ok (.invokevirtual 132, 3) := by decide +kernel
theorem dX7_hold_57 : decode cX7_hold 57 = .ok (.aload_n 0, 1) := by decide +kernel
theorem dX7_hold_58 : decode cX7_hold 58 = .ok (.getfield 62, 3) := by decide +kernel
theorem dX7_hold_61 : decode cX7_hold 61 = .ok (.invokestatic 136, 3) := by decide +kernel
theorem dX7_hold_64 : decode cX7_hold 64 = .ok (.ireturn, 1) := by decide +kernel
theorem dX7_closedNow_0 : decode cX7_closedNow 0 = .ok (.iconst 0, 1) := by decide +kernel
theorem dX7_closedNow_1 : decode cX7_closedNow 1 = .ok (.istore_n 1, 1) := by decide +kernel
theorem dX7_closedNow_2 : decode cX7_closedNow 2 = .ok (.iconst 0, 1) := by decide +kernel
theorem dX7_closedNow_3 : decode cX7_closedNow 3 = .ok (.istore_n 2, 1) := by decide +kernel
theorem dX7_closedNow_4 : decode cX7_closedNow 4 = .ok (.iload_n 2, 1) := by decide +kernel
theorem dX7_closedNow_5 : decode cX7_closedNow 5 = .ok (.aload_n 0, 1) := by decide +kernel
theorem dX7_closedNow_6 : decode cX7_closedNow 6 = .ok (.getfield 16, 3) := by decide +kernel
theorem dX7_closedNow_9 : decode cX7_closedNow 9 = .ok (.invokevirtual 52, 3) := by decide +kernel
theorem dX7_closedNow_12 : decode cX7_closedNow 12 = .ok (.if_icmp .ge 136, 3) := by decide +kernel
theorem dX7_closedNow_15 : decode cX7_closedNow 15 = .ok (.aload_n 0, 1) := by decide +kernel
theorem dX7_closedNow_16 : decode cX7_closedNow 16 = .ok (.getfield 16, 3) := by decide +kernel
theorem dX7_closedNow_19 : decode cX7_closedNow 19 = .ok (.iload_n 2, 1) := by decide +kernel
theorem dX7_closedNow_20 : decode cX7_closedNow 20 = .ok (.invokevirtual 108, 3) := by decide +kernel
theorem dX7_closedNow_23 : decode cX7_closedNow 23 = .ok (.checkcast 43, 3) := by decide +kernel
theorem dX7_closedNow_26 : decode cX7_closedNow 26 = .ok (.astore_n 3, 1) := by decide +kernel
theorem dX7_closedNow_27 : decode cX7_closedNow 27 = .ok (.aload_n 0, 1) := by decide +kernel
theorem dX7_closedNow_28 : decode cX7_closedNow 28 = .ok (.getfield 56, 3) := by decide +kernel
theorem dX7_closedNow_31 : decode cX7_closedNow 31 = .ok (.iload_n 2, 1) := by decide +kernel
theorem dX7_closedNow_32 : decode cX7_closedNow 32 = .ok (.invokestatic 128, 3) := by decide +kernel
theorem dX7_closedNow_35 : decode cX7_closedNow 35 = .ok (.ifCond .eq 107, 3) := by decide +kernel
theorem dX7_closedNow_38 : decode cX7_closedNow 38 = .ok (.aload_n 3, 1) := by decide +kernel
theorem dX7_closedNow_39 : decode cX7_closedNow 39 = .ok (.getfield 125, 3) := by decide +kernel
theorem dX7_closedNow_42 : decode cX7_closedNow 42 = .ok (.iconst 1, 1) := by decide +kernel
theorem dX7_closedNow_43 : decode cX7_closedNow 43 = .ok (.if_icmp .ne 6, 3) := by decide +kernel
theorem dX7_closedNow_46 : decode cX7_closedNow 46 = .ok (.goto 96, 3) := by decide +kernel
theorem dX7_closedNow_49 : decode cX7_closedNow 49 = .ok (.aload_n 3, 1) := by decide +kernel
theorem dX7_closedNow_50 : decode cX7_closedNow 50 = .ok (.getfield 125, 3) := by decide +kernel
theorem dX7_closedNow_53 : decode cX7_closedNow 53 = .ok (.iconst 2, 1) := by decide +kernel
theorem dX7_closedNow_54 : decode cX7_closedNow 54 = .ok (.if_icmp .eq 14, 3) := by decide +kernel
theorem dX7_closedNow_57 : decode cX7_closedNow 57 = .ok (.aload_n 0, 1) := by decide +kernel
theorem dX7_closedNow_58 : decode cX7_closedNow 58 = .ok (.getfield 62, 3) := by decide +kernel
theorem dX7_closedNow_61 : decode cX7_closedNow 61 = .ok (.iload_n 2, 1) := by decide +kernel
theorem dX7_closedNow_62 : decode cX7_closedNow 62 = .ok (.invokestatic 128, 3) := by decide +kernel
theorem dX7_closedNow_65 : decode cX7_closedNow 65 = .ok (.ifCond .eq 7, 3) := by decide +kernel
theorem dX7_closedNow_68 : decode cX7_closedNow 68 = .ok (.iconst 1, 1) := by decide +kernel
theorem dX7_closedNow_69 : decode cX7_closedNow 69 = .ok (.goto 4, 3) := by decide +kernel
theorem dX7_closedNow_72 : decode cX7_closedNow 72 = .ok (.iconst 0, 1) := by decide +kernel
theorem dX7_closedNow_73 : decode cX7_closedNow 73 = .ok (.istore 4, 2) := by decide +kernel
theorem dX7_closedNow_75 : decode cX7_closedNow 75 = .ok (.aload_n 3, 1) := by decide +kernel
theorem dX7_closedNow_76 : decode cX7_closedNow 76 = .ok (.getfield 125, 3) := by decide +kernel
theorem dX7_closedNow_79 : decode cX7_closedNow 79 = .ok (.ifCond .ne 55, 3) := by decide +kernel
theorem dX7_closedNow_82 : decode cX7_closedNow 82 = .ok (.aload_n 3, 1) := by decide +kernel
theorem dX7_closedNow_83 : decode cX7_closedNow 83 = .ok (.getfield 115, 3) := by decide +kernel
theorem dX7_closedNow_86 : decode cX7_closedNow 86 = .ok (.ifCond .le 48, 3) := by decide +kernel
theorem dX7_closedNow_89 : decode cX7_closedNow 89 = .ok (.aload_n 0, 1) := by decide +kernel
theorem dX7_closedNow_90 : decode cX7_closedNow 90 = .ok (.bipush 61, 2) := by decide +kernel
theorem dX7_closedNow_92 : decode cX7_closedNow 92 = .ok (.aload_n 0, 1) := by decide +kernel
theorem dX7_closedNow_93 : decode cX7_closedNow 93 = .ok (.getfield 7, 3) := by decide +kernel
theorem dX7_closedNow_96 : decode cX7_closedNow 96 = .ok (.imul, 1) := by decide +kernel
theorem dX7_closedNow_97 : decode cX7_closedNow 97 = .ok (.bipush 35, 2) := by decide +kernel
theorem dX7_closedNow_99 : decode cX7_closedNow 99 = .ok (.iadd, 1) := by decide +kernel
theorem dX7_closedNow_100 : decode cX7_closedNow 100 = .ok (.sipush 128, 3) := by decide +kernel
theorem dX7_closedNow_103 : decode cX7_closedNow 103 = .ok (.irem, 1) := by decide +kernel
theorem dX7_closedNow_104 : decode cX7_closedNow 104 = .ok (.putfield 7, 3) := by decide +kernel
theorem dX7_closedNow_107 : decode cX7_closedNow 107 = .ok (.aload_n 3, 1) := by decide +kernel
theorem dX7_closedNow_108 : decode cX7_closedNow 108 = .ok (.dup, 1) := by decide +kernel
theorem dX7_closedNow_109 : decode cX7_closedNow 109 = .ok (.getfield 115, 3) := by decide +kernel
theorem dX7_closedNow_112 : decode cX7_closedNow 112 = .ok (.iconst 1, 1) := by decide +kernel
theorem dX7_closedNow_113 : decode cX7_closedNow 113 = .ok (.isub, 1) := by decide +kernel
theorem dX7_closedNow_114 : decode cX7_closedNow 114 = .ok (.putfield 115, 3) := by decide +kernel
theorem dX7_closedNow_117 : decode cX7_closedNow 117 = .ok (.aload_n 0, 1) := by decide +kernel
theorem dX7_closedNow_118 : decode cX7_closedNow 118 = .ok (.getfield 7, 3) := by decide +kernel
theorem dX7_closedNow_121 : decode cX7_closedNow 121 = .ok (.iconst 2, 1) := by decide +kernel
theorem dX7_closedNow_122 : decode cX7_closedNow 122 = .ok (.irem, 1) := by decide +kernel
theorem dX7_closedNow_123 : decode cX7_closedNow 123 = .ok (.iconst 1, 1) := by decide +kernel
theorem dX7_closedNow_124 : decode cX7_closedNow 124 = .ok (.if_icmp .ne 7, 3) := by decide +kernel
theorem dX7_closedNow_127 : decode cX7_closedNow 127 = .ok (.iconst 1, 1) := by decide +kernel
theorem dX7_closedNow_128 : decode cX7_closedNow 128 = .ok (.goto 4, 3) := by decide +kernel
theorem dX7_closedNow_131 : decode cX7_closedNow 131 = .ok (.iconst 0, 1) := by decide +kernel
theorem dX7_closedNow_132 : decode cX7_closedNow 132 = .ok (.istore 4, 2) := by decide +kernel
theorem dX7_closedNow_134 : decode cX7_closedNow 134 = .ok (.iload_n 1, 1) := by decide +kernel
theorem dX7_closedNow_135 : decode cX7_closedNow 135 = .ok (.iload_n 2, 1) := by decide +kernel
theorem dX7_closedNow_136 : decode cX7_closedNow 136 = .ok (.iload 4, 2) := by decide +kernel
theorem dX7_closedNow_138 : decode cX7_closedNow 138 = .ok (.invokestatic 104, 3) := by decide +kernel
theorem dX7_closedNow_141 : decode cX7_closedNow 141 = .ok (.istore_n 1, 1) := by decide +kernel
theorem dX7_closedNow_142 : decode cX7_closedNow 142 = .ok (.iinc 2 1, 3) := by decide +kernel
theorem dX7_closedNow_145 : decode cX7_closedNow 145 = .ok (.goto (-141), 3) := by decide +kernel
theorem dX7_closedNow_148 : decode cX7_closedNow 148 = .ok (.iload_n 1, 1) := by decide +kernel
theorem dX7_closedNow_149 : decode cX7_closedNow 149 = .ok (.ireturn, 1) := by decide +kernel
theorem dX7_isDownWith_0 : decode cX7_isDownWith 0 = .ok (.aload_n 0, 1) := by decide +kernel
theorem dX7_isDownWith_1 : decode cX7_isDownWith 1 = .ok (.getfield 16, 3) := by decide +kernel
theorem dX7_isDownWith_4 : decode cX7_isDownWith 4 = .ok (.invokevirtual 171, 3) := by decide +kernel
theorem dX7_isDownWith_7 : decode cX7_isDownWith 7 = .ok (.astore_n 2, 1) := by decide +kernel
theorem dX7_isDownWith_8 : decode cX7_isDownWith 8 = .ok (.aload_n 2, 1) := by decide +kernel
theorem dX7_isDownWith_9 : decode cX7_isDownWith 9 = .ok (.invokeinterface 175 1, 5) := by decide +kernel
theorem dX7_isDownWith_14 : decode cX7_isDownWith 14 = .ok (.ifCond .eq 33, 3) := by decide +kernel
theorem dX7_isDownWith_17 : decode cX7_isDownWith 17 = .ok (.aload_n 2, 1) := by decide +kernel
theorem dX7_isDownWith_18 : decode cX7_isDownWith 18 = .ok (.invokeinterface 181 1, 5) := by decide +kernel
theorem dX7_isDownWith_23 : decode cX7_isDownWith 23 = .ok (.checkcast 43, 3) := by decide +kernel
theorem dX7_isDownWith_26 : decode cX7_isDownWith 26 = .ok (.astore_n 3, 1) := by decide +kernel
theorem dX7_isDownWith_27 : decode cX7_isDownWith 27 = .ok (.aload_n 3, 1) := by decide +kernel
theorem dX7_isDownWith_28 : decode cX7_isDownWith 28 = .ok (.invokevirtual 185, 3) := by decide +kernel
theorem dX7_isDownWith_31 : decode cX7_isDownWith 31 = .ok (.ifCond .eq 13, 3) := by decide +kernel
theorem dX7_isDownWith_34 : decode cX7_isDownWith 34 = .ok (.aload_n 3, 1) := by decide +kernel
theorem dX7_isDownWith_35 : decode cX7_isDownWith 35 = .ok (.getfield 188, 3) := by decide +kernel
theorem dX7_isDownWith_38 : decode cX7_isDownWith 38 = .ok (.iload_n 1, 1) := by decide +kernel
theorem dX7_isDownWith_39 : decode cX7_isDownWith 39 = .ok (.if_icmp .ne 5, 3) := by decide +kernel
theorem dX7_isDownWith_42 : decode cX7_isDownWith 42 = .ok (.iconst 1, 1) := by decide +kernel
theorem dX7_isDownWith_43 : decode cX7_isDownWith 43 = .ok (.ireturn, 1) := by decide +kernel
theorem dX7_isDownWith_44 : decode cX7_isDownWith 44 = .ok (.goto (-36), 3) := by decide +kernel
theorem dX7_isDownWith_47 : decode cX7_isDownWith 47 = .ok (.iconst 0, 1) := by decide +kernel
theorem dX7_isDownWith_48 : decode cX7_isDownWith 48 = .ok (.ireturn, 1) := by decide +kernel
theorem dX7_layer_0 : decode cX7_layer 0 = .ok (.aload_n 0, 1) := by decide +kernel
theorem dX7_layer_1 : decode cX7_layer 1 = .ok (.bipush 30, 2) := by decide +kernel
theorem dX7_layer_3 : decode cX7_layer 3 = .ok (.invokevirtual 191, 3) := by decide +kernel
theorem dX7_layer_6 : decode cX7_layer 6 = .ok (.ifCond .eq 7, 3) := by decide +kernel
theorem dX7_layer_9 : decode cX7_layer 9 = .ok (.iconst 2, 1) := by decide +kernel
theorem dX7_layer_10 : decode cX7_layer 10 = .ok (.goto 12, 3) := by decide +kernel
theorem dX7_layer_13 : decode cX7_layer 13 = .ok (.aload_n 0, 1) := by decide +kernel
theorem dX7_layer_14 : decode cX7_layer 14 = .ok (.bipush 29, 2) := by decide +kernel
theorem dX7_layer_16 : decode cX7_layer 16 = .ok (.invokevirtual 191, 3) := by decide +kernel
theorem dX7_layer_19 : decode cX7_layer 19 = .ok (.invokestatic 163, 3) := by decide +kernel
theorem dX7_layer_22 : decode cX7_layer 22 = .ok (.ireturn, 1) := by decide +kernel
theorem dX7_type_0 : decode cX7_type 0 = .ok (.aload_n 0, 1) := by decide +kernel
theorem dX7_type_1 : decode cX7_type 1 = .ok (.getfield 26, 3) := by decide +kernel
theorem dX7_type_4 : decode cX7_type 4 = .ok (.invokevirtual 194, 3) := by decide +kernel
theorem dX7_type_7 : decode cX7_type 7 = .ok (.bipush 60, 2) := by decide +kernel
theorem dX7_type_9 : decode cX7_type 9 = .ok (.if_icmp .ne 16, 3) := by decide +kernel
theorem dX7_type_12 : decode cX7_type 12 = .ok (.aload_n 0, 1) := by decide +kernel
theorem dX7_type_13 : decode cX7_type 13 = .ok (.dup, 1) := by decide +kernel
theorem dX7_type_14 : decode cX7_type 14 = .ok (.getfield 84, 3) := by decide +kernel
theorem dX7_type_17 : decode cX7_type 17 = .ok (.iconst 1, 1) := by decide +kernel
theorem dX7_type_18 : decode cX7_type 18 = .ok (.iadd, 1) := by decide +kernel
theorem dX7_type_19 : decode cX7_type 19 = .ok (.putfield 84, 3) := by decide +kernel
theorem dX7_type_22 : decode cX7_type 22 = .ok (.goto 12, 3) := by decide +kernel
theorem dX7_type_25 : decode cX7_type 25 = .ok (.aload_n 0, 1) := by decide +kernel
theorem dX7_type_26 : decode cX7_type 26 = .ok (.getfield 26, 3) := by decide +kernel
theorem dX7_type_29 : decode cX7_type 29 = .ok (.iload_n 1, 1) := by decide +kernel
theorem dX7_type_30 : decode cX7_type 30 = .ok (.invokevirtual 197, 3) := by decide +kernel
theorem dX7_type_33 : decode cX7_type 33 = .ok (.pop, 1) := by decide +kernel
theorem dX7_type_34 : decode cX7_type 34 = .ok (.return_, 1) := by decide +kernel
theorem dX7_press_0 : decode cX7_press 0 = .ok (.aload_n 1, 1) := by decide +kernel
theorem dX7_press_1 : decode cX7_press 1 = .ok (.aload_n 1, 1) := by decide +kernel
theorem dX7_press_2 : decode cX7_press 2 = .ok (.getfield 140, 3) := by decide +kernel
theorem dX7_press_5 : decode cX7_press 5 = .ok (.aload_n 0, 1) := by decide +kernel
theorem dX7_press_6 : decode cX7_press 6 = .ok (.invokevirtual 201, 3) := by decide +kernel
theorem dX7_press_9 : decode cX7_press 9 = .ok (.iaload, 1) := by decide +kernel
theorem dX7_press_10 : decode cX7_press 10 = .ok (.putfield 188, 3) := by decide +kernel
theorem dX7_press_13 : decode cX7_press 13 = .ok (.aload_n 1, 1) := by decide +kernel
theorem dX7_press_14 : decode cX7_press 14 = .ok (.getfield 188, 3) := by decide +kernel
theorem dX7_press_17 : decode cX7_press 17 = .ok (.bipush 26, 2) := by decide +kernel
theorem dX7_press_19 : decode cX7_press 19 = .ok (.if_icmp .ge 29, 3) := by decide +kernel
theorem dX7_press_22 : decode cX7_press 22 = .ok (.aload_n 0, 1) := by decide +kernel
theorem dX7_press_23 : decode cX7_press 23 = .ok (.aload_n 0, 1) := by decide +kernel
theorem dX7_press_24 : decode cX7_press 24 = .ok (.bipush 28, 2) := by decide +kernel
theorem dX7_press_26 : decode cX7_press 26 = .ok (.invokevirtual 191, 3) := by decide +kernel
theorem dX7_press_29 : decode cX7_press 29 = .ok (.ifCond .eq 8, 3) := by decide +kernel
theorem dX7_press_32 : decode cX7_press 32 = .ok (.bipush 65, 2) := by decide +kernel
theorem dX7_press_34 : decode cX7_press 34 = .ok (.goto 5, 3) := by decide +kernel
theorem dX7_press_37 : decode cX7_press 37 = .ok (.bipush 97, 2) := by decide +kernel
theorem dX7_press_39 : decode cX7_press 39 = .ok (.aload_n 1, 1) := by decide +kernel
theorem dX7_press_40 : decode cX7_press 40 = .ok (.getfield 188, 3) := by decide +kernel
theorem dX7_press_43 : decode cX7_press 43 = .ok (.iadd, 1) := by decide +kernel
theorem dX7_press_44 : decode cX7_press 44 = .ok (.i2c, 1) := by decide +kernel
theorem dX7_press_45 : decode cX7_press 45 = .ok (.invokevirtual 204, 3) := by decide +kernel
theorem dX7_press_48 : decode cX7_press 48 = .ok (.aload_n 1, 1) := by decide +kernel
theorem dX7_press_49 : decode cX7_press 49 = .ok (.getfield 188, 3) := by decide +kernel
theorem dX7_press_52 : decode cX7_press 52 = .ok (.bipush 26, 2) := by decide +kernel
theorem dX7_press_54 : decode cX7_press 54 = .ok (.if_icmp .ne 9, 3) := by decide +kernel
theorem dX7_press_57 : decode cX7_press 57 = .ok (.aload_n 0, 1) := by decide +kernel
theorem dX7_press_58 : decode cX7_press 58 = .ok (.bipush 32, 2) := by decide +kernel
theorem dX7_press_60 : decode cX7_press 60 = .ok (.invokevirtual 204, 3) := by decide +kernel
theorem dX7_press_63 : decode cX7_press 63 = .ok (.aload_n 1, 1) := by decide +kernel
theorem dX7_press_64 : decode cX7_press 64 = .ok (.getfield 188, 3) := by decide +kernel
theorem dX7_press_67 : decode cX7_press 67 = .ok (.bipush 27, 2) := by decide +kernel
theorem dX7_press_69 : decode cX7_press 69 = .ok (.if_icmp .ne 29, 3) := by decide +kernel
theorem dX7_press_72 : decode cX7_press 72 = .ok (.aload_n 0, 1) := by decide +kernel
theorem dX7_press_73 : decode cX7_press 73 = .ok (.getfield 26, 3) := by decide +kernel
theorem dX7_press_76 : decode cX7_press 76 = .ok (.invokevirtual 194, 3) := by decide +kernel
theorem dX7_press_79 : decode cX7_press 79 = .ok (.ifCond .le 19, 3) := by decide +kernel
theorem dX7_press_82 : decode cX7_press 82 = .ok (.aload_n 0, 1) := by decide +kernel
theorem dX7_press_83 : decode cX7_press 83 = .ok (.getfield 26, 3) := by decide +kernel
theorem dX7_press_86 : decode cX7_press 86 = .ok (.aload_n 0, 1) := by decide +kernel
theorem dX7_press_87 : decode cX7_press 87 = .ok (.getfield 26, 3) := by decide +kernel
theorem dX7_press_90 : decode cX7_press 90 = .ok (.invokevirtual 194, 3) := by decide +kernel
theorem dX7_press_93 : decode cX7_press 93 = .ok (.iconst 1, 1) := by decide +kernel
theorem dX7_press_94 : decode cX7_press 94 = .ok (.isub, 1) := by decide +kernel
theorem dX7_press_95 : decode cX7_press 95 = .ok (.invokevirtual 87, 3) := by decide +kernel
theorem dX7_press_98 : decode cX7_press 98 = .ok (.return_, 1) := by decide +kernel
theorem dX7_play_0 : decode cX7_play 0 = .ok (.sipush 2000, 3) := by decide +kernel
theorem dX7_play_3 : decode cX7_play 3 = .ok (.istore_n 2, 1) := by decide +kernel
theorem dX7_play_4 : decode cX7_play 4 = .ok (.iconst 0, 1) := by decide +kernel
theorem dX7_play_5 : decode cX7_play 5 = .ok (.istore_n 3, 1) := by decide +kernel
theorem dX7_play_6 : decode cX7_play 6 = .ok (.iconst 0, 1) := by decide +kernel
theorem dX7_play_7 : decode cX7_play 7 = .ok (.istore 4, 2) := by decide +kernel
theorem dX7_play_9 : decode cX7_play 9 = .ok (.iload 4, 2) := by decide +kernel
theorem dX7_play_11 : decode cX7_play 11 = .ok (.aload_n 0, 1) := by decide +kernel
theorem dX7_play_12 : decode cX7_play 12 = .ok (.getfield 16, 3) := by decide +kernel
theorem dX7_play_15 : decode cX7_play 15 = .ok (.invokevirtual 52, 3) := by decide +kernel
theorem dX7_play_18 : decode cX7_play 18 = .ok (.if_icmp .ge 82, 3) := by decide +kernel
theorem dX7_play_21 : decode cX7_play 21 = .ok (.aload_n 1, 1) := by decide +kernel
theorem dX7_play_22 : decode cX7_play 22 = .ok (.iconst 0, 1) := by decide +kernel
theorem dX7_play_23 : decode cX7_play 23 = .ok (.iaload, 1) := by decide +kernel
theorem dX7_play_24 : decode cX7_play 24 = .ok (.iload 4, 2) := by decide +kernel
theorem dX7_play_26 : decode cX7_play 26 = .ok (.invokestatic 128, 3) := by decide +kernel
theorem dX7_play_29 : decode cX7_play 29 = .ok (.ifCond .ne 6, 3) := by decide +kernel
theorem dX7_play_32 : decode cX7_play 32 = .ok (.goto 62, 3) := by decide +kernel
theorem dX7_play_35 : decode cX7_play 35 = .ok (.aload_n 0, 1) := by decide +kernel
theorem dX7_play_36 : decode cX7_play 36 = .ok (.getfield 16, 3) := by decide +kernel
theorem dX7_play_39 : decode cX7_play 39 = .ok (.iload 4, 2) := by decide +kernel
theorem dX7_play_41 : decode cX7_play 41 = .ok (.invokevirtual 108, 3) := by decide +kernel
theorem dX7_play_44 : decode cX7_play 44 = .ok (.checkcast 43, 3) := by decide +kernel
theorem dX7_play_47 : decode cX7_play 47 = .ok (.invokevirtual 185, 3) := by decide +kernel
theorem dX7_play_50 : decode cX7_play 50 = .ok (.ifCond .ne 4, 3) := by decide +kernel
theorem dX7_play_53 : decode cX7_play 53 = .ok (.return_, 1) := by decide +kernel
theorem dX7_play_54 : decode cX7_play 54 = .ok (.iload_n 2, 1) := by decide +kernel
theorem dX7_play_55 : decode cX7_play 55 = .ok (.aload_n 0, 1) := by decide +kernel
theorem dX7_play_56 : decode cX7_play 56 = .ok (.getfield 16, 3) := by decide +kernel
theorem dX7_play_59 : decode cX7_play 59 = .ok (.iload 4, 2) := by decide +kernel
theorem dX7_play_61 : decode cX7_play 61 = .ok (.invokevirtual 108, 3) := by decide +kernel
theorem dX7_play_64 : decode cX7_play 64 = .ok (.checkcast 43, 3) := by decide +kernel
theorem dX7_play_67 : decode cX7_play 67 = .ok (.invokevirtual 208, 3) := by decide +kernel
theorem dX7_play_70 : decode cX7_play 70 = .ok (.invokestatic 211, 3) := by decide +kernel
theorem dX7_play_73 : decode cX7_play 73 = .ok (.istore_n 2, 1) := by decide +kernel
theorem dX7_play_74 : decode cX7_play 74 = .ok (.iload_n 3, 1) := by decide +kernel
theorem dX7_play_75 : decode cX7_play 75 = .ok (.aload_n 0, 1) := by decide +kernel
theorem dX7_play_76 : decode cX7_play 76 = .ok (.getfield 16, 3) := by decide +kernel
theorem dX7_play_79 : decode cX7_play 79 = .ok (.iload 4, 2) := by decide +kernel
theorem dX7_play_81 : decode cX7_play 81 = .ok (.invokevirtual 108, 3) := by decide +kernel
theorem dX7_play_84 : decode cX7_play 84 = .ok (.checkcast 43, 3) := by decide +kernel
theorem dX7_play_87 : decode cX7_play 87 = .ok (.invokevirtual 208, 3) := by decide +kernel
theorem dX7_play_90 : decode cX7_play 90 = .ok (.invokestatic 216, 3) := by decide +kernel
theorem dX7_play_93 : decode cX7_play 93 = .ok (.istore_n 3, 1) := by decide +kernel
theorem dX7_play_94 : decode cX7_play 94 = .ok (.iinc 4 1, 3) := by decide +kernel
theorem dX7_play_97 : decode cX7_play 97 = .ok (.goto (-88), 3) := by decide +kernel
theorem dX7_play_100 : decode cX7_play 100 = .ok (.aload_n 0, 1) := by decide +kernel
theorem dX7_play_101 : decode cX7_play 101 = .ok (.getfield 75, 3) := by decide +kernel
theorem dX7_play_104 : decode cX7_play 104 = .ok (.iload_n 2, 1) := by decide +kernel
theorem dX7_play_105 : decode cX7_play 105 = .ok (.isub, 1) := by decide +kernel
theorem dX7_play_106 : decode cX7_play 106 = .ok (.bipush 7, 2) := by decide +kernel
theorem dX7_play_108 : decode cX7_play 108 = .ok (.if_icmp .gt 10, 3) := by decide +kernel
theorem dX7_play_111 : decode cX7_play 111 = .ok (.iload_n 3, 1) := by decide +kernel
theorem dX7_play_112 : decode cX7_play 112 = .ok (.aload_n 1, 1) := by decide +kernel
theorem dX7_play_113 : decode cX7_play 113 = .ok (.iconst 3, 1) := by decide +kernel
theorem dX7_play_114 : decode cX7_play 114 = .ok (.iaload, 1) := by decide +kernel
theorem dX7_play_115 : decode cX7_play 115 = .ok (.if_icmp .gt 4, 3) := by decide +kernel
theorem dX7_play_118 : decode cX7_play 118 = .ok (.return_, 1) := by decide +kernel
theorem dX7_play_119 : decode cX7_play 119 = .ok (.aload_n 1, 1) := by decide +kernel
theorem dX7_play_120 : decode cX7_play 120 = .ok (.iconst 2, 1) := by decide +kernel
theorem dX7_play_121 : decode cX7_play 121 = .ok (.dup2, 1) := by decide +kernel
theorem dX7_play_122 : decode cX7_play 122 = .ok (.iaload, 1) := by decide +kernel
theorem dX7_play_123 : decode cX7_play 123 = .ok (.iconst 1, 1) := by decide +kernel
theorem dX7_play_124 : decode cX7_play 124 = .ok (.iadd, 1) := by decide +kernel
theorem dX7_play_125 : decode cX7_play 125 = .ok (.iastore, 1) := by decide +kernel
theorem dX7_play_126 : decode cX7_play 126 = .ok (.aload_n 1, 1) := by decide +kernel
theorem dX7_play_127 : decode cX7_play 127 = .ok (.iconst 3, 1) := by decide +kernel
theorem dX7_play_128 : decode cX7_play 128 = .ok (.aload_n 0, 1) := by decide +kernel
theorem dX7_play_129 : decode cX7_play 129 = .ok (.getfield 75, 3) := by decide +kernel
theorem dX7_play_132 : decode cX7_play 132 = .ok (.iastore, 1) := by decide +kernel
theorem dX7_play_133 : decode cX7_play 133 = .ok (.aload_n 0, 1) := by decide +kernel
theorem dX7_play_134 : decode cX7_play 134 = .ok (.bipush 97, 2) := by decide +kernel
theorem dX7_play_136 : decode cX7_play 136 = .ok (.aload_n 1, 1) := by decide +kernel
theorem dX7_play_137 : decode cX7_play 137 = .ok (.iconst 1, 1) := by decide +kernel
theorem dX7_play_138 : decode cX7_play 138 = .ok (.iaload, 1) := by decide +kernel
theorem dX7_play_139 : decode cX7_play 139 = .ok (.iadd, 1) := by decide +kernel
theorem dX7_play_140 : decode cX7_play 140 = .ok (.i2c, 1) := by decide +kernel
theorem dX7_play_141 : decode cX7_play 141 = .ok (.invokevirtual 204, 3) := by decide +kernel
theorem dX7_play_144 : decode cX7_play 144 = .ok (.return_, 1) := by decide +kernel
theorem dX7_step_0 : decode cX7_step 0 = .ok (.aload_n 0, 1) := by decide +kernel
theorem dX7_step_1 : decode cX7_step 1 = .ok (.dup, 1) := by decide +kernel
theorem dX7_step_2 : decode cX7_step 2 = .ok (.getfield 75, 3) := by decide +kernel
theorem dX7_step_5 : decode cX7_step 5 = .ok (.iconst 1, 1) := by decide +kernel
theorem dX7_step_6 : decode cX7_step 6 = .ok (.iadd, 1) := by decide +kernel
theorem dX7_step_7 : decode cX7_step 7 = .ok (.putfield 75, 3) := by decide +kernel
theorem dX7_step_10 : decode cX7_step 10 = .ok (.aload_n 0, 1) := by decide +kernel
theorem dX7_step_11 : decode cX7_step 11 = .ok (.aload_n 0, 1) := by decide +kernel
theorem dX7_step_12 : decode cX7_step 12 = .ok (.invokevirtual 219, 3) := by decide +kernel
theorem dX7_step_15 : decode cX7_step 15 = .ok (.putfield 78, 3) := by decide +kernel
theorem dX7_step_18 : decode cX7_step 18 = .ok (.aload_n 0, 1) := by decide +kernel
theorem dX7_step_19 : decode cX7_step 19 = .ok (.aload_n 0, 1) := by decide +kernel
theorem dX7_step_20 : decode cX7_step 20 = .ok (.aload_n 0, 1) := by decide +kernel
theorem dX7_step_21 : decode cX7_step 21 = .ok (.getfield 78, 3) := by decide +kernel
theorem dX7_step_24 : decode cX7_step 24 = .ok (.aload_n 0, 1) := by decide +kernel
theorem dX7_step_25 : decode cX7_step 25 = .ok (.getfield 59, 3) := by decide +kernel
theorem dX7_step_28 : decode cX7_step 28 = .ok (.invokevirtual 154, 3) := by decide +kernel
theorem dX7_step_31 : decode cX7_step 31 = .ok (.putfield 81, 3) := by decide +kernel
theorem dX7_step_34 : decode cX7_step 34 = .ok (.iconst 0, 1) := by decide +kernel
theorem dX7_step_35 : decode cX7_step 35 = .ok (.istore_n 1, 1) := by decide +kernel
theorem dX7_step_36 : decode cX7_step 36 = .ok (.iconst 0, 1) := by decide +kernel
theorem dX7_step_37 : decode cX7_step 37 = .ok (.istore_n 2, 1) := by decide +kernel
theorem dX7_step_38 : decode cX7_step 38 = .ok (.iload_n 2, 1) := by decide +kernel
theorem dX7_step_39 : decode cX7_step 39 = .ok (.aload_n 0, 1) := by decide +kernel
theorem dX7_step_40 : decode cX7_step 40 = .ok (.getfield 16, 3) := by decide +kernel
theorem dX7_step_43 : decode cX7_step 43 = .ok (.invokevirtual 52, 3) := by decide +kernel
theorem dX7_step_46 : decode cX7_step 46 = .ok (.if_icmp .ge 148, 3) := by decide +kernel
theorem dX7_step_49 : decode cX7_step 49 = .ok (.aload_n 0, 1) := by decide +kernel
theorem dX7_step_50 : decode cX7_step 50 = .ok (.getfield 16, 3) := by decide +kernel
theorem dX7_step_53 : decode cX7_step 53 = .ok (.iload_n 2, 1) := by decide +kernel
theorem dX7_step_54 : decode cX7_step 54 = .ok (.invokevirtual 108, 3) := by decide +kernel
theorem dX7_step_57 : decode cX7_step 57 = .ok (.checkcast 43, 3) := by decide +kernel
theorem dX7_step_60 : decode cX7_step 60 = .ok (.astore_n 3, 1) := by decide +kernel
theorem dX7_step_61 : decode cX7_step 61 = .ok (.aload_n 3, 1) := by decide +kernel
theorem dX7_step_62 : decode cX7_step 62 = .ok (.aload_n 0, 1) := by decide +kernel
theorem dX7_step_63 : decode cX7_step 63 = .ok (.getfield 81, 3) := by decide +kernel
theorem dX7_step_66 : decode cX7_step 66 = .ok (.iload_n 2, 1) := by decide +kernel
theorem dX7_step_67 : decode cX7_step 67 = .ok (.invokestatic 128, 3) := by decide +kernel
theorem dX7_step_70 : decode cX7_step 70 = .ok (.aload_n 3, 1) := by decide +kernel
theorem dX7_step_71 : decode cX7_step 71 = .ok (.invokevirtual 185, 3) := by decide +kernel
theorem dX7_step_74 : decode cX7_step 74 = .ok (.if_icmp .ne 7, 3) := by decide +kernel
theorem dX7_step_77 : decode cX7_step 77 = .ok (.iconst 0, 1) := by decide +kernel
theorem dX7_step_78 : decode cX7_step 78 = .ok (.goto 9, 3) := by decide +kernel
theorem dX7_step_81 : decode cX7_step 81 = .ok (.aload_n 3, 1) := by decide +kernel
theorem dX7_step_82 : decode cX7_step 82 = .ok (.getfield 222, 3) := by decide +kernel
theorem dX7_step_85 : decode cX7_step 85 = .ok (.iconst 1, 1) := by decide +kernel
theorem dX7_step_86 : decode cX7_step 86 = .ok (.iadd, 1) := by decide +kernel
theorem dX7_step_87 : decode cX7_step 87 = .ok (.putfield 222, 3) := by decide +kernel
theorem dX7_step_90 : decode cX7_step 90 = .ok (.aload_n 3, 1) := by decide +kernel
theorem dX7_step_91 : decode cX7_step 91 = .ok (.getfield 222, 3) := by decide +kernel
theorem dX7_step_94 : decode cX7_step 94 = .ok (.aload_n 0, 1) := by decide +kernel
theorem dX7_step_95 : decode cX7_step 95 = .ok (.getfield 68, 3) := by decide +kernel
theorem dX7_step_98 : decode cX7_step 98 = .ok (.if_icmp .ge 6, 3) := by decide +kernel
theorem dX7_step_101 : decode cX7_step 101 = .ok (.goto 87, 3) := by decide +kernel
theorem dX7_step_104 : decode cX7_step 104 = .ok (.aload_n 0, 1) := by decide +kernel
theorem dX7_step_105 : decode cX7_step 105 = .ok (.getfield 71, 3) := by decide +kernel
theorem dX7_step_108 : decode cX7_step 108 = .ok (.ifCond .eq 45, 3) := by decide +kernel
theorem dX7_step_111 : decode cX7_step 111 = .ok (.aload_n 3, 1) := by decide +kernel
theorem dX7_step_112 : decode cX7_step 112 = .ok (.invokevirtual 185, 3) := by decide +kernel
theorem dX7_step_115 : decode cX7_step 115 = .ok (.ifCond .ne 38, 3) := by decide +kernel
theorem dX7_step_118 : decode cX7_step 118 = .ok (.aload_n 0, 1) := by decide +kernel
theorem dX7_step_119 : decode cX7_step 119 = .ok (.aload_n 0, 1) := by decide +kernel
theorem dX7_step_120 : decode cX7_step 120 = .ok (.getfield 81, 3) := by decide +kernel
theorem dX7_step_123 : decode cX7_step 123 = .ok (.iload_n 2, 1) := by decide +kernel
theorem dX7_step_124 : decode cX7_step 124 = .ok (.iconst 0, 1) := by decide +kernel
theorem dX7_step_125 : decode cX7_step 125 = .ok (.invokestatic 104, 3) := by decide +kernel
theorem dX7_step_128 : decode cX7_step 128 = .ok (.aload_n 0, 1) := by decide +kernel
theorem dX7_step_129 : decode cX7_step 129 = .ok (.getfield 59, 3) := by decide +kernel
theorem dX7_step_132 : decode cX7_step 132 = .ok (.invokevirtual 154, 3) := by decide +kernel
theorem dX7_step_135 : decode cX7_step 135 = .ok (.iload_n 2, 1) := by decide +kernel
theorem dX7_step_136 : decode cX7_step 136 = .ok (.invokestatic 128, 3) := by decide +kernel
theorem dX7_step_139 : decode cX7_step 139 = .ok (.ifCond .eq 14, 3) := by decide +kernel
theorem dX7_step_142 : decode cX7_step 142 = .ok (.aload_n 3, 1) := by decide +kernel
theorem dX7_step_143 : decode cX7_step 143 = .ok (.aload_n 0, 1) := by decide +kernel
theorem dX7_step_144 : decode cX7_step 144 = .ok (.getfield 68, 3) := by decide +kernel
theorem dX7_step_147 : decode cX7_step 147 = .ok (.putfield 222, 3) := by decide +kernel
theorem dX7_step_150 : decode cX7_step 150 = .ok (.goto 38, 3) := by decide +kernel
theorem dX7_step_153 : decode cX7_step 153 = .ok (.aload_n 3, 1) := by decide +kernel
theorem dX7_step_154 : decode cX7_step 154 = .ok (.invokevirtual 185, 3) := by decide +kernel
theorem dX7_step_157 : decode cX7_step 157 = .ok (.ifCond .ne 8, 3) := by decide +kernel
theorem dX7_step_160 : decode cX7_step 160 = .ok (.aload_n 0, 1) := by decide +kernel
theorem dX7_step_161 : decode cX7_step 161 = .ok (.aload_n 3, 1) := by decide +kernel
theorem dX7_step_162 : decode cX7_step 162 = .ok (.invokevirtual 225, 3) := by decide +kernel
theorem dX7_step_165 : decode cX7_step 165 = .ok (.aload_n 3, 1) := by decide +kernel
theorem dX7_step_166 : decode cX7_step 166 = .ok (.getfield 229, 3) := by decide +kernel
theorem dX7_step_169 : decode cX7_step 169 = .ok (.aload_n 0, 1) := by decide +kernel
theorem dX7_step_170 : decode cX7_step 170 = .ok (.getfield 75, 3) := by decide +kernel
theorem dX7_step_173 : decode cX7_step 173 = .ok (.invokestatic 232, 3) := by decide +kernel
theorem dX7_step_176 : decode cX7_step 176 = .ok (.invokevirtual 48, 3) := by decide +kernel
theorem dX7_step_179 : decode cX7_step 179 = .ok (.pop, 1) := by decide +kernel
theorem dX7_step_180 : decode cX7_step 180 = .ok (.aload_n 3, 1) := by decide +kernel
theorem dX7_step_181 : decode cX7_step 181 = .ok (.iconst 0, 1) := by decide +kernel
theorem dX7_step_182 : decode cX7_step 182 = .ok (.putfield 222, 3) := by decide +kernel
theorem dX7_step_185 : decode cX7_step 185 = .ok (.iinc 1 1, 3) := by decide +kernel
theorem dX7_step_188 : decode cX7_step 188 = .ok (.iinc 2 1, 3) := by decide +kernel
theorem dX7_step_191 : decode cX7_step 191 = .ok (.goto (-153), 3) := by decide +kernel
theorem dX7_step_194 : decode cX7_step 194 = .ok (.aload_n 0, 1) := by decide +kernel
theorem dX7_step_195 : decode cX7_step 195 = .ok (.getfield 20, 3) := by decide +kernel
theorem dX7_step_198 : decode cX7_step 198 = .ok (.invokevirtual 171, 3) := by decide +kernel
theorem dX7_step_201 : decode cX7_step 201 = .ok (.astore_n 2, 1) := by decide +kernel
theorem dX7_step_202 : decode cX7_step 202 = .ok (.aload_n 2, 1) := by decide +kernel
theorem dX7_step_203 : decode cX7_step 203 = .ok (.invokeinterface 175 1, 5) := by decide +kernel
theorem dX7_step_208 : decode cX7_step 208 = .ok (.ifCond .eq 21, 3) := by decide +kernel
theorem dX7_step_211 : decode cX7_step 211 = .ok (.aload_n 2, 1) := by decide +kernel
theorem dX7_step_212 : decode cX7_step 212 = .ok (.invokeinterface 181 1, 5) := by decide +kernel
theorem dX7_step_217 : decode cX7_step 217 = .ok (.checkcast 238, 3) := by decide +kernel
theorem dX7_step_220 : decode cX7_step 220 = .ok (.astore_n 3, 1) := by decide +kernel
theorem dX7_step_221 : decode cX7_step 221 = .ok (.aload_n 0, 1) := by decide +kernel
theorem dX7_step_222 : decode cX7_step 222 = .ok (.aload_n 3, 1) := by decide +kernel
theorem dX7_step_223 : decode cX7_step 223 = .ok (.invokevirtual 239, 3) := by decide +kernel
theorem dX7_step_226 : decode cX7_step 226 = .ok (.goto (-24), 3) := by decide +kernel
theorem dX7_step_229 : decode cX7_step 229 = .ok (.iload_n 1, 1) := by decide +kernel
theorem dX7_step_230 : decode cX7_step 230 = .ok (.ireturn, 1) := by decide +kernel
theorem dX7_scan_0 : decode cX7_scan 0 = .ok (.aload_n 0, 1) := by decide +kernel
theorem dX7_scan_1 : decode cX7_scan 1 = .ok (.iload_n 1, 1) := by decide +kernel
theorem dX7_scan_2 : decode cX7_scan 2 = .ok (.iconst 1, 1) := by decide +kernel
theorem dX7_scan_3 : decode cX7_scan 3 = .ok (.bipush 50, 2) := by decide +kernel
theorem dX7_scan_5 : decode cX7_scan 5 = .ok (.invokestatic 97, 3) := by decide +kernel
theorem dX7_scan_8 : decode cX7_scan 8 = .ok (.ifCond .ne 7, 3) := by decide +kernel
theorem dX7_scan_11 : decode cX7_scan 11 = .ok (.iconst 1, 1) := by decide +kernel
theorem dX7_scan_12 : decode cX7_scan 12 = .ok (.goto 4, 3) := by decide +kernel
theorem dX7_scan_15 : decode cX7_scan 15 = .ok (.iconst 0, 1) := by decide +kernel
theorem dX7_scan_16 : decode cX7_scan 16 = .ok (.iconst 1, 1) := by decide +kernel
theorem dX7_scan_17 : decode cX7_scan 17 = .ok (.invokevirtual 101, 3) := by decide +kernel
theorem dX7_scan_20 : decode cX7_scan 20 = .ok (.ifCond .ne 28, 3) := by decide +kernel
theorem dX7_scan_23 : decode cX7_scan 23 = .ok (.aload_n 0, 1) := by decide +kernel
theorem dX7_scan_24 : decode cX7_scan 24 = .ok (.aload_n 0, 1) := by decide +kernel
theorem dX7_scan_25 : decode cX7_scan 25 = .ok (.getfield 75, 3) := by decide +kernel
theorem dX7_scan_28 : decode cX7_scan 28 = .ok (.iload_n 1, 1) := by decide +kernel
theorem dX7_scan_29 : decode cX7_scan 29 = .ok (.iadd, 1) := by decide +kernel
theorem dX7_scan_30 : decode cX7_scan 30 = .ok (.sipush 2000, 3) := by decide +kernel
theorem dX7_scan_33 : decode cX7_scan 33 = .ok (.if_icmp .le 7, 3) := by decide +kernel
theorem dX7_scan_36 : decode cX7_scan 36 = .ok (.iconst 1, 1) := by decide +kernel
theorem dX7_scan_37 : decode cX7_scan 37 = .ok (.goto 4, 3) := by decide +kernel
theorem dX7_scan_40 : decode cX7_scan 40 = .ok (.iconst 0, 1) := by decide +kernel
theorem dX7_scan_41 : decode cX7_scan 41 = .ok (.iconst 2, 1) := by decide +kernel
theorem dX7_scan_42 : decode cX7_scan 42 = .ok (.invokevirtual 93, 3) := by decide +kernel
theorem dX7_scan_45 : decode cX7_scan 45 = .ok (.ifCond .eq 5, 3) := by decide +kernel
theorem dX7_scan_48 : decode cX7_scan 48 = .ok (.iconst 0, 1) := by decide +kernel
theorem dX7_scan_49 : decode cX7_scan 49 = .ok (.ireturn, 1) := by decide +kernel
theorem dX7_scan_50 : decode cX7_scan 50 = .ok (.iconst 0, 1) := by decide +kernel
theorem dX7_scan_51 : decode cX7_scan 51 = .ok (.istore_n 2, 1) := by decide +kernel
theorem dX7_scan_52 : decode cX7_scan 52 = .ok (.iconst 0, 1) := by decide +kernel
theorem dX7_scan_53 : decode cX7_scan 53 = .ok (.istore_n 3, 1) := by decide +kernel
theorem dX7_scan_54 : decode cX7_scan 54 = .ok (.iload_n 3, 1) := by decide +kernel
theorem dX7_scan_55 : decode cX7_scan 55 = .ok (.iload_n 1, 1) := by decide +kernel
theorem dX7_scan_56 : decode cX7_scan 56 = .ok (.if_icmp .ge 16, 3) := by decide +kernel
theorem dX7_scan_59 : decode cX7_scan 59 = .ok (.iload_n 2, 1) := by decide +kernel
theorem dX7_scan_60 : decode cX7_scan 60 = .ok (.aload_n 0, 1) := by decide +kernel
theorem dX7_scan_61 : decode cX7_scan 61 = .ok (.invokevirtual 243, 3) := by decide +kernel
theorem dX7_scan_64 : decode cX7_scan 64 = .ok (.iadd, 1) := by decide +kernel
theorem dX7_scan_65 : decode cX7_scan 65 = .ok (.istore_n 2, 1) := by decide +kernel
theorem dX7_scan_66 : decode cX7_scan 66 = .ok (.iinc 3 1, 3) := by decide +kernel
theorem dX7_scan_69 : decode cX7_scan 69 = .ok (.goto (-15), 3) := by decide +kernel
theorem dX7_scan_72 : decode cX7_scan 72 = .ok (.iload_n 2, 1) := by decide +kernel
theorem dX7_scan_73 : decode cX7_scan 73 = .ok (.ireturn, 1) := by decide +kernel
theorem dX7_call_0 : decode cX7_call 0 = .ok (.aload_n 0, 1) := by decide +kernel
theorem dX7_call_1 : decode cX7_call 1 = .ok (.iconst 0, 1) := by decide +kernel
theorem dX7_call_2 : decode cX7_call 2 = .ok (.putfield 90, 3) := by decide +kernel
theorem dX7_call_5 : decode cX7_call 5 = .ok (.aload_n 0, 1) := by decide +kernel
theorem dX7_call_6 : decode cX7_call 6 = .ok (.dup, 1) := by decide +kernel
theorem dX7_call_7 : decode cX7_call 7 = .ok (.getfield 246, 3) := by decide +kernel
theorem dX7_call_10 : decode cX7_call 10 = .ok (.iconst 1, 1) := by decide +kernel
theorem dX7_call_11 : decode cX7_call 11 = .ok (.iadd, 1) := by decide +kernel
theorem dX7_call_12 : decode cX7_call 12 = .ok (.putfield 246, 3) := by decide +kernel
theorem dX7_call_15 : decode cX7_call 15 = .ok (.aload_n 0, 1) := by decide +kernel
theorem dX7_call_16 : decode cX7_call 16 = .ok (.getfield 246, 3) := by decide +kernel
theorem dX7_call_19 : decode cX7_call 19 = .ok (.ireturn, 1) := by decide +kernel
theorem dX7_keyTold_0 : decode cX7_keyTold 0 = .ok (.aload_n 0, 1) := by decide +kernel
theorem dX7_keyTold_1 : decode cX7_keyTold 1 = .ok (.getfield 16, 3) := by decide +kernel
theorem dX7_keyTold_4 : decode cX7_keyTold 4 = .ok (.iload_n 1, 1) := by decide +kernel
theorem dX7_keyTold_5 : decode cX7_keyTold 5 = .ok (.invokevirtual 108, 3) := by decide +kernel
theorem dX7_keyTold_8 : decode cX7_keyTold 8 = .ok (.checkcast 43, 3) := by decide +kernel
theorem dX7_keyTold_11 : decode cX7_keyTold 11 = .ok (.astore_n 3, 1) := by decide +kernel
theorem dX7_keyTold_12 : decode cX7_keyTold 12 = .ok (.bipush 11, 2) := by decide +kernel
theorem dX7_keyTold_14 : decode cX7_keyTold 14 = .ok (.newarray .int, 2) := by decide +kernel
theorem dX7_keyTold_16 : decode cX7_keyTold 16 = .ok (.dup, 1) := by decide +kernel
theorem dX7_keyTold_17 : decode cX7_keyTold 17 = .ok (.iconst 0, 1) := by decide +kernel
theorem dX7_keyTold_18 : decode cX7_keyTold 18 = .ok (.aload_n 0, 1) := by decide +kernel
theorem dX7_keyTold_19 : decode cX7_keyTold 19 = .ok (.getfield 56, 3) := by decide +kernel
theorem dX7_keyTold_22 : decode cX7_keyTold 22 = .ok (.iload_n 1, 1) := by decide +kernel
theorem dX7_keyTold_23 : decode cX7_keyTold 23 = .ok (.invokestatic 128, 3) := by decide +kernel
theorem dX7_keyTold_26 : decode cX7_keyTold 26 = .ok (.invokestatic 163, 3) := by decide +kernel
theorem dX7_keyTold_29 : decode cX7_keyTold 29 = .ok (.iastore, 1) := by decide +kernel
theorem dX7_keyTold_30 : decode cX7_keyTold 30 = .ok (.dup, 1) := by decide +kernel
theorem dX7_keyTold_31 : decode cX7_keyTold 31 = .ok (.iconst 1, 1) := by decide +kernel
theorem dX7_keyTold_32 : decode cX7_keyTold 32 = .ok (.aload_n 0, 1) := by decide +kernel
theorem dX7_keyTold_33 : decode cX7_keyTold 33 = .ok (.getfield 59, 3) := by decide +kernel
theorem dX7_keyTold_36 : decode cX7_keyTold 36 = .ok (.iload_n 1, 1) := by decide +kernel
theorem dX7_keyTold_37 : decode cX7_keyTold 37 = .ok (.invokestatic 128, 3) := by decide +kernel
theorem dX7_keyTold_40 : decode cX7_keyTold 40 = .ok (.invokestatic 163, 3) := by decide +kernel
theorem dX7_keyTold_43 : decode cX7_keyTold 43 = .ok (.iastore, 1) := by decide +kernel
theorem dX7_keyTold_44 : decode cX7_keyTold 44 = .ok (.dup, 1) := by decide +kernel
theorem dX7_keyTold_45 : decode cX7_keyTold 45 = .ok (.iconst 2, 1) := by decide +kernel
theorem dX7_keyTold_46 : decode cX7_keyTold 46 = .ok (.aload_n 3, 1) := by decide +kernel
theorem dX7_keyTold_47 : decode cX7_keyTold 47 = .ok (.getfield 112, 3) := by decide +kernel
theorem dX7_keyTold_50 : decode cX7_keyTold 50 = .ok (.iastore, 1) := by decide +kernel
theorem dX7_keyTold_51 : decode cX7_keyTold 51 = .ok (.dup, 1) := by decide +kernel
theorem dX7_keyTold_52 : decode cX7_keyTold 52 = .ok (.iconst 3, 1) := by decide +kernel
theorem dX7_keyTold_53 : decode cX7_keyTold 53 = .ok (.aload_n 3, 1) := by decide +kernel
theorem dX7_keyTold_54 : decode cX7_keyTold 54 = .ok (.getfield 125, 3) := by decide +kernel
theorem dX7_keyTold_57 : decode cX7_keyTold 57 = .ok (.iastore, 1) := by decide +kernel
theorem dX7_keyTold_58 : decode cX7_keyTold 58 = .ok (.dup, 1) := by decide +kernel
theorem dX7_keyTold_59 : decode cX7_keyTold 59 = .ok (.iconst 4, 1) := by decide +kernel
theorem dX7_keyTold_60 : decode cX7_keyTold 60 = .ok (.aload_n 0, 1) := by decide +kernel
theorem dX7_keyTold_61 : decode cX7_keyTold 61 = .ok (.getfield 62, 3) := by decide +kernel
theorem dX7_keyTold_64 : decode cX7_keyTold 64 = .ok (.iload_n 1, 1) := by decide +kernel
theorem dX7_keyTold_65 : decode cX7_keyTold 65 = .ok (.invokestatic 128, 3) := by decide +kernel
theorem dX7_keyTold_68 : decode cX7_keyTold 68 = .ok (.invokestatic 163, 3) := by decide +kernel
theorem dX7_keyTold_71 : decode cX7_keyTold 71 = .ok (.iastore, 1) := by decide +kernel
theorem dX7_keyTold_72 : decode cX7_keyTold 72 = .ok (.dup, 1) := by decide +kernel
theorem dX7_keyTold_73 : decode cX7_keyTold 73 = .ok (.iconst 5, 1) := by decide +kernel
theorem dX7_keyTold_74 : decode cX7_keyTold 74 = .ok (.aload_n 3, 1) := by decide +kernel
theorem dX7_keyTold_75 : decode cX7_keyTold 75 = .ok (.getfield 115, 3) := by decide +kernel
theorem dX7_keyTold_78 : decode cX7_keyTold 78 = .ok (.iastore, 1) := by decide +kernel
theorem dX7_keyTold_79 : decode cX7_keyTold 79 = .ok (.dup, 1) := by decide +kernel
theorem dX7_keyTold_80 : decode cX7_keyTold 80 = .ok (.bipush 6, 2) := by decide +kernel
theorem dX7_keyTold_82 : decode cX7_keyTold 82 = .ok (.aload_n 3, 1) := by decide +kernel
theorem dX7_keyTold_83 : decode cX7_keyTold 83 = .ok (.invokevirtual 185, 3) := by decide +kernel
theorem dX7_keyTold_86 : decode cX7_keyTold 86 = .ok (.invokestatic 163, 3) := by decide +kernel
theorem dX7_keyTold_89 : decode cX7_keyTold 89 = .ok (.iastore, 1) := by decide +kernel
theorem dX7_keyTold_90 : decode cX7_keyTold 90 = .ok (.dup, 1) := by decide +kernel
theorem dX7_keyTold_91 : decode cX7_keyTold 91 = .ok (.bipush 7, 2) := by decide +kernel
theorem dX7_keyTold_93 : decode cX7_keyTold 93 = .ok (.aload_n 3, 1) := by decide +kernel
theorem dX7_keyTold_94 : decode cX7_keyTold 94 = .ok (.getfield 222, 3) := by decide +kernel
theorem dX7_keyTold_97 : decode cX7_keyTold 97 = .ok (.iastore, 1) := by decide +kernel
theorem dX7_keyTold_98 : decode cX7_keyTold 98 = .ok (.dup, 1) := by decide +kernel
theorem dX7_keyTold_99 : decode cX7_keyTold 99 = .ok (.bipush 8, 2) := by decide +kernel
theorem dX7_keyTold_101 : decode cX7_keyTold 101 = .ok (.aload_n 3, 1) := by decide +kernel
theorem dX7_keyTold_102 : decode cX7_keyTold 102 = .ok (.invokevirtual 185, 3) := by decide +kernel
theorem dX7_keyTold_105 : decode cX7_keyTold 105 = .ok (.ifCond .eq 10, 3) := by decide +kernel
theorem dX7_keyTold_108 : decode cX7_keyTold 108 = .ok (.aload_n 3, 1) := by decide +kernel
theorem dX7_keyTold_109 : decode cX7_keyTold 109 = .ok (.getfield 188, 3) := by decide +kernel
theorem dX7_keyTold_112 : decode cX7_keyTold 112 = .ok (.goto 4, 3) := by decide +kernel
theorem dX7_keyTold_115 : decode cX7_keyTold 115 = .ok (.iconst (-1), 1) := by decide +kernel
theorem dX7_keyTold_116 : decode cX7_keyTold 116 = .ok (.iastore, 1) := by decide +kernel
theorem dX7_keyTold_117 : decode cX7_keyTold 117 = .ok (.dup, 1) := by decide +kernel
theorem dX7_keyTold_118 : decode cX7_keyTold 118 = .ok (.bipush 9, 2) := by decide +kernel
theorem dX7_keyTold_120 : decode cX7_keyTold 120 = .ok (.aload_n 3, 1) := by decide +kernel
theorem dX7_keyTold_121 : decode cX7_keyTold 121 = .ok (.invokevirtual 249, 3) := by decide +kernel
theorem dX7_keyTold_124 : decode cX7_keyTold 124 = .ok (.iastore, 1) := by decide +kernel
theorem dX7_keyTold_125 : decode cX7_keyTold 125 = .ok (.dup, 1) := by decide +kernel
theorem dX7_keyTold_126 : decode cX7_keyTold 126 = .ok (.bipush 10, 2) := by decide +kernel
theorem dX7_keyTold_128 : decode cX7_keyTold 128 = .ok (.aload_n 3, 1) := by decide +kernel
theorem dX7_keyTold_129 : decode cX7_keyTold 129 = .ok (.getfield 229, 3) := by decide +kernel
theorem dX7_keyTold_132 : decode cX7_keyTold 132 = .ok (.invokevirtual 52, 3) := by decide +kernel
theorem dX7_keyTold_135 : decode cX7_keyTold 135 = .ok (.iastore, 1) := by decide +kernel
theorem dX7_keyTold_136 : decode cX7_keyTold 136 = .ok (.astore 4, 2) := by decide +kernel
theorem dX7_keyTold_138 : decode cX7_keyTold 138 = .ok (.aload 4, 2) := by decide +kernel
theorem dX7_keyTold_140 : decode cX7_keyTold 140 = .ok (.iload_n 2, 1) := by decide +kernel
theorem dX7_keyTold_141 : decode cX7_keyTold 141 = .ok (.iaload, 1) := by decide +kernel
theorem dX7_keyTold_142 : decode cX7_keyTold 142 = .ok (.ireturn, 1) := by decide +kernel
theorem dX7_of_0 : decode cX7_of 0 = .ok (.aload_n 0, 1) := by decide +kernel
theorem dX7_of_1 : decode cX7_of 1 = .ok (.aload_n 0, 1) := by decide +kernel
theorem dX7_of_2 : decode cX7_of 2 = .ok (.iload_n 1, 1) := by decide +kernel
theorem dX7_of_3 : decode cX7_of 3 = .ok (.invokevirtual 121, 3) := by decide +kernel
theorem dX7_of_6 : decode cX7_of 6 = .ok (.iconst 1, 1) := by decide +kernel
theorem dX7_of_7 : decode cX7_of 7 = .ok (.invokevirtual 101, 3) := by decide +kernel
theorem dX7_of_10 : decode cX7_of 10 = .ok (.ifCond .ne 26, 3) := by decide +kernel
theorem dX7_of_13 : decode cX7_of 13 = .ok (.aload_n 0, 1) := by decide +kernel
theorem dX7_of_14 : decode cX7_of 14 = .ok (.iload_n 2, 1) := by decide +kernel
theorem dX7_of_15 : decode cX7_of 15 = .ok (.iconst 0, 1) := by decide +kernel
theorem dX7_of_16 : decode cX7_of 16 = .ok (.bipush 10, 2) := by decide +kernel
theorem dX7_of_18 : decode cX7_of 18 = .ok (.invokestatic 97, 3) := by decide +kernel
theorem dX7_of_21 : decode cX7_of 21 = .ok (.ifCond .ne 7, 3) := by decide +kernel
theorem dX7_of_24 : decode cX7_of 24 = .ok (.iconst 1, 1) := by decide +kernel
theorem dX7_of_25 : decode cX7_of 25 = .ok (.goto 4, 3) := by decide +kernel
theorem dX7_of_28 : decode cX7_of 28 = .ok (.iconst 0, 1) := by decide +kernel
theorem dX7_of_29 : decode cX7_of 29 = .ok (.iconst 2, 1) := by decide +kernel
theorem dX7_of_30 : decode cX7_of 30 = .ok (.invokevirtual 93, 3) := by decide +kernel
theorem dX7_of_33 : decode cX7_of 33 = .ok (.ifCond .eq 7, 3) := by decide +kernel
theorem dX7_of_36 : decode cX7_of 36 = .ok (.iconst 0, 1) := by decide +kernel
theorem dX7_of_37 : decode cX7_of 37 = .ok (.goto 9, 3) := by decide +kernel
theorem dX7_of_40 : decode cX7_of 40 = .ok (.aload_n 0, 1) := by decide +kernel
theorem dX7_of_41 : decode cX7_of 41 = .ok (.iload_n 1, 1) := by decide +kernel
theorem dX7_of_42 : decode cX7_of 42 = .ok (.iload_n 2, 1) := by decide +kernel
theorem dX7_of_43 : decode cX7_of 43 = .ok (.invokevirtual 252, 3) := by decide +kernel
theorem dX7_of_46 : decode cX7_of 46 = .ok (.ireturn, 1) := by decide +kernel
theorem dX7_setTold_0 : decode cX7_setTold 0 = .ok (.iconst 0, 1) := by decide +kernel
theorem dX7_setTold_1 : decode cX7_setTold 1 = .ok (.istore_n 2, 1) := by decide +kernel
theorem dX7_setTold_2 : decode cX7_setTold 2 = .ok (.iconst 0, 1) := by decide +kernel
theorem dX7_setTold_3 : decode cX7_setTold 3 = .ok (.istore_n 3, 1) := by decide +kernel
theorem dX7_setTold_4 : decode cX7_setTold 4 = .ok (.iload_n 3, 1) := by decide +kernel
theorem dX7_setTold_5 : decode cX7_setTold 5 = .ok (.aload_n 0, 1) := by decide +kernel
theorem dX7_setTold_6 : decode cX7_setTold 6 = .ok (.getfield 16, 3) := by decide +kernel
theorem dX7_setTold_9 : decode cX7_setTold 9 = .ok (.invokevirtual 52, 3) := by decide +kernel
theorem dX7_setTold_12 : decode cX7_setTold 12 = .ok (.if_icmp .ge 29, 3) := by decide +kernel
theorem dX7_setTold_15 : decode cX7_setTold 15 = .ok (.iload_n 2, 1) := by decide +kernel
theorem dX7_setTold_16 : decode cX7_setTold 16 = .ok (.iload_n 3, 1) := by decide +kernel
theorem dX7_setTold_17 : decode cX7_setTold 17 = .ok (.aload_n 0, 1) := by decide +kernel
theorem dX7_setTold_18 : decode cX7_setTold 18 = .ok (.getfield 16, 3) := by decide +kernel
theorem dX7_setTold_21 : decode cX7_setTold 21 = .ok (.iload_n 3, 1) := by decide +kernel
theorem dX7_setTold_22 : decode cX7_setTold 22 = .ok (.invokevirtual 108, 3) := by decide +kernel
theorem dX7_setTold_25 : decode cX7_setTold 25 = .ok (.checkcast 43, 3) := by decide +kernel
theorem dX7_setTold_28 : decode cX7_setTold 28 = .ok (.invokevirtual 185, 3) := by decide +kernel
theorem dX7_setTold_31 : decode cX7_setTold 31 = .ok (.invokestatic 104, 3) := by decide +kernel
theorem dX7_setTold_34 : decode cX7_setTold 34 = .ok (.istore_n 2, 1) := by decide +kernel
theorem dX7_setTold_35 : decode cX7_setTold 35 = .ok (.iinc 3 1, 3) := by decide +kernel
theorem dX7_setTold_38 : decode cX7_setTold 38 = .ok (.goto (-34), 3) := by decide +kernel
theorem dX7_setTold_41 : decode cX7_setTold 41 = .ok (.bipush 6, 2) := by decide +kernel
theorem dX7_setTold_43 : decode cX7_setTold 43 = .ok (.newarray .int, 2) := by decide +kernel
theorem dX7_setTold_45 : decode cX7_setTold 45 = .ok (.dup, 1) := by decide +kernel
theorem dX7_setTold_46 : decode cX7_setTold 46 = .ok (.iconst 0, 1) := by decide +kernel
theorem dX7_setTold_47 : decode cX7_setTold 47 = .ok (.aload_n 0, 1) := by decide +kernel
theorem dX7_setTold_48 : decode cX7_setTold 48 = .ok (.getfield 78, 3) := by decide +kernel
theorem dX7_setTold_51 : decode cX7_setTold 51 = .ok (.iastore, 1) := by decide +kernel
theorem dX7_setTold_52 : decode cX7_setTold 52 = .ok (.dup, 1) := by decide +kernel
theorem dX7_setTold_53 : decode cX7_setTold 53 = .ok (.iconst 1, 1) := by decide +kernel
theorem dX7_setTold_54 : decode cX7_setTold 54 = .ok (.aload_n 0, 1) := by decide +kernel
theorem dX7_setTold_55 : decode cX7_setTold 55 = .ok (.getfield 81, 3) := by decide +kernel
theorem dX7_setTold_58 : decode cX7_setTold 58 = .ok (.iastore, 1) := by decide +kernel
theorem dX7_setTold_59 : decode cX7_setTold 59 = .ok (.dup, 1) := by decide +kernel
theorem dX7_setTold_60 : decode cX7_setTold 60 = .ok (.iconst 2, 1) := by decide +kernel
theorem dX7_setTold_61 : decode cX7_setTold 61 = .ok (.aload_n 0, 1) := by decide +kernel
theorem dX7_setTold_62 : decode cX7_setTold 62 = .ok (.getfield 81, 3) := by decide +kernel
theorem dX7_setTold_65 : decode cX7_setTold 65 = .ok (.aload_n 0, 1) := by decide +kernel
theorem dX7_setTold_66 : decode cX7_setTold 66 = .ok (.getfield 78, 3) := by decide +kernel
theorem dX7_setTold_69 : decode cX7_setTold 69 = .ok (.iconst (-1), 1) := by decide +kernel
theorem dX7_setTold_70 : decode cX7_setTold 70 = .ok (.ixor, 1) := by decide +kernel
theorem dX7_setTold_71 : decode cX7_setTold 71 = .ok (.iand, 1) := by decide +kernel
theorem dX7_setTold_72 : decode cX7_setTold 72 = .ok (.iastore, 1) := by decide +kernel
theorem dX7_setTold_73 : decode cX7_setTold 73 = .ok (.dup, 1) := by decide +kernel
theorem dX7_setTold_74 : decode cX7_setTold 74 = .ok (.iconst 3, 1) := by decide +kernel
theorem dX7_setTold_75 : decode cX7_setTold 75 = .ok (.iload_n 2, 1) := by decide +kernel
theorem dX7_setTold_76 : decode cX7_setTold 76 = .ok (.iastore, 1) := by decide +kernel
theorem dX7_setTold_77 : decode cX7_setTold 77 = .ok (.dup, 1) := by decide +kernel
theorem dX7_setTold_78 : decode cX7_setTold 78 = .ok (.iconst 4, 1) := by decide +kernel
theorem dX7_setTold_79 : decode cX7_setTold 79 = .ok (.aload_n 0, 1) := by decide +kernel
theorem dX7_setTold_80 : decode cX7_setTold 80 = .ok (.getfield 62, 3) := by decide +kernel
theorem dX7_setTold_83 : decode cX7_setTold 83 = .ok (.iastore, 1) := by decide +kernel
theorem dX7_setTold_84 : decode cX7_setTold 84 = .ok (.dup, 1) := by decide +kernel
theorem dX7_setTold_85 : decode cX7_setTold 85 = .ok (.iconst 5, 1) := by decide +kernel
theorem dX7_setTold_86 : decode cX7_setTold 86 = .ok (.aload_n 0, 1) := by decide +kernel
theorem dX7_setTold_87 : decode cX7_setTold 87 = .ok (.getfield 56, 3) := by decide +kernel
theorem dX7_setTold_90 : decode cX7_setTold 90 = .ok (.iastore, 1) := by decide +kernel
theorem dX7_setTold_91 : decode cX7_setTold 91 = .ok (.astore_n 3, 1) := by decide +kernel
theorem dX7_setTold_92 : decode cX7_setTold 92 = .ok (.aload_n 3, 1) := by decide +kernel
theorem dX7_setTold_93 : decode cX7_setTold 93 = .ok (.iload_n 1, 1) := by decide +kernel
theorem dX7_setTold_94 : decode cX7_setTold 94 = .ok (.iaload, 1) := by decide +kernel
theorem dX7_setTold_95 : decode cX7_setTold 95 = .ok (.ireturn, 1) := by decide +kernel
theorem dX7_set_0 : decode cX7_set 0 = .ok (.aload_n 0, 1) := by decide +kernel
theorem dX7_set_1 : decode cX7_set 1 = .ok (.iload_n 1, 1) := by decide +kernel
theorem dX7_set_2 : decode cX7_set 2 = .ok (.iconst 0, 1) := by decide +kernel
theorem dX7_set_3 : decode cX7_set 3 = .ok (.iconst 5, 1) := by decide +kernel
theorem dX7_set_4 : decode cX7_set 4 = .ok (.invokestatic 97, 3) := by decide +kernel
theorem dX7_set_7 : decode cX7_set 7 = .ok (.ifCond .ne 7, 3) := by decide +kernel
theorem dX7_set_10 : decode cX7_set 10 = .ok (.iconst 1, 1) := by decide +kernel
theorem dX7_set_11 : decode cX7_set 11 = .ok (.goto 4, 3) := by decide +kernel
theorem dX7_set_14 : decode cX7_set 14 = .ok (.iconst 0, 1) := by decide +kernel
theorem dX7_set_15 : decode cX7_set 15 = .ok (.iconst 1, 1) := by decide +kernel
theorem dX7_set_16 : decode cX7_set 16 = .ok (.invokevirtual 101, 3) := by decide +kernel
theorem dX7_set_19 : decode cX7_set 19 = .ok (.ifCond .eq 7, 3) := by decide +kernel
theorem dX7_set_22 : decode cX7_set 22 = .ok (.iconst 0, 1) := by decide +kernel
theorem dX7_set_23 : decode cX7_set 23 = .ok (.goto 8, 3) := by decide +kernel
theorem dX7_set_26 : decode cX7_set 26 = .ok (.aload_n 0, 1) := by decide +kernel
theorem dX7_set_27 : decode cX7_set 27 = .ok (.iload_n 1, 1) := by decide +kernel
theorem dX7_set_28 : decode cX7_set 28 = .ok (.invokevirtual 255, 3) := by decide +kernel
theorem dX7_set_31 : decode cX7_set 31 = .ok (.ireturn, 1) := by decide +kernel
theorem dX7_boardTold_0 : decode cX7_boardTold 0 = .ok (.iconst 0, 1) := by decide +kernel
theorem dX7_boardTold_1 : decode cX7_boardTold 1 = .ok (.istore_n 2, 1) := by decide +kernel
theorem dX7_boardTold_2 : decode cX7_boardTold 2 = .ok (.aload_n 0, 1) := by decide +kernel
theorem dX7_boardTold_3 : decode cX7_boardTold 3 = .ok (.getfield 16, 3) := by decide +kernel
theorem dX7_boardTold_6 : decode cX7_boardTold 6 = .ok (.invokevirtual 171, 3) := by decide +kernel
theorem dX7_boardTold_9 : decode cX7_boardTold 9 = .ok (.astore_n 3, 1) := by decide +kernel
theorem dX7_boardTold_10 : decode cX7_boardTold 10 = .ok (.aload_n 3, 1) := by decide +kernel
theorem dX7_boardTold_11 : decode cX7_boardTold 11 = .ok (.invokeinterface 175 1, 5) := by decide +kernel
theorem dX7_boardTold_16 : decode cX7_boardTold 16 = .ok (.ifCond .eq 28, 3) := by decide +kernel
theorem dX7_boardTold_19 : decode cX7_boardTold 19 = .ok (.aload_n 3, 1) := by decide +kernel
theorem dX7_boardTold_20 : decode cX7_boardTold 20 = .ok (.invokeinterface 181 1, 5) := by decide +kernel
theorem dX7_boardTold_25 : decode cX7_boardTold 25 = .ok (.checkcast 43, 3) := by decide +kernel
theorem dX7_boardTold_28 : decode cX7_boardTold 28 = .ok (.astore 4, 2) := by decide +kernel
theorem dX7_boardTold_30 : decode cX7_boardTold 30 = .ok (.iload_n 2, 1) := by decide +kernel
theorem dX7_boardTold_31 : decode cX7_boardTold 31 = .ok (.aload 4, 2) := by decide +kernel
theorem dX7_boardTold_33 : decode cX7_boardTold 33 = .ok (.getfield 229, 3) := by decide +kernel
theorem dX7_boardTold_36 : decode cX7_boardTold 36 = .ok (.invokevirtual 52, 3) := by decide +kernel
theorem dX7_boardTold_39 : decode cX7_boardTold 39 = .ok (.iadd, 1) := by decide +kernel
theorem dX7_boardTold_40 : decode cX7_boardTold 40 = .ok (.istore_n 2, 1) := by decide +kernel
theorem dX7_boardTold_41 : decode cX7_boardTold 41 = .ok (.goto (-31), 3) := by decide +kernel
theorem dX7_boardTold_44 : decode cX7_boardTold 44 = .ok (.iconst 0, 1) := by decide +kernel
theorem dX7_boardTold_45 : decode cX7_boardTold 45 = .ok (.istore_n 3, 1) := by decide +kernel
theorem dX7_boardTold_46 : decode cX7_boardTold 46 = .ok (.aload_n 0, 1) := by decide +kernel
theorem dX7_boardTold_47 : decode cX7_boardTold 47 = .ok (.getfield 20, 3) := by decide +kernel
theorem dX7_boardTold_50 : decode cX7_boardTold 50 = .ok (.invokevirtual 171, 3) := by decide +kernel
theorem dX7_boardTold_53 : decode cX7_boardTold 53 = .ok (.astore 4, 2) := by decide +kernel
theorem dX7_boardTold_55 : decode cX7_boardTold 55 = .ok (.aload 4, 2) := by decide +kernel
theorem dX7_boardTold_57 : decode cX7_boardTold 57 = .ok (.invokeinterface 175 1, 5) := by decide +kernel
theorem dX7_boardTold_62 : decode cX7_boardTold 62 = .ok (.ifCond .eq 25, 3) := by decide +kernel
theorem dX7_boardTold_65 : decode cX7_boardTold 65 = .ok (.aload 4, 2) := by decide +kernel
theorem dX7_boardTold_67 : decode cX7_boardTold 67 = .ok (.invokeinterface 181 1, 5) := by decide +kernel
theorem dX7_boardTold_72 : decode cX7_boardTold 72 = .ok (.checkcast 238, 3) := by decide +kernel
theorem dX7_boardTold_75 : decode cX7_boardTold 75 = .ok (.astore 5, 2) := by decide +kernel
theorem dX7_boardTold_77 : decode cX7_boardTold 77 = .ok (.iload_n 3, 1) := by decide +kernel
theorem dX7_boardTold_78 : decode cX7_boardTold 78 = .ok (.aload 5, 2) := by decide +kernel
theorem dX7_boardTold_80 : decode cX7_boardTold 80 = .ok (.iconst 2, 1) := by decide +kernel
theorem dX7_boardTold_81 : decode cX7_boardTold 81 = .ok (.iaload, 1) := by decide +kernel
theorem dX7_boardTold_82 : decode cX7_boardTold 82 = .ok (.iadd, 1) := by decide +kernel
theorem dX7_boardTold_83 : decode cX7_boardTold 83 = .ok (.istore_n 3, 1) := by decide +kernel
theorem dX7_boardTold_84 : decode cX7_boardTold 84 = .ok (.goto (-29), 3) := by decide +kernel
theorem dX7_boardTold_87 : decode cX7_boardTold 87 = .ok (.bipush 15, 2) := by decide +kernel
theorem dX7_boardTold_89 : decode cX7_boardTold 89 = .ok (.newarray .int, 2) := by decide +kernel
theorem dX7_boardTold_91 : decode cX7_boardTold 91 = .ok (.dup, 1) := by decide +kernel
theorem dX7_boardTold_92 : decode cX7_boardTold 92 = .ok (.iconst 0, 1) := by decide +kernel
theorem dX7_boardTold_93 : decode cX7_boardTold 93 = .ok (.aload_n 0, 1) := by decide +kernel
theorem dX7_boardTold_94 : decode cX7_boardTold 94 = .ok (.getfield 34, 3) := by decide +kernel
theorem dX7_boardTold_97 : decode cX7_boardTold 97 = .ok (.iastore, 1) := by decide +kernel
theorem dX7_boardTold_98 : decode cX7_boardTold 98 = .ok (.dup, 1) := by decide +kernel
theorem dX7_boardTold_99 : decode cX7_boardTold 99 = .ok (.iconst 1, 1) := by decide +kernel
theorem dX7_boardTold_100 : decode cX7_boardTold 100 = .ok (.aload_n 0, 1) := by decide +kernel
theorem dX7_boardTold_101 : decode cX7_boardTold 101 = .ok (.getfield 37, 3) := by decide +kernel
theorem dX7_boardTold_104 : decode cX7_boardTold 104 = .ok (.iastore, 1) := by decide +kernel
theorem dX7_boardTold_105 : decode cX7_boardTold 105 = .ok (.dup, 1) := by decide +kernel
theorem dX7_boardTold_106 : decode cX7_boardTold 106 = .ok (.iconst 2, 1) := by decide +kernel
theorem dX7_boardTold_107 : decode cX7_boardTold 107 = .ok (.aload_n 0, 1) := by decide +kernel
theorem dX7_boardTold_108 : decode cX7_boardTold 108 = .ok (.getfield 75, 3) := by decide +kernel
theorem dX7_boardTold_111 : decode cX7_boardTold 111 = .ok (.iastore, 1) := by decide +kernel
theorem dX7_boardTold_112 : decode cX7_boardTold 112 = .ok (.dup, 1) := by decide +kernel
theorem dX7_boardTold_113 : decode cX7_boardTold 113 = .ok (.iconst 3, 1) := by decide +kernel
theorem dX7_boardTold_114 : decode cX7_boardTold 114 = .ok (.iload_n 2, 1) := by decide +kernel
theorem dX7_boardTold_115 : decode cX7_boardTold 115 = .ok (.iastore, 1) := by decide +kernel
theorem dX7_boardTold_116 : decode cX7_boardTold 116 = .ok (.dup, 1) := by decide +kernel
theorem dX7_boardTold_117 : decode cX7_boardTold 117 = .ok (.iconst 4, 1) := by decide +kernel
theorem dX7_boardTold_118 : decode cX7_boardTold 118 = .ok (.aload_n 0, 1) := by decide +kernel
theorem dX7_boardTold_119 : decode cX7_boardTold 119 = .ok (.getfield 7, 3) := by decide +kernel
theorem dX7_boardTold_122 : decode cX7_boardTold 122 = .ok (.iastore, 1) := by decide +kernel
theorem dX7_boardTold_123 : decode cX7_boardTold 123 = .ok (.dup, 1) := by decide +kernel
theorem dX7_boardTold_124 : decode cX7_boardTold 124 = .ok (.iconst 5, 1) := by decide +kernel
theorem dX7_boardTold_125 : decode cX7_boardTold 125 = .ok (.aload_n 0, 1) := by decide +kernel
theorem dX7_boardTold_126 : decode cX7_boardTold 126 = .ok (.getfield 68, 3) := by decide +kernel
theorem dX7_boardTold_129 : decode cX7_boardTold 129 = .ok (.iastore, 1) := by decide +kernel
theorem dX7_boardTold_130 : decode cX7_boardTold 130 = .ok (.dup, 1) := by decide +kernel
theorem dX7_boardTold_131 : decode cX7_boardTold 131 = .ok (.bipush 6, 2) := by decide +kernel
theorem dX7_boardTold_133 : decode cX7_boardTold 133 = .ok (.aload_n 0, 1) := by decide +kernel
theorem dX7_boardTold_134 : decode cX7_boardTold 134 = .ok (.getfield 71, 3) := by decide +kernel
theorem dX7_boardTold_137 : decode cX7_boardTold 137 = .ok (.invokestatic 163, 3) := by decide +kernel
theorem dX7_boardTold_140 : decode cX7_boardTold 140 = .ok (.iastore, 1) := by decide +kernel
theorem dX7_boardTold_141 : decode cX7_boardTold 141 = .ok (.dup, 1) := by decide +kernel
theorem dX7_boardTold_142 : decode cX7_boardTold 142 = .ok (.bipush 7, 2) := by decide +kernel
theorem dX7_boardTold_144 : decode cX7_boardTold 144 = .ok (.aload_n 0, 1) := by decide +kernel
theorem dX7_boardTold_145 : decode cX7_boardTold 145 = .ok (.invokevirtual 201, 3) := by decide +kernel
theorem dX7_boardTold_148 : decode cX7_boardTold 148 = .ok (.iastore, 1) := by decide +kernel
theorem dX7_boardTold_149 : decode cX7_boardTold 149 = .ok (.dup, 1) := by decide +kernel
theorem dX7_boardTold_150 : decode cX7_boardTold 150 = .ok (.bipush 8, 2) := by decide +kernel
theorem dX7_boardTold_152 : decode cX7_boardTold 152 = .ok (.aload_n 0, 1) := by decide +kernel
theorem dX7_boardTold_153 : decode cX7_boardTold 153 = .ok (.invokevirtual 258, 3) := by decide +kernel
theorem dX7_boardTold_156 : decode cX7_boardTold 156 = .ok (.invokestatic 163, 3) := by decide +kernel
theorem dX7_boardTold_159 : decode cX7_boardTold 159 = .ok (.iastore, 1) := by decide +kernel
theorem dX7_boardTold_160 : decode cX7_boardTold 160 = .ok (.dup, 1) := by decide +kernel
theorem dX7_boardTold_161 : decode cX7_boardTold 161 = .ok (.bipush 9, 2) := by decide +kernel
theorem dX7_boardTold_163 : decode cX7_boardTold 163 = .ok (.aload_n 0, 1) := by decide +kernel
theorem dX7_boardTold_164 : decode cX7_boardTold 164 = .ok (.aload_n 0, 1) := by decide +kernel
theorem dX7_boardTold_165 : decode cX7_boardTold 165 = .ok (.getfield 59, 3) := by decide +kernel
theorem dX7_boardTold_168 : decode cX7_boardTold 168 = .ok (.invokevirtual 261, 3) := by decide +kernel
theorem dX7_boardTold_171 : decode cX7_boardTold 171 = .ok (.iastore, 1) := by decide +kernel
theorem dX7_boardTold_172 : decode cX7_boardTold 172 = .ok (.dup, 1) := by decide +kernel
theorem dX7_boardTold_173 : decode cX7_boardTold 173 = .ok (.bipush 10, 2) := by decide +kernel
theorem dX7_boardTold_175 : decode cX7_boardTold 175 = .ok (.aload_n 0, 1) := by decide +kernel
theorem dX7_boardTold_176 : decode cX7_boardTold 176 = .ok (.getfield 65, 3) := by decide +kernel
theorem dX7_boardTold_179 : decode cX7_boardTold 179 = .ok (.invokestatic 136, 3) := by decide +kernel
theorem dX7_boardTold_182 : decode cX7_boardTold 182 = .ok (.iastore, 1) := by decide +kernel
theorem dX7_boardTold_183 : decode cX7_boardTold 183 = .ok (.dup, 1) := by decide +kernel
theorem dX7_boardTold_184 : decode cX7_boardTold 184 = .ok (.bipush 11, 2) := by decide +kernel
theorem dX7_boardTold_186 : decode cX7_boardTold 186 = .ok (.aload_n 0, 1) := by decide +kernel
theorem dX7_boardTold_187 : decode cX7_boardTold 187 = .ok (.getfield 20, 3) := by decide +kernel
theorem dX7_boardTold_190 : decode cX7_boardTold 190 = .ok (.invokevirtual 52, 3) := by decide +kernel
theorem dX7_boardTold_193 : decode cX7_boardTold 193 = .ok (.iastore, 1) := by decide +kernel
theorem dX7_boardTold_194 : decode cX7_boardTold 194 = .ok (.dup, 1) := by decide +kernel
theorem dX7_boardTold_195 : decode cX7_boardTold 195 = .ok (.bipush 12, 2) := by decide +kernel
theorem dX7_boardTold_197 : decode cX7_boardTold 197 = .ok (.iload_n 3, 1) := by decide +kernel
theorem dX7_boardTold_198 : decode cX7_boardTold 198 = .ok (.iastore, 1) := by decide +kernel
theorem dX7_boardTold_199 : decode cX7_boardTold 199 = .ok (.dup, 1) := by decide +kernel
theorem dX7_boardTold_200 : decode cX7_boardTold 200 = .ok (.bipush 13, 2) := by decide +kernel
theorem dX7_boardTold_202 : decode cX7_boardTold 202 = .ok (.aload_n 0, 1) := by decide +kernel
theorem dX7_boardTold_203 : decode cX7_boardTold 203 = .ok (.getfield 84, 3) := by decide +kernel
theorem dX7_boardTold_206 : decode cX7_boardTold 206 = .ok (.iastore, 1) := by decide +kernel
theorem dX7_boardTold_207 : decode cX7_boardTold 207 = .ok (.dup, 1) := by decide +kernel
theorem dX7_boardTold_208 : decode cX7_boardTold 208 = .ok (.bipush 14, 2) := by decide +kernel
theorem dX7_boardTold_210 : decode cX7_boardTold 210 = .ok (.aload_n 0, 1) := by decide +kernel
theorem dX7_boardTold_211 : decode cX7_boardTold 211 = .ok (.getfield 246, 3) := by decide +kernel
theorem dX7_boardTold_214 : decode cX7_boardTold 214 = .ok (.iastore, 1) := by decide +kernel
theorem dX7_boardTold_215 : decode cX7_boardTold 215 = .ok (.astore 4, 2) := by decide +kernel
theorem dX7_boardTold_217 : decode cX7_boardTold 217 = .ok (.aload 4, 2) := by decide +kernel
theorem dX7_boardTold_219 : decode cX7_boardTold 219 = .ok (.iload_n 1, 1) := by decide +kernel
theorem dX7_boardTold_220 : decode cX7_boardTold 220 = .ok (.iaload, 1) := by decide +kernel
theorem dX7_boardTold_221 : decode cX7_boardTold 221 = .ok (.ireturn, 1) := by decide +kernel
theorem dX7_board_0 : decode cX7_board 0 = .ok (.aload_n 0, 1) := by decide +kernel
theorem dX7_board_1 : decode cX7_board 1 = .ok (.iload_n 1, 1) := by decide +kernel
theorem dX7_board_2 : decode cX7_board 2 = .ok (.iconst 0, 1) := by decide +kernel
theorem dX7_board_3 : decode cX7_board 3 = .ok (.bipush 14, 2) := by decide +kernel
theorem dX7_board_5 : decode cX7_board 5 = .ok (.invokestatic 97, 3) := by decide +kernel
theorem dX7_board_8 : decode cX7_board 8 = .ok (.ifCond .ne 7, 3) := by decide +kernel
theorem dX7_board_11 : decode cX7_board 11 = .ok (.iconst 1, 1) := by decide +kernel
theorem dX7_board_12 : decode cX7_board 12 = .ok (.goto 4, 3) := by decide +kernel
theorem dX7_board_15 : decode cX7_board 15 = .ok (.iconst 0, 1) := by decide +kernel
theorem dX7_board_16 : decode cX7_board 16 = .ok (.iconst 1, 1) := by decide +kernel
theorem dX7_board_17 : decode cX7_board 17 = .ok (.invokevirtual 101, 3) := by decide +kernel
theorem dX7_board_20 : decode cX7_board 20 = .ok (.ifCond .eq 7, 3) := by decide +kernel
theorem dX7_board_23 : decode cX7_board 23 = .ok (.iconst 0, 1) := by decide +kernel
theorem dX7_board_24 : decode cX7_board 24 = .ok (.goto 8, 3) := by decide +kernel
theorem dX7_board_27 : decode cX7_board 27 = .ok (.aload_n 0, 1) := by decide +kernel
theorem dX7_board_28 : decode cX7_board 28 = .ok (.iload_n 1, 1) := by decide +kernel
theorem dX7_board_29 : decode cX7_board 29 = .ok (.invokevirtual 264, 3) := by decide +kernel
theorem dX7_board_32 : decode cX7_board 32 = .ok (.ireturn, 1) := by decide +kernel
theorem dX7_text_0 : decode cX7_text 0 = .ok (.aload_n 0, 1) := by decide +kernel
theorem dX7_text_1 : decode cX7_text 1 = .ok (.iconst 0, 1) := by decide +kernel
theorem dX7_text_2 : decode cX7_text 2 = .ok (.putfield 90, 3) := by decide +kernel
theorem dX7_text_5 : decode cX7_text 5 = .ok (.aload_n 0, 1) := by decide +kernel
theorem dX7_text_6 : decode cX7_text 6 = .ok (.getfield 26, 3) := by decide +kernel
theorem dX7_text_9 : decode cX7_text 9 = .ok (.invokevirtual 267, 3) := by decide +kernel
theorem dX7_text_12 : decode cX7_text 12 = .ok (.areturn, 1) := by decide +kernel
theorem dX7_picture_0 : decode cX7_picture 0 = .ok (.aload_n 0, 1) := by decide +kernel
theorem dX7_picture_1 : decode cX7_picture 1 = .ok (.iload_n 1, 1) := by decide +kernel
theorem dX7_picture_2 : decode cX7_picture 2 = .ok (.iconst 0, 1) := by decide +kernel
theorem dX7_picture_3 : decode cX7_picture 3 = .ok (.aload_n 0, 1) := by decide +kernel
theorem dX7_picture_4 : decode cX7_picture 4 = .ok (.getfield 34, 3) := by decide +kernel
theorem dX7_picture_7 : decode cX7_picture 7 = .ok (.iconst 1, 1) := by decide +kernel
theorem dX7_picture_8 : decode cX7_picture 8 = .ok (.isub, 1) := by decide +kernel
theorem dX7_picture_9 : decode cX7_picture 9 = .ok (.invokestatic 97, 3) := by decide +kernel
theorem dX7_picture_12 : decode cX7_picture 12 = .ok (.ifCond .ne 7, 3) := by decide +kernel
theorem dX7_picture_15 : decode cX7_picture 15 = .ok (.iconst 1, 1) := by decide +kernel
theorem dX7_picture_16 : decode cX7_picture 16 = .ok (.goto 4, 3) := by decide +kernel
theorem dX7_picture_19 : decode cX7_picture 19 = .ok (.iconst 0, 1) := by decide +kernel
theorem dX7_picture_20 : decode cX7_picture 20 = .ok (.iconst 1, 1) := by decide +kernel
theorem dX7_picture_21 : decode cX7_picture 21 = .ok (.invokevirtual 101, 3) := by decide +kernel
theorem dX7_picture_24 : decode cX7_picture 24 = .ok (.ifCond .eq 7, 3) := by decide +kernel
theorem dX7_picture_27 : decode cX7_picture 27 = .ok (.ldc_w 271, 3) := by decide +kernel
theorem dX7_picture_30 : decode cX7_picture 30 = .ok (.areturn, 1) := by decide +kernel
theorem dX7_picture_31 : decode cX7_picture 31 = .ok (.new 23, 3) := by decide +kernel
theorem dX7_picture_34 : decode cX7_picture 34 = .ok (.dup, 1) := by decide +kernel
theorem dX7_picture_35 : decode cX7_picture 35 = .ok (.invokespecial 25, 3) := by decide +kernel
theorem dX7_picture_38 : decode cX7_picture 38 = .ok (.astore_n 2, 1) := by decide +kernel
theorem dX7_picture_39 : decode cX7_picture 39 = .ok (.iload_n 1, 1) := by decide +kernel
theorem dX7_picture_40 : decode cX7_picture 40 = .ok (.aload_n 0, 1) := by decide +kernel
theorem dX7_picture_41 : decode cX7_picture 41 = .ok (.getfield 37, 3) := by decide +kernel
theorem dX7_picture_44 : decode cX7_picture 44 = .ok (.imul, 1) := by decide +kernel
theorem dX7_picture_45 : decode cX7_picture 45 = .ok (.istore_n 3, 1) := by decide +kernel
theorem dX7_picture_46 : decode cX7_picture 46 = .ok (.iload_n 3, 1) := by decide +kernel
theorem dX7_picture_47 : decode cX7_picture 47 = .ok (.iload_n 1, 1) := by decide +kernel
theorem dX7_picture_48 : decode cX7_picture 48 = .ok (.iconst 1, 1) := by decide +kernel
theorem dX7_picture_49 : decode cX7_picture 49 = .ok (.iadd, 1) := by decide +kernel
theorem dX7_picture_50 : decode cX7_picture 50 = .ok (.aload_n 0, 1) := by decide +kernel
theorem dX7_picture_51 : decode cX7_picture 51 = .ok (.getfield 37, 3) := by decide +kernel
theorem dX7_picture_54 : decode cX7_picture 54 = .ok (.imul, 1) := by decide +kernel
theorem dX7_picture_55 : decode cX7_picture 55 = .ok (.if_icmp .ge 70, 3) := by decide +kernel
theorem dX7_picture_58 : decode cX7_picture 58 = .ok (.aload_n 2, 1) := by decide +kernel
theorem dX7_picture_59 : decode cX7_picture 59 = .ok (.aload_n 0, 1) := by decide +kernel
theorem dX7_picture_60 : decode cX7_picture 60 = .ok (.getfield 56, 3) := by decide +kernel
theorem dX7_picture_63 : decode cX7_picture 63 = .ok (.iload_n 3, 1) := by decide +kernel
theorem dX7_picture_64 : decode cX7_picture 64 = .ok (.invokestatic 128, 3) := by decide +kernel
theorem dX7_picture_67 : decode cX7_picture 67 = .ok (.ifCond .ne 8, 3) := by decide +kernel
theorem dX7_picture_70 : decode cX7_picture 70 = .ok (.bipush 32, 2) := by decide +kernel
theorem dX7_picture_72 : decode cX7_picture 72 = .ok (.goto 43, 3) := by decide +kernel
theorem dX7_picture_75 : decode cX7_picture 75 = .ok (.aload_n 0, 1) := by decide +kernel
theorem dX7_picture_76 : decode cX7_picture 76 = .ok (.getfield 16, 3) := by decide +kernel
theorem dX7_picture_79 : decode cX7_picture 79 = .ok (.iload_n 3, 1) := by decide +kernel
theorem dX7_picture_80 : decode cX7_picture 80 = .ok (.invokevirtual 108, 3) := by decide +kernel
theorem dX7_picture_83 : decode cX7_picture 83 = .ok (.checkcast 43, 3) := by decide +kernel
theorem dX7_picture_86 : decode cX7_picture 86 = .ok (.invokevirtual 185, 3) := by decide +kernel
theorem dX7_picture_89 : decode cX7_picture 89 = .ok (.ifCond .eq 8, 3) := by decide +kernel
theorem dX7_picture_92 : decode cX7_picture 92 = .ok (.bipush 35, 2) := by decide +kernel
theorem dX7_picture_94 : decode cX7_picture 94 = .ok (.goto 21, 3) := by decide +kernel
theorem dX7_picture_97 : decode cX7_picture 97 = .ok (.aload_n 0, 1) := by decide +kernel
theorem dX7_picture_98 : decode cX7_picture 98 = .ok (.getfield 62, 3) := by decide +kernel
theorem dX7_picture_101 : decode cX7_picture 101 = .ok (.iload_n 3, 1) := by decide +kernel
theorem dX7_picture_102 : decode cX7_picture 102 = .ok (.invokestatic 128, 3) := by decide +kernel
theorem dX7_picture_105 : decode cX7_picture 105 = .ok (.ifCond .eq 8, 3) := by decide +kernel
theorem dX7_picture_108 : decode cX7_picture 108 = .ok (.bipush 43, 2) := by decide +kernel
theorem dX7_picture_110 : decode cX7_picture 110 = .ok (.goto 5, 3) := by decide +kernel
theorem dX7_picture_113 : decode cX7_picture 113 = .ok (.bipush 46, 2) := by decide +kernel
theorem dX7_picture_115 : decode cX7_picture 115 = .ok (.invokevirtual 197, 3) := by decide +kernel
theorem dX7_picture_118 : decode cX7_picture 118 = .ok (.pop, 1) := by decide +kernel
theorem dX7_picture_119 : decode cX7_picture 119 = .ok (.iinc 3 1, 3) := by decide +kernel
theorem dX7_picture_122 : decode cX7_picture 122 = .ok (.goto (-76), 3) := by decide +kernel
theorem dX7_picture_125 : decode cX7_picture 125 = .ok (.aload_n 2, 1) := by decide +kernel
theorem dX7_picture_126 : decode cX7_picture 126 = .ok (.invokevirtual 267, 3) := by decide +kernel
theorem dX7_picture_129 : decode cX7_picture 129 = .ok (.areturn, 1) := by decide +kernel
theorem dX7_lagTold_0 : decode cX7_lagTold 0 = .ok (.iconst 0, 1) := by decide +kernel
theorem dX7_lagTold_1 : decode cX7_lagTold 1 = .ok (.istore_n 1, 1) := by decide +kernel
theorem dX7_lagTold_2 : decode cX7_lagTold 2 = .ok (.iconst 0, 1) := by decide +kernel
theorem dX7_lagTold_3 : decode cX7_lagTold 3 = .ok (.istore_n 2, 1) := by decide +kernel
theorem dX7_lagTold_4 : decode cX7_lagTold 4 = .ok (.aload_n 0, 1) := by decide +kernel
theorem dX7_lagTold_5 : decode cX7_lagTold 5 = .ok (.getfield 16, 3) := by decide +kernel
theorem dX7_lagTold_8 : decode cX7_lagTold 8 = .ok (.invokevirtual 171, 3) := by decide +kernel
theorem dX7_lagTold_11 : decode cX7_lagTold 11 = .ok (.astore_n 3, 1) := by decide +kernel
theorem dX7_lagTold_12 : decode cX7_lagTold 12 = .ok (.aload_n 3, 1) := by decide +kernel
theorem dX7_lagTold_13 : decode cX7_lagTold 13 = .ok (.invokeinterface 175 1, 5) := by decide +kernel
theorem dX7_lagTold_18 : decode cX7_lagTold 18 = .ok (.ifCond .eq 42, 3) := by decide +kernel
theorem dX7_lagTold_21 : decode cX7_lagTold 21 = .ok (.aload_n 3, 1) := by decide +kernel
theorem dX7_lagTold_22 : decode cX7_lagTold 22 = .ok (.invokeinterface 181 1, 5) := by decide +kernel
theorem dX7_lagTold_27 : decode cX7_lagTold 27 = .ok (.checkcast 43, 3) := by decide +kernel
theorem dX7_lagTold_30 : decode cX7_lagTold 30 = .ok (.astore 4, 2) := by decide +kernel
theorem dX7_lagTold_32 : decode cX7_lagTold 32 = .ok (.aload 4, 2) := by decide +kernel
theorem dX7_lagTold_34 : decode cX7_lagTold 34 = .ok (.getfield 229, 3) := by decide +kernel
theorem dX7_lagTold_37 : decode cX7_lagTold 37 = .ok (.invokevirtual 273, 3) := by decide +kernel
theorem dX7_lagTold_40 : decode cX7_lagTold 40 = .ok (.ifCond .eq 6, 3) := by decide +kernel
theorem dX7_lagTold_43 : decode cX7_lagTold 43 = .ok (.goto (-31), 3) := by decide +kernel
theorem dX7_lagTold_46 : decode cX7_lagTold 46 = .ok (.iload_n 1, 1) := by decide +kernel
theorem dX7_lagTold_47 : decode cX7_lagTold 47 = .ok (.aload 4, 2) := by decide +kernel
theorem dX7_lagTold_49 : decode cX7_lagTold 49 = .ok (.invokevirtual 249, 3) := by decide +kernel
theorem dX7_lagTold_52 : decode cX7_lagTold 52 = .ok (.iadd, 1) := by decide +kernel
theorem dX7_lagTold_53 : decode cX7_lagTold 53 = .ok (.istore_n 1, 1) := by decide +kernel
theorem dX7_lagTold_54 : decode cX7_lagTold 54 = .ok (.iinc 2 1, 3) := by decide +kernel
theorem dX7_lagTold_57 : decode cX7_lagTold 57 = .ok (.goto (-45), 3) := by decide +kernel
theorem dX7_lagTold_60 : decode cX7_lagTold 60 = .ok (.iload_n 2, 1) := by decide +kernel
theorem dX7_lagTold_61 : decode cX7_lagTold 61 = .ok (.ifCond .ne 7, 3) := by decide +kernel
theorem dX7_lagTold_64 : decode cX7_lagTold 64 = .ok (.dconst 0, 1) := by decide +kernel
theorem dX7_lagTold_65 : decode cX7_lagTold 65 = .ok (.goto 8, 3) := by decide +kernel
theorem dX7_lagTold_68 : decode cX7_lagTold 68 = .ok (.iload_n 1, 1) := by decide +kernel
theorem dX7_lagTold_69 : decode cX7_lagTold 69 = .ok (.i2d, 1) := by decide +kernel
theorem dX7_lagTold_70 : decode cX7_lagTold 70 = .ok (.iload_n 2, 1) := by decide +kernel
theorem dX7_lagTold_71 : decode cX7_lagTold 71 = .ok (.i2d, 1) := by decide +kernel
theorem dX7_lagTold_72 : decode cX7_lagTold 72 = .ok (.ddiv, 1) := by decide +kernel
theorem dX7_lagTold_73 : decode cX7_lagTold 73 = .ok (.dreturn, 1) := by decide +kernel
theorem dX7_lag_0 : decode cX7_lag 0 = .ok (.aload_n 0, 1) := by decide +kernel
theorem dX7_lag_1 : decode cX7_lag 1 = .ok (.iconst 0, 1) := by decide +kernel
theorem dX7_lag_2 : decode cX7_lag 2 = .ok (.putfield 90, 3) := by decide +kernel
theorem dX7_lag_5 : decode cX7_lag 5 = .ok (.aload_n 0, 1) := by decide +kernel
theorem dX7_lag_6 : decode cX7_lag 6 = .ok (.invokevirtual 276, 3) := by decide +kernel
theorem dX7_lag_9 : decode cX7_lag 9 = .ok (.dreturn, 1) := by decide +kernel
theorem dX7_seen_0 : decode cX7_seen 0 = .ok (.aload_n 0, 1) := by decide +kernel
theorem dX7_seen_1 : decode cX7_seen 1 = .ok (.aload_n 0, 1) := by decide +kernel
theorem dX7_seen_2 : decode cX7_seen 2 = .ok (.iload_n 1, 1) := by decide +kernel
theorem dX7_seen_3 : decode cX7_seen 3 = .ok (.invokevirtual 144, 3) := by decide +kernel
theorem dX7_seen_6 : decode cX7_seen 6 = .ok (.iconst 1, 1) := by decide +kernel
theorem dX7_seen_7 : decode cX7_seen 7 = .ok (.invokevirtual 101, 3) := by decide +kernel
theorem dX7_seen_10 : decode cX7_seen 10 = .ok (.ifCond .eq 7, 3) := by decide +kernel
theorem dX7_seen_13 : decode cX7_seen 13 = .ok (.iconst 0, 1) := by decide +kernel
theorem dX7_seen_14 : decode cX7_seen 14 = .ok (.goto 12, 3) := by decide +kernel
theorem dX7_seen_17 : decode cX7_seen 17 = .ok (.aload_n 0, 1) := by decide +kernel
theorem dX7_seen_18 : decode cX7_seen 18 = .ok (.iload_n 1, 1) := by decide +kernel
theorem dX7_seen_19 : decode cX7_seen 19 = .ok (.aload_n 0, 1) := by decide +kernel
theorem dX7_seen_20 : decode cX7_seen 20 = .ok (.getfield 59, 3) := by decide +kernel
theorem dX7_seen_23 : decode cX7_seen 23 = .ok (.invokevirtual 154, 3) := by decide +kernel
theorem dX7_seen_26 : decode cX7_seen 26 = .ok (.ireturn, 1) := by decide +kernel
theorem dX7_exact_0 : decode cX7_exact 0 = .ok (.aload_n 0, 1) := by decide +kernel
theorem dX7_exact_1 : decode cX7_exact 1 = .ok (.aload_n 0, 1) := by decide +kernel
theorem dX7_exact_2 : decode cX7_exact 2 = .ok (.iload_n 1, 1) := by decide +kernel
theorem dX7_exact_3 : decode cX7_exact 3 = .ok (.invokevirtual 144, 3) := by decide +kernel
theorem dX7_exact_6 : decode cX7_exact 6 = .ok (.iconst 1, 1) := by decide +kernel
theorem dX7_exact_7 : decode cX7_exact 7 = .ok (.invokevirtual 101, 3) := by decide +kernel
theorem dX7_exact_10 : decode cX7_exact 10 = .ok (.ifCond .ne 19, 3) := by decide +kernel
theorem dX7_exact_13 : decode cX7_exact 13 = .ok (.aload_n 0, 1) := by decide +kernel
theorem dX7_exact_14 : decode cX7_exact 14 = .ok (.iload_n 1, 1) := by decide +kernel
theorem dX7_exact_15 : decode cX7_exact 15 = .ok (.aload_n 0, 1) := by decide +kernel
theorem dX7_exact_16 : decode cX7_exact 16 = .ok (.getfield 59, 3) := by decide +kernel
theorem dX7_exact_19 : decode cX7_exact 19 = .ok (.invokevirtual 160, 3) := by decide +kernel
theorem dX7_exact_22 : decode cX7_exact 22 = .ok (.ifCond .eq 7, 3) := by decide +kernel
theorem dX7_exact_25 : decode cX7_exact 25 = .ok (.iconst 1, 1) := by decide +kernel
theorem dX7_exact_26 : decode cX7_exact 26 = .ok (.goto 4, 3) := by decide +kernel
theorem dX7_exact_29 : decode cX7_exact 29 = .ok (.iconst 0, 1) := by decide +kernel
theorem dX7_exact_30 : decode cX7_exact 30 = .ok (.ireturn, 1) := by decide +kernel
theorem dX7_unclear_0 : decode cX7_unclear 0 = .ok (.aload_n 0, 1) := by decide +kernel
theorem dX7_unclear_1 : decode cX7_unclear 1 = .ok (.iload_n 1, 1) := by decide +kernel
theorem dX7_unclear_2 : decode cX7_unclear 2 = .ok (.iconst 1, 1) := by decide +kernel
theorem dX7_unclear_3 : decode cX7_unclear 3 = .ok (.iconst 4, 1) := by decide +kernel
theorem dX7_unclear_4 : decode cX7_unclear 4 = .ok (.invokestatic 97, 3) := by decide +kernel
theorem dX7_unclear_7 : decode cX7_unclear 7 = .ok (.ifCond .ne 7, 3) := by decide +kernel
theorem dX7_unclear_10 : decode cX7_unclear 10 = .ok (.iconst 1, 1) := by decide +kernel
theorem dX7_unclear_11 : decode cX7_unclear 11 = .ok (.goto 4, 3) := by decide +kernel
theorem dX7_unclear_14 : decode cX7_unclear 14 = .ok (.iconst 0, 1) := by decide +kernel
theorem dX7_unclear_15 : decode cX7_unclear 15 = .ok (.iconst 1, 1) := by decide +kernel
theorem dX7_unclear_16 : decode cX7_unclear 16 = .ok (.invokevirtual 101, 3) := by decide +kernel
theorem dX7_unclear_19 : decode cX7_unclear 19 = .ok (.ifCond .eq 7, 3) := by decide +kernel
theorem dX7_unclear_22 : decode cX7_unclear 22 = .ok (.iconst 0, 1) := by decide +kernel
theorem dX7_unclear_23 : decode cX7_unclear 23 = .ok (.goto 14, 3) := by decide +kernel
theorem dX7_unclear_26 : decode cX7_unclear 26 = .ok (.aload_n 0, 1) := by decide +kernel
theorem dX7_unclear_27 : decode cX7_unclear 27 = .ok (.iload_n 1, 1) := by decide +kernel
theorem dX7_unclear_28 : decode cX7_unclear 28 = .ok (.iconst 0, 1) := by decide +kernel
theorem dX7_unclear_29 : decode cX7_unclear 29 = .ok (.iconst 0, 1) := by decide +kernel
theorem dX7_unclear_30 : decode cX7_unclear 30 = .ok (.aload_n 0, 1) := by decide +kernel
theorem dX7_unclear_31 : decode cX7_unclear 31 = .ok (.getfield 59, 3) := by decide +kernel
theorem dX7_unclear_34 : decode cX7_unclear 34 = .ok (.invokevirtual 167, 3) := by decide +kernel
theorem dX7_unclear_37 : decode cX7_unclear 37 = .ok (.ireturn, 1) := by decide +kernel
theorem dX7_wouldHelp_0 : decode cX7_wouldHelp 0 = .ok (.aload_n 0, 1) := by decide +kernel
theorem dX7_wouldHelp_1 : decode cX7_wouldHelp 1 = .ok (.aload_n 0, 1) := by decide +kernel
theorem dX7_wouldHelp_2 : decode cX7_wouldHelp 2 = .ok (.iload_n 1, 1) := by decide +kernel
theorem dX7_wouldHelp_3 : decode cX7_wouldHelp 3 = .ok (.invokevirtual 121, 3) := by decide +kernel
theorem dX7_wouldHelp_6 : decode cX7_wouldHelp 6 = .ok (.iconst 1, 1) := by decide +kernel
theorem dX7_wouldHelp_7 : decode cX7_wouldHelp 7 = .ok (.invokevirtual 101, 3) := by decide +kernel
theorem dX7_wouldHelp_10 : decode cX7_wouldHelp 10 = .ok (.ifCond .eq 7, 3) := by decide +kernel
theorem dX7_wouldHelp_13 : decode cX7_wouldHelp 13 = .ok (.iconst 0, 1) := by decide +kernel
theorem dX7_wouldHelp_14 : decode cX7_wouldHelp 14 = .ok (.goto 16, 3) := by decide +kernel
theorem dX7_wouldHelp_17 : decode cX7_wouldHelp 17 = .ok (.aload_n 0, 1) := by decide +kernel
theorem dX7_wouldHelp_18 : decode cX7_wouldHelp 18 = .ok (.aload_n 0, 1) := by decide +kernel
theorem dX7_wouldHelp_19 : decode cX7_wouldHelp 19 = .ok (.getfield 59, 3) := by decide +kernel
theorem dX7_wouldHelp_22 : decode cX7_wouldHelp 22 = .ok (.iload_n 1, 1) := by decide +kernel
theorem dX7_wouldHelp_23 : decode cX7_wouldHelp 23 = .ok (.iconst 1, 1) := by decide +kernel
theorem dX7_wouldHelp_24 : decode cX7_wouldHelp 24 = .ok (.invokestatic 104, 3) := by decide +kernel
theorem dX7_wouldHelp_27 : decode cX7_wouldHelp 27 = .ok (.invokevirtual 261, 3) := by decide +kernel
theorem dX7_wouldHelp_30 : decode cX7_wouldHelp 30 = .ok (.ireturn, 1) := by decide +kernel
theorem dX7_best_0 : decode cX7_best 0 = .ok (.iconst (-1), 1) := by decide +kernel
theorem dX7_best_1 : decode cX7_best 1 = .ok (.istore_n 1, 1) := by decide +kernel
theorem dX7_best_2 : decode cX7_best 2 = .ok (.iconst 0, 1) := by decide +kernel
theorem dX7_best_3 : decode cX7_best 3 = .ok (.istore_n 2, 1) := by decide +kernel
theorem dX7_best_4 : decode cX7_best 4 = .ok (.iconst 0, 1) := by decide +kernel
theorem dX7_best_5 : decode cX7_best 5 = .ok (.istore_n 3, 1) := by decide +kernel
theorem dX7_best_6 : decode cX7_best 6 = .ok (.iload_n 3, 1) := by decide +kernel
theorem dX7_best_7 : decode cX7_best 7 = .ok (.aload_n 0, 1) := by decide +kernel
theorem dX7_best_8 : decode cX7_best 8 = .ok (.getfield 16, 3) := by decide +kernel
theorem dX7_best_11 : decode cX7_best 11 = .ok (.invokevirtual 52, 3) := by decide +kernel
theorem dX7_best_14 : decode cX7_best 14 = .ok (.if_icmp .ge 71, 3) := by decide +kernel
theorem dX7_best_17 : decode cX7_best 17 = .ok (.aload_n 0, 1) := by decide +kernel
theorem dX7_best_18 : decode cX7_best 18 = .ok (.getfield 56, 3) := by decide +kernel
theorem dX7_best_21 : decode cX7_best 21 = .ok (.iload_n 3, 1) := by decide +kernel
theorem dX7_best_22 : decode cX7_best 22 = .ok (.invokestatic 128, 3) := by decide +kernel
theorem dX7_best_25 : decode cX7_best 25 = .ok (.ifCond .eq 54, 3) := by decide +kernel
theorem dX7_best_28 : decode cX7_best 28 = .ok (.aload_n 0, 1) := by decide +kernel
theorem dX7_best_29 : decode cX7_best 29 = .ok (.getfield 59, 3) := by decide +kernel
theorem dX7_best_32 : decode cX7_best 32 = .ok (.iload_n 3, 1) := by decide +kernel
theorem dX7_best_33 : decode cX7_best 33 = .ok (.invokestatic 128, 3) := by decide +kernel
theorem dX7_best_36 : decode cX7_best 36 = .ok (.ifCond .eq 6, 3) := by decide +kernel
theorem dX7_best_39 : decode cX7_best 39 = .ok (.goto 40, 3) := by decide +kernel
theorem dX7_best_42 : decode cX7_best 42 = .ok (.aload_n 0, 1) := by decide +kernel
theorem dX7_best_43 : decode cX7_best 43 = .ok (.iconst 3, 1) := by decide +kernel
theorem dX7_best_44 : decode cX7_best 44 = .ok (.iconst 0, 1) := by decide +kernel
theorem dX7_best_45 : decode cX7_best 45 = .ok (.iconst 0, 1) := by decide +kernel
theorem dX7_best_46 : decode cX7_best 46 = .ok (.aload_n 0, 1) := by decide +kernel
theorem dX7_best_47 : decode cX7_best 47 = .ok (.getfield 59, 3) := by decide +kernel
theorem dX7_best_50 : decode cX7_best 50 = .ok (.iload_n 3, 1) := by decide +kernel
theorem dX7_best_51 : decode cX7_best 51 = .ok (.iconst 1, 1) := by decide +kernel
theorem dX7_best_52 : decode cX7_best 52 = .ok (.invokestatic 104, 3) := by decide +kernel
theorem dX7_best_55 : decode cX7_best 55 = .ok (.invokevirtual 167, 3) := by decide +kernel
theorem dX7_best_58 : decode cX7_best 58 = .ok (.istore 4, 2) := by decide +kernel
theorem dX7_best_60 : decode cX7_best 60 = .ok (.iload_n 1, 1) := by decide +kernel
theorem dX7_best_61 : decode cX7_best 61 = .ok (.iconst (-1), 1) := by decide +kernel
theorem dX7_best_62 : decode cX7_best 62 = .ok (.if_icmp .eq 12, 3) := by decide +kernel
theorem dX7_best_65 : decode cX7_best 65 = .ok (.iload 4, 2) := by decide +kernel
theorem dX7_best_67 : decode cX7_best 67 = .ok (.iload_n 2, 1) := by decide +kernel
theorem dX7_best_68 : decode cX7_best 68 = .ok (.if_icmp .lt 6, 3) := by decide +kernel
theorem dX7_best_71 : decode cX7_best 71 = .ok (.goto 8, 3) := by decide +kernel
theorem dX7_best_74 : decode cX7_best 74 = .ok (.iload_n 3, 1) := by decide +kernel
theorem dX7_best_75 : decode cX7_best 75 = .ok (.istore_n 1, 1) := by decide +kernel
theorem dX7_best_76 : decode cX7_best 76 = .ok (.iload 4, 2) := by decide +kernel
theorem dX7_best_78 : decode cX7_best 78 = .ok (.istore_n 2, 1) := by decide +kernel
theorem dX7_best_79 : decode cX7_best 79 = .ok (.iinc 3 1, 3) := by decide +kernel
theorem dX7_best_82 : decode cX7_best 82 = .ok (.goto (-76), 3) := by decide +kernel
theorem dX7_best_85 : decode cX7_best 85 = .ok (.iload_n 1, 1) := by decide +kernel
theorem dX7_best_86 : decode cX7_best 86 = .ok (.ireturn, 1) := by decide +kernel
theorem dX7_bestDiode_0 : decode cX7_bestDiode 0 = .ok (.aload_n 0, 1) := by decide +kernel
theorem dX7_bestDiode_1 : decode cX7_bestDiode 1 = .ok (.iconst 0, 1) := by decide +kernel
theorem dX7_bestDiode_2 : decode cX7_bestDiode 2 = .ok (.putfield 90, 3) := by decide +kernel
theorem dX7_bestDiode_5 : decode cX7_bestDiode 5 = .ok (.aload_n 0, 1) := by decide +kernel
theorem dX7_bestDiode_6 : decode cX7_bestDiode 6 = .ok (.invokevirtual 280, 3) := by decide +kernel
theorem dX7_bestDiode_9 : decode cX7_bestDiode 9 = .ok (.ireturn, 1) := by decide +kernel
theorem dX7_ghostsWith_0 : decode cX7_ghostsWith 0 = .ok (.aload_n 0, 1) := by decide +kernel
theorem dX7_ghostsWith_1 : decode cX7_ghostsWith 1 = .ok (.getfield 78, 3) := by decide +kernel
theorem dX7_ghostsWith_4 : decode cX7_ghostsWith 4 = .ok (.iload_n 1, 1) := by decide +kernel
theorem dX7_ghostsWith_5 : decode cX7_ghostsWith 5 = .ok (.iconst 1, 1) := by decide +kernel
theorem dX7_ghostsWith_6 : decode cX7_ghostsWith 6 = .ok (.invokestatic 104, 3) := by decide +kernel
theorem dX7_ghostsWith_9 : decode cX7_ghostsWith 9 = .ok (.istore_n 2, 1) := by decide +kernel
theorem dX7_ghostsWith_10 : decode cX7_ghostsWith 10 = .ok (.aload_n 0, 1) := by decide +kernel
theorem dX7_ghostsWith_11 : decode cX7_ghostsWith 11 = .ok (.getfield 56, 3) := by decide +kernel
theorem dX7_ghostsWith_14 : decode cX7_ghostsWith 14 = .ok (.iload_n 1, 1) := by decide +kernel
theorem dX7_ghostsWith_15 : decode cX7_ghostsWith 15 = .ok (.invokestatic 128, 3) := by decide +kernel
theorem dX7_ghostsWith_18 : decode cX7_ghostsWith 18 = .ok (.ifCond .eq 19, 3) := by decide +kernel
theorem dX7_ghostsWith_21 : decode cX7_ghostsWith 21 = .ok (.aload_n 0, 1) := by decide +kernel
theorem dX7_ghostsWith_22 : decode cX7_ghostsWith 22 = .ok (.iload_n 2, 1) := by decide +kernel
theorem dX7_ghostsWith_23 : decode cX7_ghostsWith 23 = .ok (.aload_n 0, 1) := by decide +kernel
theorem dX7_ghostsWith_24 : decode cX7_ghostsWith 24 = .ok (.getfield 59, 3) := by decide +kernel
theorem dX7_ghostsWith_27 : decode cX7_ghostsWith 27 = .ok (.invokevirtual 154, 3) := by decide +kernel
theorem dX7_ghostsWith_30 : decode cX7_ghostsWith 30 = .ok (.iload_n 2, 1) := by decide +kernel
theorem dX7_ghostsWith_31 : decode cX7_ghostsWith 31 = .ok (.iconst (-1), 1) := by decide +kernel
theorem dX7_ghostsWith_32 : decode cX7_ghostsWith 32 = .ok (.ixor, 1) := by decide +kernel
theorem dX7_ghostsWith_33 : decode cX7_ghostsWith 33 = .ok (.iand, 1) := by decide +kernel
theorem dX7_ghostsWith_34 : decode cX7_ghostsWith 34 = .ok (.goto 4, 3) := by decide +kernel
theorem dX7_ghostsWith_37 : decode cX7_ghostsWith 37 = .ok (.iconst 0, 1) := by decide +kernel
theorem dX7_ghostsWith_38 : decode cX7_ghostsWith 38 = .ok (.ireturn, 1) := by decide +kernel
theorem dX7_wouldGhost_0 : decode cX7_wouldGhost 0 = .ok (.aload_n 0, 1) := by decide +kernel
theorem dX7_wouldGhost_1 : decode cX7_wouldGhost 1 = .ok (.aload_n 0, 1) := by decide +kernel
theorem dX7_wouldGhost_2 : decode cX7_wouldGhost 2 = .ok (.iload_n 1, 1) := by decide +kernel
theorem dX7_wouldGhost_3 : decode cX7_wouldGhost 3 = .ok (.invokevirtual 121, 3) := by decide +kernel
theorem dX7_wouldGhost_6 : decode cX7_wouldGhost 6 = .ok (.iconst 1, 1) := by decide +kernel
theorem dX7_wouldGhost_7 : decode cX7_wouldGhost 7 = .ok (.invokevirtual 101, 3) := by decide +kernel
theorem dX7_wouldGhost_10 : decode cX7_wouldGhost 10 = .ok (.ifCond .eq 7, 3) := by decide +kernel
theorem dX7_wouldGhost_13 : decode cX7_wouldGhost 13 = .ok (.iconst 0, 1) := by decide +kernel
theorem dX7_wouldGhost_14 : decode cX7_wouldGhost 14 = .ok (.goto 8, 3) := by decide +kernel
theorem dX7_wouldGhost_17 : decode cX7_wouldGhost 17 = .ok (.aload_n 0, 1) := by decide +kernel
theorem dX7_wouldGhost_18 : decode cX7_wouldGhost 18 = .ok (.iload_n 1, 1) := by decide +kernel
theorem dX7_wouldGhost_19 : decode cX7_wouldGhost 19 = .ok (.invokevirtual 283, 3) := by decide +kernel
theorem dX7_wouldGhost_22 : decode cX7_wouldGhost 22 = .ok (.ireturn, 1) := by decide +kernel
theorem dX7_isWhole_0 : decode cX7_isWhole 0 = .ok (.aload_n 0, 1) := by decide +kernel
theorem dX7_isWhole_1 : decode cX7_isWhole 1 = .ok (.getfield 62, 3) := by decide +kernel
theorem dX7_isWhole_4 : decode cX7_isWhole 4 = .ok (.aload_n 0, 1) := by decide +kernel
theorem dX7_isWhole_5 : decode cX7_isWhole 5 = .ok (.getfield 56, 3) := by decide +kernel
theorem dX7_isWhole_8 : decode cX7_isWhole 8 = .ok (.iconst (-1), 1) := by decide +kernel
theorem dX7_isWhole_9 : decode cX7_isWhole 9 = .ok (.ixor, 1) := by decide +kernel
theorem dX7_isWhole_10 : decode cX7_isWhole 10 = .ok (.iand, 1) := by decide +kernel
theorem dX7_isWhole_11 : decode cX7_isWhole 11 = .ok (.ifCond .ne 15, 3) := by decide +kernel
theorem dX7_isWhole_14 : decode cX7_isWhole 14 = .ok (.aload_n 0, 1) := by decide +kernel
theorem dX7_isWhole_15 : decode cX7_isWhole 15 = .ok (.getfield 26, 3) := by decide +kernel
theorem dX7_isWhole_18 : decode cX7_isWhole 18 = .ok (.invokevirtual 194, 3) := by decide +kernel
theorem dX7_isWhole_21 : decode cX7_isWhole 21 = .ok (.bipush 60, 2) := by decide +kernel
theorem dX7_isWhole_23 : decode cX7_isWhole 23 = .ok (.if_icmp .le 5, 3) := by decide +kernel
theorem dX7_isWhole_26 : decode cX7_isWhole 26 = .ok (.iconst 0, 1) := by decide +kernel
theorem dX7_isWhole_27 : decode cX7_isWhole 27 = .ok (.ireturn, 1) := by decide +kernel
theorem dX7_isWhole_28 : decode cX7_isWhole 28 = .ok (.aload_n 0, 1) := by decide +kernel
theorem dX7_isWhole_29 : decode cX7_isWhole 29 = .ok (.invokevirtual 147, 3) := by decide +kernel
theorem dX7_isWhole_32 : decode cX7_isWhole 32 = .ok (.istore_n 1, 1) := by decide +kernel
theorem dX7_isWhole_33 : decode cX7_isWhole 33 = .ok (.iconst 0, 1) := by decide +kernel
theorem dX7_isWhole_34 : decode cX7_isWhole 34 = .ok (.istore_n 2, 1) := by decide +kernel
theorem dX7_isWhole_35 : decode cX7_isWhole 35 = .ok (.iload_n 2, 1) := by decide +kernel
theorem dX7_isWhole_36 : decode cX7_isWhole 36 = .ok (.aload_n 0, 1) := by decide +kernel
theorem dX7_isWhole_37 : decode cX7_isWhole 37 = .ok (.getfield 16, 3) := by decide +kernel
theorem dX7_isWhole_40 : decode cX7_isWhole 40 = .ok (.invokevirtual 52, 3) := by decide +kernel
theorem dX7_isWhole_43 : decode cX7_isWhole 43 = .ok (.if_icmp .ge 65, 3) := by decide +kernel
theorem dX7_isWhole_46 : decode cX7_isWhole 46 = .ok (.aload_n 0, 1) := by decide +kernel
theorem dX7_isWhole_47 : decode cX7_isWhole 47 = .ok (.getfield 56, 3) := by decide +kernel
theorem dX7_isWhole_50 : decode cX7_isWhole 50 = .ok (.iload_n 2, 1) := by decide +kernel
theorem dX7_isWhole_51 : decode cX7_isWhole 51 = .ok (.invokestatic 128, 3) := by decide +kernel
theorem dX7_isWhole_54 : decode cX7_isWhole 54 = .ok (.ifCond .ne 6, 3) := by decide +kernel
theorem dX7_isWhole_57 : decode cX7_isWhole 57 = .ok (.goto 45, 3) := by decide +kernel
theorem dX7_isWhole_60 : decode cX7_isWhole 60 = .ok (.aload_n 0, 1) := by decide +kernel
theorem dX7_isWhole_61 : decode cX7_isWhole 61 = .ok (.iconst 1, 1) := by decide +kernel
theorem dX7_isWhole_62 : decode cX7_isWhole 62 = .ok (.iload_n 2, 1) := by decide +kernel
theorem dX7_isWhole_63 : decode cX7_isWhole 63 = .ok (.ishl, 1) := by decide +kernel
theorem dX7_isWhole_64 : decode cX7_isWhole 64 = .ok (.aload_n 0, 1) := by decide +kernel
theorem dX7_isWhole_65 : decode cX7_isWhole 65 = .ok (.getfield 59, 3) := by decide +kernel
theorem dX7_isWhole_68 : decode cX7_isWhole 68 = .ok (.invokevirtual 160, 3) := by decide +kernel
theorem dX7_isWhole_71 : decode cX7_isWhole 71 = .ok (.ifCond .eq 29, 3) := by decide +kernel
theorem dX7_isWhole_74 : decode cX7_isWhole 74 = .ok (.iload_n 1, 1) := by decide +kernel
theorem dX7_isWhole_75 : decode cX7_isWhole 75 = .ok (.iload_n 2, 1) := by decide +kernel
theorem dX7_isWhole_76 : decode cX7_isWhole 76 = .ok (.invokestatic 128, 3) := by decide +kernel
theorem dX7_isWhole_79 : decode cX7_isWhole 79 = .ok (.ifCond .eq 23, 3) := by decide +kernel
theorem dX7_isWhole_82 : decode cX7_isWhole 82 = .ok (.aload_n 0, 1) := by decide +kernel
theorem dX7_isWhole_83 : decode cX7_isWhole 83 = .ok (.iconst 1, 1) := by decide +kernel
theorem dX7_isWhole_84 : decode cX7_isWhole 84 = .ok (.iload_n 2, 1) := by decide +kernel
theorem dX7_isWhole_85 : decode cX7_isWhole 85 = .ok (.ishl, 1) := by decide +kernel
theorem dX7_isWhole_86 : decode cX7_isWhole 86 = .ok (.aload_n 0, 1) := by decide +kernel
theorem dX7_isWhole_87 : decode cX7_isWhole 87 = .ok (.getfield 59, 3) := by decide +kernel
theorem dX7_isWhole_90 : decode cX7_isWhole 90 = .ok (.invokevirtual 154, 3) := by decide +kernel
theorem dX7_isWhole_93 : decode cX7_isWhole 93 = .ok (.iload_n 2, 1) := by decide +kernel
theorem dX7_isWhole_94 : decode cX7_isWhole 94 = .ok (.invokestatic 128, 3) := by decide +kernel
theorem dX7_isWhole_97 : decode cX7_isWhole 97 = .ok (.ifCond .ne 5, 3) := by decide +kernel
theorem dX7_isWhole_100 : decode cX7_isWhole 100 = .ok (.iconst 0, 1) := by decide +kernel
theorem dX7_isWhole_101 : decode cX7_isWhole 101 = .ok (.ireturn, 1) := by decide +kernel
theorem dX7_isWhole_102 : decode cX7_isWhole 102 = .ok (.iinc 2 1, 3) := by decide +kernel
theorem dX7_isWhole_105 : decode cX7_isWhole 105 = .ok (.goto (-70), 3) := by decide +kernel
theorem dX7_isWhole_108 : decode cX7_isWhole 108 = .ok (.aload_n 0, 1) := by decide +kernel
theorem dX7_isWhole_109 : decode cX7_isWhole 109 = .ok (.aload_n 0, 1) := by decide +kernel
theorem dX7_isWhole_110 : decode cX7_isWhole 110 = .ok (.getfield 59, 3) := by decide +kernel
theorem dX7_isWhole_113 : decode cX7_isWhole 113 = .ok (.invokevirtual 261, 3) := by decide +kernel
theorem dX7_isWhole_116 : decode cX7_isWhole 116 = .ok (.istore_n 2, 1) := by decide +kernel
theorem dX7_isWhole_117 : decode cX7_isWhole 117 = .ok (.aload_n 0, 1) := by decide +kernel
theorem dX7_isWhole_118 : decode cX7_isWhole 118 = .ok (.invokevirtual 258, 3) := by decide +kernel
theorem dX7_isWhole_121 : decode cX7_isWhole 121 = .ok (.ifCond .eq 31, 3) := by decide +kernel
theorem dX7_isWhole_124 : decode cX7_isWhole 124 = .ok (.iload_n 2, 1) := by decide +kernel
theorem dX7_isWhole_125 : decode cX7_isWhole 125 = .ok (.iconst (-1), 1) := by decide +kernel
theorem dX7_isWhole_126 : decode cX7_isWhole 126 = .ok (.if_icmp .ne 22, 3) := by decide +kernel
theorem dX7_isWhole_129 : decode cX7_isWhole 129 = .ok (.aload_n 0, 1) := by decide +kernel
theorem dX7_isWhole_130 : decode cX7_isWhole 130 = .ok (.aload_n 0, 1) := by decide +kernel
theorem dX7_isWhole_131 : decode cX7_isWhole 131 = .ok (.getfield 56, 3) := by decide +kernel
theorem dX7_isWhole_134 : decode cX7_isWhole 134 = .ok (.aload_n 0, 1) := by decide +kernel
theorem dX7_isWhole_135 : decode cX7_isWhole 135 = .ok (.getfield 59, 3) := by decide +kernel
theorem dX7_isWhole_138 : decode cX7_isWhole 138 = .ok (.invokevirtual 160, 3) := by decide +kernel
theorem dX7_isWhole_141 : decode cX7_isWhole 141 = .ok (.ifCond .eq 7, 3) := by decide +kernel
theorem dX7_isWhole_144 : decode cX7_isWhole 144 = .ok (.iconst 1, 1) := by decide +kernel
theorem dX7_isWhole_145 : decode cX7_isWhole 145 = .ok (.goto 24, 3) := by decide +kernel
theorem dX7_isWhole_148 : decode cX7_isWhole 148 = .ok (.iconst 0, 1) := by decide +kernel
theorem dX7_isWhole_149 : decode cX7_isWhole 149 = .ok (.goto 20, 3) := by decide +kernel
theorem dX7_isWhole_152 : decode cX7_isWhole 152 = .ok (.iload_n 2, 1) := by decide +kernel
theorem dX7_isWhole_153 : decode cX7_isWhole 153 = .ok (.iconst 3, 1) := by decide +kernel
theorem dX7_isWhole_154 : decode cX7_isWhole 154 = .ok (.if_icmp .lt 14, 3) := by decide +kernel
theorem dX7_isWhole_157 : decode cX7_isWhole 157 = .ok (.iload_n 2, 1) := by decide +kernel
theorem dX7_isWhole_158 : decode cX7_isWhole 158 = .ok (.iconst 2, 1) := by decide +kernel
theorem dX7_isWhole_159 : decode cX7_isWhole 159 = .ok (.irem, 1) := by decide +kernel
theorem dX7_isWhole_160 : decode cX7_isWhole 160 = .ok (.iconst 1, 1) := by decide +kernel
theorem dX7_isWhole_161 : decode cX7_isWhole 161 = .ok (.if_icmp .ne 7, 3) := by decide +kernel
theorem dX7_isWhole_164 : decode cX7_isWhole 164 = .ok (.iconst 1, 1) := by decide +kernel
theorem dX7_isWhole_165 : decode cX7_isWhole 165 = .ok (.goto 4, 3) := by decide +kernel
theorem dX7_isWhole_168 : decode cX7_isWhole 168 = .ok (.iconst 0, 1) := by decide +kernel
theorem dX7_isWhole_169 : decode cX7_isWhole 169 = .ok (.ireturn, 1) := by decide +kernel
theorem dX7_isSound_0 : decode cX7_isSound 0 = .ok (.aload_n 0, 1) := by decide +kernel
theorem dX7_isSound_1 : decode cX7_isSound 1 = .ok (.iconst 0, 1) := by decide +kernel
theorem dX7_isSound_2 : decode cX7_isSound 2 = .ok (.putfield 90, 3) := by decide +kernel
theorem dX7_isSound_5 : decode cX7_isSound 5 = .ok (.aload_n 0, 1) := by decide +kernel
theorem dX7_isSound_6 : decode cX7_isSound 6 = .ok (.invokevirtual 286, 3) := by decide +kernel
theorem dX7_isSound_9 : decode cX7_isSound 9 = .ok (.ireturn, 1) := by decide +kernel
theorem dX7_add_0 : decode cX7_add 0 = .ok (.lload_n 0, 1) := by decide +kernel
theorem dX7_add_1 : decode cX7_add 1 = .ok (.ldc2_w 289, 3) := by decide +kernel
theorem dX7_add_4 : decode cX7_add 4 = .ok (.lmul, 1) := by decide +kernel
theorem dX7_add_5 : decode cX7_add 5 = .ok (.lload_n 2, 1) := by decide +kernel
theorem dX7_add_6 : decode cX7_add 6 = .ok (.ladd, 1) := by decide +kernel
theorem dX7_add_7 : decode cX7_add 7 = .ok (.lreturn, 1) := by decide +kernel
theorem dX7_digest_0 : decode cX7_digest 0 = .ok (.aload_n 0, 1) := by decide +kernel
theorem dX7_digest_1 : decode cX7_digest 1 = .ok (.iconst 0, 1) := by decide +kernel
theorem dX7_digest_2 : decode cX7_digest 2 = .ok (.putfield 90, 3) := by decide +kernel
theorem dX7_digest_5 : decode cX7_digest 5 = .ok (.ldc2_w 291, 3) := by decide +kernel
theorem dX7_digest_8 : decode cX7_digest 8 = .ok (.lstore_n 1, 1) := by decide +kernel
theorem dX7_digest_9 : decode cX7_digest 9 = .ok (.iconst 0, 1) := by decide +kernel
theorem dX7_digest_10 : decode cX7_digest 10 = .ok (.istore_n 3, 1) := by decide +kernel
theorem dX7_digest_11 : decode cX7_digest 11 = .ok (.iload_n 3, 1) := by decide +kernel
theorem dX7_digest_12 : decode cX7_digest 12 = .ok (.bipush 15, 2) := by decide +kernel
theorem dX7_digest_14 : decode cX7_digest 14 = .ok (.if_icmp .ge 20, 3) := by decide +kernel
theorem dX7_digest_17 : decode cX7_digest 17 = .ok (.lload_n 1, 1) := by decide +kernel
theorem dX7_digest_18 : decode cX7_digest 18 = .ok (.aload_n 0, 1) := by decide +kernel
theorem dX7_digest_19 : decode cX7_digest 19 = .ok (.iload_n 3, 1) := by decide +kernel
theorem dX7_digest_20 : decode cX7_digest 20 = .ok (.invokevirtual 264, 3) := by decide +kernel
theorem dX7_digest_23 : decode cX7_digest 23 = .ok (.i2l, 1) := by decide +kernel
theorem dX7_digest_24 : decode cX7_digest 24 = .ok (.invokestatic 293, 3) := by decide +kernel
theorem dX7_digest_27 : decode cX7_digest 27 = .ok (.lstore_n 1, 1) := by decide +kernel
theorem dX7_digest_28 : decode cX7_digest 28 = .ok (.iinc 3 1, 3) := by decide +kernel
theorem dX7_digest_31 : decode cX7_digest 31 = .ok (.goto (-20), 3) := by decide +kernel
theorem dX7_digest_34 : decode cX7_digest 34 = .ok (.iconst 0, 1) := by decide +kernel
theorem dX7_digest_35 : decode cX7_digest 35 = .ok (.istore_n 3, 1) := by decide +kernel
theorem dX7_digest_36 : decode cX7_digest 36 = .ok (.iload_n 3, 1) := by decide +kernel
theorem dX7_digest_37 : decode cX7_digest 37 = .ok (.bipush 6, 2) := by decide +kernel
theorem dX7_digest_39 : decode cX7_digest 39 = .ok (.if_icmp .ge 20, 3) := by decide +kernel
theorem dX7_digest_42 : decode cX7_digest 42 = .ok (.lload_n 1, 1) := by decide +kernel
theorem dX7_digest_43 : decode cX7_digest 43 = .ok (.aload_n 0, 1) := by decide +kernel
theorem dX7_digest_44 : decode cX7_digest 44 = .ok (.iload_n 3, 1) := by decide +kernel
theorem dX7_digest_45 : decode cX7_digest 45 = .ok (.invokevirtual 255, 3) := by decide +kernel
theorem dX7_digest_48 : decode cX7_digest 48 = .ok (.i2l, 1) := by decide +kernel
theorem dX7_digest_49 : decode cX7_digest 49 = .ok (.invokestatic 293, 3) := by decide +kernel
theorem dX7_digest_52 : decode cX7_digest 52 = .ok (.lstore_n 1, 1) := by decide +kernel
theorem dX7_digest_53 : decode cX7_digest 53 = .ok (.iinc 3 1, 3) := by decide +kernel
theorem dX7_digest_56 : decode cX7_digest 56 = .ok (.goto (-20), 3) := by decide +kernel
theorem dX7_digest_59 : decode cX7_digest 59 = .ok (.iconst 0, 1) := by decide +kernel
theorem dX7_digest_60 : decode cX7_digest 60 = .ok (.istore_n 3, 1) := by decide +kernel
theorem dX7_digest_61 : decode cX7_digest 61 = .ok (.iload_n 3, 1) := by decide +kernel
theorem dX7_digest_62 : decode cX7_digest 62 = .ok (.aload_n 0, 1) := by decide +kernel
theorem dX7_digest_63 : decode cX7_digest 63 = .ok (.getfield 16, 3) := by decide +kernel
theorem dX7_digest_66 : decode cX7_digest 66 = .ok (.invokevirtual 52, 3) := by decide +kernel
theorem dX7_digest_69 : decode cX7_digest 69 = .ok (.if_icmp .ge 49, 3) := by decide +kernel
theorem dX7_digest_72 : decode cX7_digest 72 = .ok (.iconst 0, 1) := by decide +kernel
theorem dX7_digest_73 : decode cX7_digest 73 = .ok (.istore 4, 2) := by decide +kernel
theorem dX7_digest_75 : decode cX7_digest 75 = .ok (.iload 4, 2) := by decide +kernel
theorem dX7_digest_77 : decode cX7_digest 77 = .ok (.bipush 11, 2) := by decide +kernel
theorem dX7_digest_79 : decode cX7_digest 79 = .ok (.if_icmp .ge 22, 3) := by decide +kernel
theorem dX7_digest_82 : decode cX7_digest 82 = .ok (.lload_n 1, 1) := by decide +kernel
theorem dX7_digest_83 : decode cX7_digest 83 = .ok (.aload_n 0, 1) := by decide +kernel
theorem dX7_digest_84 : decode cX7_digest 84 = .ok (.iload_n 3, 1) := by decide +kernel
theorem dX7_digest_85 : decode cX7_digest 85 = .ok (.iload 4, 2) := by decide +kernel
theorem dX7_digest_87 : decode cX7_digest 87 = .ok (.invokevirtual 252, 3) := by decide +kernel
theorem dX7_digest_90 : decode cX7_digest 90 = .ok (.i2l, 1) := by decide +kernel
theorem dX7_digest_91 : decode cX7_digest 91 = .ok (.invokestatic 293, 3) := by decide +kernel
theorem dX7_digest_94 : decode cX7_digest 94 = .ok (.lstore_n 1, 1) := by decide +kernel
theorem dX7_digest_95 : decode cX7_digest 95 = .ok (.iinc 4 1, 3) := by decide +kernel
theorem dX7_digest_98 : decode cX7_digest 98 = .ok (.goto (-23), 3) := by decide +kernel
theorem dX7_digest_101 : decode cX7_digest 101 = .ok (.lload_n 1, 1) := by decide +kernel
theorem dX7_digest_102 : decode cX7_digest 102 = .ok (.aload_n 0, 1) := by decide +kernel
theorem dX7_digest_103 : decode cX7_digest 103 = .ok (.iload_n 3, 1) := by decide +kernel
theorem dX7_digest_104 : decode cX7_digest 104 = .ok (.invokevirtual 283, 3) := by decide +kernel
theorem dX7_digest_107 : decode cX7_digest 107 = .ok (.i2l, 1) := by decide +kernel
theorem dX7_digest_108 : decode cX7_digest 108 = .ok (.invokestatic 293, 3) := by decide +kernel
theorem dX7_digest_111 : decode cX7_digest 111 = .ok (.lstore_n 1, 1) := by decide +kernel
theorem dX7_digest_112 : decode cX7_digest 112 = .ok (.iinc 3 1, 3) := by decide +kernel
theorem dX7_digest_115 : decode cX7_digest 115 = .ok (.goto (-54), 3) := by decide +kernel
theorem dX7_digest_118 : decode cX7_digest 118 = .ok (.iconst 0, 1) := by decide +kernel
theorem dX7_digest_119 : decode cX7_digest 119 = .ok (.istore_n 3, 1) := by decide +kernel
theorem dX7_digest_120 : decode cX7_digest 120 = .ok (.iload_n 3, 1) := by decide +kernel
theorem dX7_digest_121 : decode cX7_digest 121 = .ok (.aload_n 0, 1) := by decide +kernel
theorem dX7_digest_122 : decode cX7_digest 122 = .ok (.getfield 26, 3) := by decide +kernel
theorem dX7_digest_125 : decode cX7_digest 125 = .ok (.invokevirtual 194, 3) := by decide +kernel
theorem dX7_digest_128 : decode cX7_digest 128 = .ok (.if_icmp .ge 23, 3) := by decide +kernel
theorem dX7_digest_131 : decode cX7_digest 131 = .ok (.lload_n 1, 1) := by decide +kernel
theorem dX7_digest_132 : decode cX7_digest 132 = .ok (.aload_n 0, 1) := by decide +kernel
theorem dX7_digest_133 : decode cX7_digest 133 = .ok (.getfield 26, 3) := by decide +kernel
theorem dX7_digest_136 : decode cX7_digest 136 = .ok (.iload_n 3, 1) := by decide +kernel
theorem dX7_digest_137 : decode cX7_digest 137 = .ok (.invokevirtual 296, 3) := by decide +kernel
theorem dX7_digest_140 : decode cX7_digest 140 = .ok (.i2l, 1) := by decide +kernel
theorem dX7_digest_141 : decode cX7_digest 141 = .ok (.invokestatic 293, 3) := by decide +kernel
theorem dX7_digest_144 : decode cX7_digest 144 = .ok (.lstore_n 1, 1) := by decide +kernel
theorem dX7_digest_145 : decode cX7_digest 145 = .ok (.iinc 3 1, 3) := by decide +kernel
theorem dX7_digest_148 : decode cX7_digest 148 = .ok (.goto (-28), 3) := by decide +kernel
theorem dX7_digest_151 : decode cX7_digest 151 = .ok (.lload_n 1, 1) := by decide +kernel
theorem dX7_digest_152 : decode cX7_digest 152 = .ok (.aload_n 0, 1) := by decide +kernel
theorem dX7_digest_153 : decode cX7_digest 153 = .ok (.iconst 3, 1) := by decide +kernel
theorem dX7_digest_154 : decode cX7_digest 154 = .ok (.iconst 0, 1) := by decide +kernel
theorem dX7_digest_155 : decode cX7_digest 155 = .ok (.iconst 0, 1) := by decide +kernel
theorem dX7_digest_156 : decode cX7_digest 156 = .ok (.aload_n 0, 1) := by decide +kernel
theorem dX7_digest_157 : decode cX7_digest 157 = .ok (.getfield 59, 3) := by decide +kernel
theorem dX7_digest_160 : decode cX7_digest 160 = .ok (.invokevirtual 167, 3) := by decide +kernel
theorem dX7_digest_163 : decode cX7_digest 163 = .ok (.i2l, 1) := by decide +kernel
theorem dX7_digest_164 : decode cX7_digest 164 = .ok (.invokestatic 293, 3) := by decide +kernel
theorem dX7_digest_167 : decode cX7_digest 167 = .ok (.aload_n 0, 1) := by decide +kernel
theorem dX7_digest_168 : decode cX7_digest 168 = .ok (.invokevirtual 280, 3) := by decide +kernel
theorem dX7_digest_171 : decode cX7_digest 171 = .ok (.i2l, 1) := by decide +kernel
theorem dX7_digest_172 : decode cX7_digest 172 = .ok (.invokestatic 293, 3) := by decide +kernel
theorem dX7_digest_175 : decode cX7_digest 175 = .ok (.lstore_n 1, 1) := by decide +kernel
theorem dX7_digest_176 : decode cX7_digest 176 = .ok (.lload_n 1, 1) := by decide +kernel
theorem dX7_digest_177 : decode cX7_digest 177 = .ok (.ldc2_w 300, 3) := by decide +kernel
theorem dX7_digest_180 : decode cX7_digest 180 = .ok (.aload_n 0, 1) := by decide +kernel
theorem dX7_digest_181 : decode cX7_digest 181 = .ok (.invokevirtual 276, 3) := by decide +kernel
theorem dX7_digest_184 : decode cX7_digest 184 = .ok (.dmul, 1) := by decide +kernel
theorem dX7_digest_185 : decode cX7_digest 185 = .ok (.d2l, 1) := by decide +kernel
theorem dX7_digest_186 : decode cX7_digest 186 = .ok (.invokestatic 293, 3) := by decide +kernel
theorem dX7_digest_189 : decode cX7_digest 189 = .ok (.lstore_n 1, 1) := by decide +kernel
theorem dX7_digest_190 : decode cX7_digest 190 = .ok (.lload_n 1, 1) := by decide +kernel
theorem dX7_digest_191 : decode cX7_digest 191 = .ok (.aload_n 0, 1) := by decide +kernel
theorem dX7_digest_192 : decode cX7_digest 192 = .ok (.invokevirtual 286, 3) := by decide +kernel
theorem dX7_digest_195 : decode cX7_digest 195 = .ok (.invokestatic 163, 3) := by decide +kernel
theorem dX7_digest_198 : decode cX7_digest 198 = .ok (.i2l, 1) := by decide +kernel
theorem dX7_digest_199 : decode cX7_digest 199 = .ok (.invokestatic 293, 3) := by decide +kernel
theorem dX7_digest_202 : decode cX7_digest 202 = .ok (.lreturn, 1) := by decide +kernel
