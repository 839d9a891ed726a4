theorem dX4_init_0 : decode cX4_init 0 = .ok (.aload_n 0, 1) := by decide +kernel
theorem dX4_init_1 : decode cX4_init 1 = .ok (.invokespecial 1, 3) := by decide +kernel
theorem dX4_init_4 : decode cX4_init 4 = .ok (.aload_n 0, 1) := by decide +kernel
theorem dX4_init_5 : decode cX4_init 5 = .ok (.new 7, 3) := by decide +kernel
theorem dX4_init_8 : decode cX4_init 8 = .ok (.dup, 1) := by decide +kernel
theorem dX4_init_9 : decode cX4_init 9 = .ok (.invokespecial 9, 3) := by decide +kernel
theorem dX4_init_12 : decode cX4_init 12 = .ok (.putfield 10, 3) := by decide +kernel
theorem dX4_init_15 : decode cX4_init 15 = .ok (.aload_n 0, 1) := by decide +kernel
theorem dX4_init_16 : decode cX4_init 16 = .ok (.new 16, 3) := by decide +kernel
theorem dX4_init_19 : decode cX4_init 19 = .ok (.dup, 1) := by decide +kernel
theorem dX4_init_20 : decode cX4_init 20 = .ok (.invokespecial 18, 3) := by decide +kernel
theorem dX4_init_23 : decode cX4_init 23 = .ok (.putfield 19, 3) := by decide +kernel
theorem dX4_init_26 : decode cX4_init 26 = .ok (.aload_n 0, 1) := by decide +kernel
theorem dX4_init_27 : decode cX4_init 27 = .ok (.new 23, 3) := by decide +kernel
theorem dX4_init_30 : decode cX4_init 30 = .ok (.dup, 1) := by decide +kernel
theorem dX4_init_31 : decode cX4_init 31 = .ok (.invokespecial 25, 3) := by decide +kernel
theorem dX4_init_34 : decode cX4_init 34 = .ok (.putfield 26, 3) := by decide +kernel
theorem dX4_init_37 : decode cX4_init 37 = .ok (.aload_n 0, 1) := by decide +kernel
theorem dX4_init_38 : decode cX4_init 38 = .ok (.new 30, 3) := by decide +kernel
theorem dX4_init_41 : decode cX4_init 41 = .ok (.dup, 1) := by decide +kernel
theorem dX4_init_42 : decode cX4_init 42 = .ok (.invokespecial 32, 3) := by decide +kernel
theorem dX4_init_45 : decode cX4_init 45 = .ok (.putfield 33, 3) := by decide +kernel
theorem dX4_init_48 : decode cX4_init 48 = .ok (.aload_n 0, 1) := by decide +kernel
theorem dX4_init_49 : decode cX4_init 49 = .ok (.iconst 0, 1) := by decide +kernel
theorem dX4_init_50 : decode cX4_init 50 = .ok (.putfield 37, 3) := by decide +kernel
theorem dX4_init_53 : decode cX4_init 53 = .ok (.aload_n 0, 1) := by decide +kernel
theorem dX4_init_54 : decode cX4_init 54 = .ok (.iconst 3, 1) := by decide +kernel
theorem dX4_init_55 : decode cX4_init 55 = .ok (.iconst 3, 1) := by decide +kernel
theorem dX4_init_56 : decode cX4_init 56 = .ok (.invokevirtual 41, 3) := by decide +kernel
theorem dX4_init_59 : decode cX4_init 59 = .ok (.return_, 1) := by decide +kernel
theorem dX4_startAnew_0 : decode cX4_startAnew 0 = .ok (.aload_n 0, 1) := by decide +kernel
theorem dX4_startAnew_1 : decode cX4_startAnew 1 = .ok (.getfield 10, 3) := by decide +kernel
theorem dX4_startAnew_4 : decode cX4_startAnew 4 = .ok (.iload_n 1, 1) := by decide +kernel
theorem dX4_startAnew_5 : decode cX4_startAnew 5 = .ok (.iload_n 2, 1) := by decide +kernel
theorem dX4_startAnew_6 : decode cX4_startAnew 6 = .ok (.invokevirtual 45, 3) := by decide +kernel
theorem dX4_startAnew_9 : decode cX4_startAnew 9 = .ok (.aload_n 0, 1) := by decide +kernel
theorem dX4_startAnew_10 : decode cX4_startAnew 10 = .ok (.getfield 19, 3) := by decide +kernel
theorem dX4_startAnew_13 : decode cX4_startAnew 13 = .ok (.invokevirtual 46, 3) := by decide +kernel
theorem dX4_startAnew_16 : decode cX4_startAnew 16 = .ok (.aload_n 0, 1) := by decide +kernel
theorem dX4_startAnew_17 : decode cX4_startAnew 17 = .ok (.getfield 26, 3) := by decide +kernel
theorem dX4_startAnew_20 : decode cX4_startAnew 20 = .ok (.invokevirtual 48, 3) := by decide +kernel
theorem dX4_startAnew_23 : decode cX4_startAnew 23 = .ok (.aload_n 0, 1) := by decide +kernel
theorem dX4_startAnew_24 : decode cX4_startAnew 24 = .ok (.getfield 33, 3) := by decide +kernel
theorem dX4_startAnew_27 : decode cX4_startAnew 27 = .ok (.invokevirtual 49, 3) := by decide +kernel
theorem dX4_startAnew_30 : decode cX4_startAnew 30 = .ok (.aload_n 0, 1) := by decide +kernel
theorem dX4_startAnew_31 : decode cX4_startAnew 31 = .ok (.iconst 0, 1) := by decide +kernel
theorem dX4_startAnew_32 : decode cX4_startAnew 32 = .ok (.putfield 50, 3) := by decide +kernel
theorem dX4_startAnew_35 : decode cX4_startAnew 35 = .ok (.aload_n 0, 1) := by decide +kernel
theorem dX4_startAnew_36 : decode cX4_startAnew 36 = .ok (.iconst 2, 1) := by decide +kernel
theorem dX4_startAnew_37 : decode cX4_startAnew 37 = .ok (.putfield 53, 3) := by decide +kernel
theorem dX4_startAnew_40 : decode cX4_startAnew 40 = .ok (.aload_n 0, 1) := by decide +kernel
theorem dX4_startAnew_41 : decode cX4_startAnew 41 = .ok (.iconst 0, 1) := by decide +kernel
theorem dX4_startAnew_42 : decode cX4_startAnew 42 = .ok (.putfield 56, 3) := by decide +kernel
theorem dX4_startAnew_45 : decode cX4_startAnew 45 = .ok (.aload_n 0, 1) := by decide +kernel
theorem dX4_startAnew_46 : decode cX4_startAnew 46 = .ok (.iconst 0, 1) := by decide +kernel
theorem dX4_startAnew_47 : decode cX4_startAnew 47 = .ok (.putfield 60, 3) := by decide +kernel
theorem dX4_startAnew_50 : decode cX4_startAnew 50 = .ok (.aload_n 0, 1) := by decide +kernel
theorem dX4_startAnew_51 : decode cX4_startAnew 51 = .ok (.iconst 0, 1) := by decide +kernel
theorem dX4_startAnew_52 : decode cX4_startAnew 52 = .ok (.putfield 63, 3) := by decide +kernel
theorem dX4_startAnew_55 : decode cX4_startAnew 55 = .ok (.return_, 1) := by decide +kernel
theorem dX4_lay_0 : decode cX4_lay 0 = .ok (.iload_n 1, 1) := by decide +kernel
theorem dX4_lay_1 : decode cX4_lay 1 = .ok (.invokestatic 66, 3) := by decide +kernel
theorem dX4_lay_4 : decode cX4_lay 4 = .ok (.ifCond .eq 10, 3) := by decide +kernel
theorem dX4_lay_7 : decode cX4_lay 7 = .ok (.iload_n 2, 1) := by decide +kernel
theorem dX4_lay_8 : decode cX4_lay 8 = .ok (.invokestatic 66, 3) := by decide +kernel
theorem dX4_lay_11 : decode cX4_lay 11 = .ok (.ifCond .ne 13, 3) := by decide +kernel
theorem dX4_lay_14 : decode cX4_lay 14 = .ok (.new 70, 3) := by decide +kernel
theorem dX4_lay_17 : decode cX4_lay 17 = .ok (.dup, 1) := by decide +kernel
theorem dX4_lay_18 : decode cX4_lay 18 = .ok (.ldc 72, 2) := by decide +kernel
theorem dX4_lay_20 : decode cX4_lay 20 = .ok (.invokespecial 74, 3) := by decide +kernel
theorem dX4_lay_23 : decode cX4_lay 23 = .ok (.athrow, 1) := by decide +kernel
theorem dX4_lay_24 : decode cX4_lay 24 = .ok (.aload_n 0, 1) := by decide +kernel
theorem dX4_lay_25 : decode cX4_lay 25 = .ok (.iload_n 1, 1) := by decide +kernel
theorem dX4_lay_26 : decode cX4_lay 26 = .ok (.iload_n 2, 1) := by decide +kernel
theorem dX4_lay_27 : decode cX4_lay 27 = .ok (.invokevirtual 41, 3) := by decide +kernel
theorem dX4_lay_30 : decode cX4_lay 30 = .ok (.aload_n 0, 1) := by decide +kernel
theorem dX4_lay_31 : decode cX4_lay 31 = .ok (.getfield 10, 3) := by decide +kernel
theorem dX4_lay_34 : decode cX4_lay 34 = .ok (.getfield 77, 3) := by decide +kernel
theorem dX4_lay_37 : decode cX4_lay 37 = .ok (.ireturn, 1) := by decide +kernel
theorem dX4_isSize_0 : decode cX4_isSize 0 = .ok (.iload_n 0, 1) := by decide +kernel
theorem dX4_isSize_1 : decode cX4_isSize 1 = .ok (.iconst 2, 1) := by decide +kernel
theorem dX4_isSize_2 : decode cX4_isSize 2 = .ok (.if_icmp .lt 12, 3) := by decide +kernel
theorem dX4_isSize_5 : decode cX4_isSize 5 = .ok (.iload_n 0, 1) := by decide +kernel
theorem dX4_isSize_6 : decode cX4_isSize 6 = .ok (.iconst 5, 1) := by decide +kernel
theorem dX4_isSize_7 : decode cX4_isSize 7 = .ok (.if_icmp .gt 7, 3) := by decide +kernel
theorem dX4_isSize_10 : decode cX4_isSize 10 = .ok (.iconst 1, 1) := by decide +kernel
theorem dX4_isSize_11 : decode cX4_isSize 11 = .ok (.goto 4, 3) := by decide +kernel
theorem dX4_isSize_14 : decode cX4_isSize 14 = .ok (.iconst 0, 1) := by decide +kernel
theorem dX4_isSize_15 : decode cX4_isSize 15 = .ok (.ireturn, 1) := by decide +kernel
theorem dX4_key_0 : decode cX4_key 0 = .ok (.aload_n 0, 1) := by decide +kernel
theorem dX4_key_1 : decode cX4_key 1 = .ok (.getfield 10, 3) := by decide +kernel
theorem dX4_key_4 : decode cX4_key 4 = .ok (.iload_n 1, 1) := by decide +kernel
theorem dX4_key_5 : decode cX4_key 5 = .ok (.invokevirtual 80, 3) := by decide +kernel
theorem dX4_key_8 : decode cX4_key 8 = .ok (.ifCond .ne 13, 3) := by decide +kernel
theorem dX4_key_11 : decode cX4_key 11 = .ok (.new 83, 3) := by decide +kernel
theorem dX4_key_14 : decode cX4_key 14 = .ok (.dup, 1) := by decide +kernel
theorem dX4_key_15 : decode cX4_key 15 = .ok (.ldc 85, 2) := by decide +kernel
theorem dX4_key_17 : decode cX4_key 17 = .ok (.invokespecial 87, 3) := by decide +kernel
theorem dX4_key_20 : decode cX4_key 20 = .ok (.athrow, 1) := by decide +kernel
theorem dX4_key_21 : decode cX4_key 21 = .ok (.iload 4, 2) := by decide +kernel
theorem dX4_key_23 : decode cX4_key 23 = .ok (.ifCond .lt 20, 3) := by decide +kernel
theorem dX4_key_26 : decode cX4_key 26 = .ok (.iload 4, 2) := by decide +kernel
theorem dX4_key_28 : decode cX4_key 28 = .ok (.iconst 5, 1) := by decide +kernel
theorem dX4_key_29 : decode cX4_key 29 = .ok (.if_icmp .gt 14, 3) := by decide +kernel
theorem dX4_key_32 : decode cX4_key 32 = .ok (.iload 5, 2) := by decide +kernel
theorem dX4_key_34 : decode cX4_key 34 = .ok (.ifCond .lt 9, 3) := by decide +kernel
theorem dX4_key_37 : decode cX4_key 37 = .ok (.iload 5, 2) := by decide +kernel
theorem dX4_key_39 : decode cX4_key 39 = .ok (.iconst 2, 1) := by decide +kernel
theorem dX4_key_40 : decode cX4_key 40 = .ok (.if_icmp .le 13, 3) := by decide +kernel
theorem dX4_key_43 : decode cX4_key 43 = .ok (.new 70, 3) := by decide +kernel
theorem dX4_key_46 : decode cX4_key 46 = .ok (.dup, 1) := by decide +kernel
theorem dX4_key_47 : decode cX4_key 47 = .ok (.ldc 88, 2) := by decide +kernel
theorem dX4_key_49 : decode cX4_key 49 = .ok (.invokespecial 74, 3) := by decide +kernel
theorem dX4_key_52 : decode cX4_key 52 = .ok (.athrow, 1) := by decide +kernel
theorem dX4_key_53 : decode cX4_key 53 = .ok (.aload_n 0, 1) := by decide +kernel
theorem dX4_key_54 : decode cX4_key 54 = .ok (.getfield 10, 3) := by decide +kernel
theorem dX4_key_57 : decode cX4_key 57 = .ok (.iload_n 1, 1) := by decide +kernel
theorem dX4_key_58 : decode cX4_key 58 = .ok (.iload_n 2, 1) := by decide +kernel
theorem dX4_key_59 : decode cX4_key 59 = .ok (.iload_n 3, 1) := by decide +kernel
theorem dX4_key_60 : decode cX4_key 60 = .ok (.invokevirtual 90, 3) := by decide +kernel
theorem dX4_key_63 : decode cX4_key 63 = .ok (.aload_n 0, 1) := by decide +kernel
theorem dX4_key_64 : decode cX4_key 64 = .ok (.getfield 19, 3) := by decide +kernel
theorem dX4_key_67 : decode cX4_key 67 = .ok (.getfield 94, 3) := by decide +kernel
theorem dX4_key_70 : decode cX4_key 70 = .ok (.iload_n 1, 1) := by decide +kernel
theorem dX4_key_71 : decode cX4_key 71 = .ok (.iload 4, 2) := by decide +kernel
theorem dX4_key_73 : decode cX4_key 73 = .ok (.iastore, 1) := by decide +kernel
theorem dX4_key_74 : decode cX4_key 74 = .ok (.aload_n 0, 1) := by decide +kernel
theorem dX4_key_75 : decode cX4_key 75 = .ok (.getfield 19, 3) := by decide +kernel
theorem dX4_key_78 : decode cX4_key 78 = .ok (.getfield 98, 3) := by decide +kernel
theorem dX4_key_81 : decode cX4_key 81 = .ok (.iload_n 1, 1) := by decide +kernel
theorem dX4_key_82 : decode cX4_key 82 = .ok (.iload 5, 2) := by decide +kernel
theorem dX4_key_84 : decode cX4_key 84 = .ok (.iastore, 1) := by decide +kernel
theorem dX4_key_85 : decode cX4_key 85 = .ok (.iload_n 2, 1) := by decide +kernel
theorem dX4_key_86 : decode cX4_key 86 = .ok (.ifCond .ne 16, 3) := by decide +kernel
theorem dX4_key_89 : decode cX4_key 89 = .ok (.aload_n 0, 1) := by decide +kernel
theorem dX4_key_90 : decode cX4_key 90 = .ok (.getfield 19, 3) := by decide +kernel
theorem dX4_key_93 : decode cX4_key 93 = .ok (.iload_n 1, 1) := by decide +kernel
theorem dX4_key_94 : decode cX4_key 94 = .ok (.iconst 0, 1) := by decide +kernel
theorem dX4_key_95 : decode cX4_key 95 = .ok (.aload_n 0, 1) := by decide +kernel
theorem dX4_key_96 : decode cX4_key 96 = .ok (.getfield 50, 3) := by decide +kernel
theorem dX4_key_99 : decode cX4_key 99 = .ok (.invokevirtual 101, 3) := by decide +kernel
theorem dX4_key_102 : decode cX4_key 102 = .ok (.aload_n 0, 1) := by decide +kernel
theorem dX4_key_103 : decode cX4_key 103 = .ok (.getfield 10, 3) := by decide +kernel
theorem dX4_key_106 : decode cX4_key 106 = .ok (.getfield 105, 3) := by decide +kernel
theorem dX4_key_109 : decode cX4_key 109 = .ok (.invokestatic 108, 3) := by decide +kernel
theorem dX4_key_112 : decode cX4_key 112 = .ok (.ireturn, 1) := by decide +kernel
theorem dX4_line_0 : decode cX4_line 0 = .ok (.iload_n 1, 1) := by decide +kernel
theorem dX4_line_1 : decode cX4_line 1 = .ok (.ifCond .lt 22, 3) := by decide +kernel
theorem dX4_line_4 : decode cX4_line 4 = .ok (.iload_n 1, 1) := by decide +kernel
theorem dX4_line_5 : decode cX4_line 5 = .ok (.aload_n 0, 1) := by decide +kernel
theorem dX4_line_6 : decode cX4_line 6 = .ok (.getfield 10, 3) := by decide +kernel
theorem dX4_line_9 : decode cX4_line 9 = .ok (.getfield 114, 3) := by decide +kernel
theorem dX4_line_12 : decode cX4_line 12 = .ok (.aload_n 0, 1) := by decide +kernel
theorem dX4_line_13 : decode cX4_line 13 = .ok (.getfield 10, 3) := by decide +kernel
theorem dX4_line_16 : decode cX4_line 16 = .ok (.getfield 117, 3) := by decide +kernel
theorem dX4_line_19 : decode cX4_line 19 = .ok (.iadd, 1) := by decide +kernel
theorem dX4_line_20 : decode cX4_line 20 = .ok (.if_icmp .lt 13, 3) := by decide +kernel
theorem dX4_line_23 : decode cX4_line 23 = .ok (.new 83, 3) := by decide +kernel
theorem dX4_line_26 : decode cX4_line 26 = .ok (.dup, 1) := by decide +kernel
theorem dX4_line_27 : decode cX4_line 27 = .ok (.ldc 120, 2) := by decide +kernel
theorem dX4_line_29 : decode cX4_line 29 = .ok (.invokespecial 87, 3) := by decide +kernel
theorem dX4_line_32 : decode cX4_line 32 = .ok (.athrow, 1) := by decide +kernel
theorem dX4_line_33 : decode cX4_line 33 = .ok (.aload_n 0, 1) := by decide +kernel
theorem dX4_line_34 : decode cX4_line 34 = .ok (.getfield 10, 3) := by decide +kernel
theorem dX4_line_37 : decode cX4_line 37 = .ok (.iload_n 1, 1) := by decide +kernel
theorem dX4_line_38 : decode cX4_line 38 = .ok (.iload_n 2, 1) := by decide +kernel
theorem dX4_line_39 : decode cX4_line 39 = .ok (.invokevirtual 122, 3) := by decide +kernel
theorem dX4_line_42 : decode cX4_line 42 = .ok (.aload_n 0, 1) := by decide +kernel
theorem dX4_line_43 : decode cX4_line 43 = .ok (.getfield 10, 3) := by decide +kernel
theorem dX4_line_46 : decode cX4_line 46 = .ok (.getfield 126, 3) := by decide +kernel
theorem dX4_line_49 : decode cX4_line 49 = .ok (.invokestatic 108, 3) := by decide +kernel
theorem dX4_line_52 : decode cX4_line 52 = .ok (.ireturn, 1) := by decide +kernel
theorem dX4_patience_0 : decode cX4_patience 0 = .ok (.iload_n 1, 1) := by decide +kernel
theorem dX4_patience_1 : decode cX4_patience 1 = .ok (.iconst 1, 1) := by decide +kernel
theorem dX4_patience_2 : decode cX4_patience 2 = .ok (.if_icmp .lt 9, 3) := by decide +kernel
theorem dX4_patience_5 : decode cX4_patience 5 = .ok (.iload_n 1, 1) := by decide +kernel
theorem dX4_patience_6 : decode cX4_patience 6 = .ok (.bipush 6, 2) := by decide +kernel
theorem dX4_patience_8 : decode cX4_patience 8 = .ok (.if_icmp .le 13, 3) := by decide +kernel
theorem dX4_patience_11 : decode cX4_patience 11 = .ok (.new 70, 3) := by decide +kernel
theorem dX4_patience_14 : decode cX4_patience 14 = .ok (.dup, 1) := by decide +kernel
theorem dX4_patience_15 : decode cX4_patience 15 = .ok (.ldc 129, 2) := by decide +kernel
theorem dX4_patience_17 : decode cX4_patience 17 = .ok (.invokespecial 74, 3) := by decide +kernel
theorem dX4_patience_20 : decode cX4_patience 20 = .ok (.athrow, 1) := by decide +kernel
theorem dX4_patience_21 : decode cX4_patience 21 = .ok (.aload_n 0, 1) := by decide +kernel
theorem dX4_patience_22 : decode cX4_patience 22 = .ok (.getfield 53, 3) := by decide +kernel
theorem dX4_patience_25 : decode cX4_patience 25 = .ok (.istore_n 3, 1) := by decide +kernel
theorem dX4_patience_26 : decode cX4_patience 26 = .ok (.aload_n 0, 1) := by decide +kernel
theorem dX4_patience_27 : decode cX4_patience 27 = .ok (.iload_n 1, 1) := by decide +kernel
theorem dX4_patience_28 : decode cX4_patience 28 = .ok (.putfield 53, 3) := by decide +kernel
theorem dX4_patience_31 : decode cX4_patience 31 = .ok (.aload_n 0, 1) := by decide +kernel
theorem dX4_patience_32 : decode cX4_patience 32 = .ok (.iload_n 2, 1) := by decide +kernel
theorem dX4_patience_33 : decode cX4_patience 33 = .ok (.putfield 56, 3) := by decide +kernel
theorem dX4_patience_36 : decode cX4_patience 36 = .ok (.iload_n 3, 1) := by decide +kernel
theorem dX4_patience_37 : decode cX4_patience 37 = .ok (.ireturn, 1) := by decide +kernel
theorem dX4_code_0 : decode cX4_code 0 = .ok (.aload_n 0, 1) := by decide +kernel
theorem dX4_code_1 : decode cX4_code 1 = .ok (.getfield 10, 3) := by decide +kernel
theorem dX4_code_4 : decode cX4_code 4 = .ok (.iload_n 2, 1) := by decide +kernel
theorem dX4_code_5 : decode cX4_code 5 = .ok (.invokevirtual 80, 3) := by decide +kernel
theorem dX4_code_8 : decode cX4_code 8 = .ok (.ifCond .ne 13, 3) := by decide +kernel
theorem dX4_code_11 : decode cX4_code 11 = .ok (.new 83, 3) := by decide +kernel
theorem dX4_code_14 : decode cX4_code 14 = .ok (.dup, 1) := by decide +kernel
theorem dX4_code_15 : decode cX4_code 15 = .ok (.ldc 85, 2) := by decide +kernel
theorem dX4_code_17 : decode cX4_code 17 = .ok (.invokespecial 87, 3) := by decide +kernel
theorem dX4_code_20 : decode cX4_code 20 = .ok (.athrow, 1) := by decide +kernel
theorem dX4_code_21 : decode cX4_code 21 = .ok (.iload_n 1, 1) := by decide +kernel
theorem dX4_code_22 : decode cX4_code 22 = .ok (.ifCond .lt 18, 3) := by decide +kernel
theorem dX4_code_25 : decode cX4_code 25 = .ok (.iload_n 1, 1) := by decide +kernel
theorem dX4_code_26 : decode cX4_code 26 = .ok (.iconst 3, 1) := by decide +kernel
theorem dX4_code_27 : decode cX4_code 27 = .ok (.if_icmp .ge 13, 3) := by decide +kernel
theorem dX4_code_30 : decode cX4_code 30 = .ok (.iload_n 3, 1) := by decide +kernel
theorem dX4_code_31 : decode cX4_code 31 = .ok (.ifCond .lt 9, 3) := by decide +kernel
theorem dX4_code_34 : decode cX4_code 34 = .ok (.iload_n 3, 1) := by decide +kernel
theorem dX4_code_35 : decode cX4_code 35 = .ok (.bipush 31, 2) := by decide +kernel
theorem dX4_code_37 : decode cX4_code 37 = .ok (.if_icmp .le 13, 3) := by decide +kernel
theorem dX4_code_40 : decode cX4_code 40 = .ok (.new 70, 3) := by decide +kernel
theorem dX4_code_43 : decode cX4_code 43 = .ok (.dup, 1) := by decide +kernel
theorem dX4_code_44 : decode cX4_code 44 = .ok (.ldc 131, 2) := by decide +kernel
theorem dX4_code_46 : decode cX4_code 46 = .ok (.invokespecial 74, 3) := by decide +kernel
theorem dX4_code_49 : decode cX4_code 49 = .ok (.athrow, 1) := by decide +kernel
theorem dX4_code_50 : decode cX4_code 50 = .ok (.iload_n 1, 1) := by decide +kernel
theorem dX4_code_51 : decode cX4_code 51 = .ok (.bipush 25, 2) := by decide +kernel
theorem dX4_code_53 : decode cX4_code 53 = .ok (.imul, 1) := by decide +kernel
theorem dX4_code_54 : decode cX4_code 54 = .ok (.iload_n 2, 1) := by decide +kernel
theorem dX4_code_55 : decode cX4_code 55 = .ok (.iadd, 1) := by decide +kernel
theorem dX4_code_56 : decode cX4_code 56 = .ok (.istore 4, 2) := by decide +kernel
theorem dX4_code_58 : decode cX4_code 58 = .ok (.aload_n 0, 1) := by decide +kernel
theorem dX4_code_59 : decode cX4_code 59 = .ok (.getfield 33, 3) := by decide +kernel
theorem dX4_code_62 : decode cX4_code 62 = .ok (.getfield 133, 3) := by decide +kernel
theorem dX4_code_65 : decode cX4_code 65 = .ok (.iload 4, 2) := by decide +kernel
theorem dX4_code_67 : decode cX4_code 67 = .ok (.iaload, 1) := by decide +kernel
theorem dX4_code_68 : decode cX4_code 68 = .ok (.istore 5, 2) := by decide +kernel
theorem dX4_code_70 : decode cX4_code 70 = .ok (.aload_n 0, 1) := by decide +kernel
theorem dX4_code_71 : decode cX4_code 71 = .ok (.getfield 33, 3) := by decide +kernel
theorem dX4_code_74 : decode cX4_code 74 = .ok (.getfield 133, 3) := by decide +kernel
theorem dX4_code_77 : decode cX4_code 77 = .ok (.iload 4, 2) := by decide +kernel
theorem dX4_code_79 : decode cX4_code 79 = .ok (.iload_n 3, 1) := by decide +kernel
theorem dX4_code_80 : decode cX4_code 80 = .ok (.iastore, 1) := by decide +kernel
theorem dX4_code_81 : decode cX4_code 81 = .ok (.iload 5, 2) := by decide +kernel
theorem dX4_code_83 : decode cX4_code 83 = .ok (.ireturn, 1) := by decide +kernel
theorem dX4_chord_0 : decode cX4_chord 0 = .ok (.iload_n 1, 1) := by decide +kernel
theorem dX4_chord_1 : decode cX4_chord 1 = .ok (.invokestatic 108, 3) := by decide +kernel
theorem dX4_chord_4 : decode cX4_chord 4 = .ok (.istore_n 3, 1) := by decide +kernel
theorem dX4_chord_5 : decode cX4_chord 5 = .ok (.aload_n 0, 1) := by decide +kernel
theorem dX4_chord_6 : decode cX4_chord 6 = .ok (.getfield 10, 3) := by decide +kernel
theorem dX4_chord_9 : decode cX4_chord 9 = .ok (.iload_n 1, 1) := by decide +kernel
theorem dX4_chord_10 : decode cX4_chord 10 = .ok (.invokevirtual 136, 3) := by decide +kernel
theorem dX4_chord_13 : decode cX4_chord 13 = .ok (.ifCond .eq 17, 3) := by decide +kernel
theorem dX4_chord_16 : decode cX4_chord 16 = .ok (.iload_n 3, 1) := by decide +kernel
theorem dX4_chord_17 : decode cX4_chord 17 = .ok (.iconst 2, 1) := by decide +kernel
theorem dX4_chord_18 : decode cX4_chord 18 = .ok (.if_icmp .lt 12, 3) := by decide +kernel
theorem dX4_chord_21 : decode cX4_chord 21 = .ok (.iload_n 3, 1) := by decide +kernel
theorem dX4_chord_22 : decode cX4_chord 22 = .ok (.iconst 3, 1) := by decide +kernel
theorem dX4_chord_23 : decode cX4_chord 23 = .ok (.if_icmp .gt 7, 3) := by decide +kernel
theorem dX4_chord_26 : decode cX4_chord 26 = .ok (.iconst 1, 1) := by decide +kernel
theorem dX4_chord_27 : decode cX4_chord 27 = .ok (.goto 4, 3) := by decide +kernel
theorem dX4_chord_30 : decode cX4_chord 30 = .ok (.iconst 0, 1) := by decide +kernel
theorem dX4_chord_31 : decode cX4_chord 31 = .ok (.istore 4, 2) := by decide +kernel
theorem dX4_chord_33 : decode cX4_chord 33 = .ok (.iload 4, 2) := by decide +kernel
theorem dX4_chord_35 : decode cX4_chord 35 = .ok (.ifCond .eq 13, 3) := by decide +kernel
theorem dX4_chord_38 : decode cX4_chord 38 = .ok (.iload_n 2, 1) := by decide +kernel
theorem dX4_chord_39 : decode cX4_chord 39 = .ok (.ifCond .lt 9, 3) := by decide +kernel
theorem dX4_chord_42 : decode cX4_chord 42 = .ok (.iload_n 2, 1) := by decide +kernel
theorem dX4_chord_43 : decode cX4_chord 43 = .ok (.bipush 26, 2) := by decide +kernel
theorem dX4_chord_45 : decode cX4_chord 45 = .ok (.if_icmp .lt 13, 3) := by decide +kernel
theorem dX4_chord_48 : decode cX4_chord 48 = .ok (.new 70, 3) := by decide +kernel
theorem dX4_chord_51 : decode cX4_chord 51 = .ok (.dup, 1) := by decide +kernel
theorem dX4_chord_52 : decode cX4_chord 52 = .ok (.ldc 139, 2) := by decide +kernel
theorem dX4_chord_54 : decode cX4_chord 54 = .ok (.invokespecial 74, 3) := by decide +kernel
theorem dX4_chord_57 : decode cX4_chord 57 = .ok (.athrow, 1) := by decide +kernel
theorem dX4_chord_58 : decode cX4_chord 58 = .ok (.aload_n 0, 1) := by decide +kernel
theorem dX4_chord_59 : decode cX4_chord 59 = .ok (.getfield 33, 3) := by decide +kernel
theorem dX4_chord_62 : decode cX4_chord 62 = .ok (.getfield 141, 3) := by decide +kernel
theorem dX4_chord_65 : decode cX4_chord 65 = .ok (.bipush 6, 2) := by decide +kernel
theorem dX4_chord_67 : decode cX4_chord 67 = .ok (.if_icmp .lt 13, 3) := by decide +kernel
theorem dX4_chord_70 : decode cX4_chord 70 = .ok (.new 144, 3) := by decide +kernel
theorem dX4_chord_73 : decode cX4_chord 73 = .ok (.dup, 1) := by decide +kernel
theorem dX4_chord_74 : decode cX4_chord 74 = .ok (.ldc 146, 2) := by decide +kernel
theorem dX4_chord_76 : decode cX4_chord 76 = .ok (.invokespecial 148, 3) := by decide +kernel
theorem dX4_chord_79 : decode cX4_chord 79 = .ok (.athrow, 1) := by decide +kernel
theorem dX4_chord_80 : decode cX4_chord 80 = .ok (.aload_n 0, 1) := by decide +kernel
theorem dX4_chord_81 : decode cX4_chord 81 = .ok (.getfield 33, 3) := by decide +kernel
theorem dX4_chord_84 : decode cX4_chord 84 = .ok (.iload_n 1, 1) := by decide +kernel
theorem dX4_chord_85 : decode cX4_chord 85 = .ok (.iload_n 2, 1) := by decide +kernel
theorem dX4_chord_86 : decode cX4_chord 86 = .ok (.invokevirtual 149, 3) := by decide +kernel
theorem dX4_chord_89 : decode cX4_chord 89 = .ok (.ireturn, 1) := by decide +kernel
theorem dX4_hold_0 : decode cX4_hold 0 = .ok (.aload_n 0, 1) := by decide +kernel
theorem dX4_hold_1 : decode cX4_hold 1 = .ok (.getfield 10, 3) := by decide +kernel
theorem dX4_hold_4 : decode cX4_hold 4 = .ok (.iload_n 1, 1) := by decide +kernel
theorem dX4_hold_5 : decode cX4_hold 5 = .ok (.invokevirtual 80, 3) := by decide +kernel
theorem dX4_hold_8 : decode cX4_hold 8 = .ok (.ifCond .ne 13, 3) := by decide +kernel
theorem dX4_hold_11 : decode cX4_hold 11 = .ok (.new 83, 3) := by decide +kernel
theorem dX4_hold_14 : decode cX4_hold 14 = .ok (.dup, 1) := by decide +kernel
theorem dX4_hold_15 : decode cX4_hold 15 = .ok (.ldc 85, 2) := by decide +kernel
theorem dX4_hold_17 : decode cX4_hold 17 = .ok (.invokespecial 87, 3) := by decide +kernel
theorem dX4_hold_20 : decode cX4_hold 20 = .ok (.athrow, 1) := by decide +kernel
theorem dX4_hold_21 : decode cX4_hold 21 = .ok (.aload_n 0, 1) := by decide +kernel
theorem dX4_hold_22 : decode cX4_hold 22 = .ok (.getfield 10, 3) := by decide +kernel
theorem dX4_hold_25 : decode cX4_hold 25 = .ok (.getfield 105, 3) := by decide +kernel
theorem dX4_hold_28 : decode cX4_hold 28 = .ok (.iload_n 1, 1) := by decide +kernel
theorem dX4_hold_29 : decode cX4_hold 29 = .ok (.invokestatic 153, 3) := by decide +kernel
theorem dX4_hold_32 : decode cX4_hold 32 = .ok (.ifCond .ne 13, 3) := by decide +kernel
theorem dX4_hold_35 : decode cX4_hold 35 = .ok (.new 144, 3) := by decide +kernel
theorem dX4_hold_38 : decode cX4_hold 38 = .ok (.dup, 1) := by decide +kernel
theorem dX4_hold_39 : decode cX4_hold 39 = .ok (.ldc 157, 2) := by decide +kernel
theorem dX4_hold_41 : decode cX4_hold 41 = .ok (.invokespecial 148, 3) := by decide +kernel
theorem dX4_hold_44 : decode cX4_hold 44 = .ok (.athrow, 1) := by decide +kernel
theorem dX4_hold_45 : decode cX4_hold 45 = .ok (.aload_n 0, 1) := by decide +kernel
theorem dX4_hold_46 : decode cX4_hold 46 = .ok (.getfield 19, 3) := by decide +kernel
theorem dX4_hold_49 : decode cX4_hold 49 = .ok (.iload_n 1, 1) := by decide +kernel
theorem dX4_hold_50 : decode cX4_hold 50 = .ok (.iload_n 2, 1) := by decide +kernel
theorem dX4_hold_51 : decode cX4_hold 51 = .ok (.aload_n 0, 1) := by decide +kernel
theorem dX4_hold_52 : decode cX4_hold 52 = .ok (.getfield 50, 3) := by decide +kernel
theorem dX4_hold_55 : decode cX4_hold 55 = .ok (.invokevirtual 101, 3) := by decide +kernel
theorem dX4_hold_58 : decode cX4_hold 58 = .ok (.aload_n 0, 1) := by decide +kernel
theorem dX4_hold_59 : decode cX4_hold 59 = .ok (.getfield 19, 3) := by decide +kernel
theorem dX4_hold_62 : decode cX4_hold 62 = .ok (.getfield 159, 3) := by decide +kernel
theorem dX4_hold_65 : decode cX4_hold 65 = .ok (.invokestatic 108, 3) := by decide +kernel
theorem dX4_hold_68 : decode cX4_hold 68 = .ok (.ireturn, 1) := by decide +kernel
theorem dX4_scan_0 : decode cX4_scan 0 = .ok (.iload_n 1, 1) := by decide +kernel
theorem dX4_scan_1 : decode cX4_scan 1 = .ok (.iconst 1, 1) := by decide +kernel
theorem dX4_scan_2 : decode cX4_scan 2 = .ok (.if_icmp .lt 9, 3) := by decide +kernel
theorem dX4_scan_5 : decode cX4_scan 5 = .ok (.iload_n 1, 1) := by decide +kernel
theorem dX4_scan_6 : decode cX4_scan 6 = .ok (.bipush 50, 2) := by decide +kernel
theorem dX4_scan_8 : decode cX4_scan 8 = .ok (.if_icmp .le 13, 3) := by decide +kernel
theorem dX4_scan_11 : decode cX4_scan 11 = .ok (.new 70, 3) := by decide +kernel
theorem dX4_scan_14 : decode cX4_scan 14 = .ok (.dup, 1) := by decide +kernel
theorem dX4_scan_15 : decode cX4_scan 15 = .ok (.ldc 162, 2) := by decide +kernel
theorem dX4_scan_17 : decode cX4_scan 17 = .ok (.invokespecial 74, 3) := by decide +kernel
theorem dX4_scan_20 : decode cX4_scan 20 = .ok (.athrow, 1) := by decide +kernel
theorem dX4_scan_21 : decode cX4_scan 21 = .ok (.aload_n 0, 1) := by decide +kernel
theorem dX4_scan_22 : decode cX4_scan 22 = .ok (.getfield 50, 3) := by decide +kernel
theorem dX4_scan_25 : decode cX4_scan 25 = .ok (.iload_n 1, 1) := by decide +kernel
theorem dX4_scan_26 : decode cX4_scan 26 = .ok (.iadd, 1) := by decide +kernel
theorem dX4_scan_27 : decode cX4_scan 27 = .ok (.sipush 2000, 3) := by decide +kernel
theorem dX4_scan_30 : decode cX4_scan 30 = .ok (.if_icmp .le 13, 3) := by decide +kernel
theorem dX4_scan_33 : decode cX4_scan 33 = .ok (.new 144, 3) := by decide +kernel
theorem dX4_scan_36 : decode cX4_scan 36 = .ok (.dup, 1) := by decide +kernel
theorem dX4_scan_37 : decode cX4_scan 37 = .ok (.ldc 164, 2) := by decide +kernel
theorem dX4_scan_39 : decode cX4_scan 39 = .ok (.invokespecial 148, 3) := by decide +kernel
theorem dX4_scan_42 : decode cX4_scan 42 = .ok (.athrow, 1) := by decide +kernel
theorem dX4_scan_43 : decode cX4_scan 43 = .ok (.aload_n 0, 1) := by decide +kernel
theorem dX4_scan_44 : decode cX4_scan 44 = .ok (.getfield 26, 3) := by decide +kernel
theorem dX4_scan_47 : decode cX4_scan 47 = .ok (.getfield 166, 3) := by decide +kernel
theorem dX4_scan_50 : decode cX4_scan 50 = .ok (.istore_n 2, 1) := by decide +kernel
theorem dX4_scan_51 : decode cX4_scan 51 = .ok (.iconst 0, 1) := by decide +kernel
theorem dX4_scan_52 : decode cX4_scan 52 = .ok (.istore_n 3, 1) := by decide +kernel
theorem dX4_scan_53 : decode cX4_scan 53 = .ok (.iload_n 3, 1) := by decide +kernel
theorem dX4_scan_54 : decode cX4_scan 54 = .ok (.iload_n 1, 1) := by decide +kernel
theorem dX4_scan_55 : decode cX4_scan 55 = .ok (.if_icmp .ge 13, 3) := by decide +kernel
theorem dX4_scan_58 : decode cX4_scan 58 = .ok (.aload_n 0, 1) := by decide +kernel
theorem dX4_scan_59 : decode cX4_scan 59 = .ok (.invokevirtual 169, 3) := by decide +kernel
theorem dX4_scan_62 : decode cX4_scan 62 = .ok (.iinc 3 1, 3) := by decide +kernel
theorem dX4_scan_65 : decode cX4_scan 65 = .ok (.goto (-12), 3) := by decide +kernel
theorem dX4_scan_68 : decode cX4_scan 68 = .ok (.aload_n 0, 1) := by decide +kernel
theorem dX4_scan_69 : decode cX4_scan 69 = .ok (.getfield 26, 3) := by decide +kernel
theorem dX4_scan_72 : decode cX4_scan 72 = .ok (.getfield 166, 3) := by decide +kernel
theorem dX4_scan_75 : decode cX4_scan 75 = .ok (.iload_n 2, 1) := by decide +kernel
theorem dX4_scan_76 : decode cX4_scan 76 = .ok (.isub, 1) := by decide +kernel
theorem dX4_scan_77 : decode cX4_scan 77 = .ok (.ireturn, 1) := by decide +kernel
theorem dX4_scanOnce_0 : decode cX4_scanOnce 0 = .ok (.aload_n 0, 1) := by decide +kernel
theorem dX4_scanOnce_1 : decode cX4_scanOnce 1 = .ok (.dup, 1) := by decide +kernel
theorem dX4_scanOnce_2 : decode cX4_scanOnce 2 = .ok (.getfield 50, 3) := by decide +kernel
theorem dX4_scanOnce_5 : decode cX4_scanOnce 5 = .ok (.iconst 1, 1) := by decide +kernel
theorem dX4_scanOnce_6 : decode cX4_scanOnce 6 = .ok (.iadd, 1) := by decide +kernel
theorem dX4_scanOnce_7 : decode cX4_scanOnce 7 = .ok (.putfield 50, 3) := by decide +kernel
theorem dX4_scanOnce_10 : decode cX4_scanOnce 10 = .ok (.aload_n 0, 1) := by decide +kernel
theorem dX4_scanOnce_11 : decode cX4_scanOnce 11 = .ok (.aload_n 0, 1) := by decide +kernel
theorem dX4_scanOnce_12 : decode cX4_scanOnce 12 = .ok (.getfield 19, 3) := by decide +kernel
theorem dX4_scanOnce_15 : decode cX4_scanOnce 15 = .ok (.aload_n 0, 1) := by decide +kernel
theorem dX4_scanOnce_16 : decode cX4_scanOnce 16 = .ok (.getfield 10, 3) := by decide +kernel
theorem dX4_scanOnce_19 : decode cX4_scanOnce 19 = .ok (.getfield 105, 3) := by decide +kernel
theorem dX4_scanOnce_22 : decode cX4_scanOnce 22 = .ok (.aload_n 0, 1) := by decide +kernel
theorem dX4_scanOnce_23 : decode cX4_scanOnce 23 = .ok (.getfield 10, 3) := by decide +kernel
theorem dX4_scanOnce_26 : decode cX4_scanOnce 26 = .ok (.getfield 77, 3) := by decide +kernel
theorem dX4_scanOnce_29 : decode cX4_scanOnce 29 = .ok (.invokevirtual 172, 3) := by decide +kernel
theorem dX4_scanOnce_32 : decode cX4_scanOnce 32 = .ok (.putfield 60, 3) := by decide +kernel
theorem dX4_scanOnce_35 : decode cX4_scanOnce 35 = .ok (.aload_n 0, 1) := by decide +kernel
theorem dX4_scanOnce_36 : decode cX4_scanOnce 36 = .ok (.aload_n 0, 1) := by decide +kernel
theorem dX4_scanOnce_37 : decode cX4_scanOnce 37 = .ok (.getfield 10, 3) := by decide +kernel
theorem dX4_scanOnce_40 : decode cX4_scanOnce 40 = .ok (.aload_n 0, 1) := by decide +kernel
theorem dX4_scanOnce_41 : decode cX4_scanOnce 41 = .ok (.getfield 60, 3) := by decide +kernel
theorem dX4_scanOnce_44 : decode cX4_scanOnce 44 = .ok (.invokevirtual 175, 3) := by decide +kernel
theorem dX4_scanOnce_47 : decode cX4_scanOnce 47 = .ok (.putfield 63, 3) := by decide +kernel
theorem dX4_scanOnce_50 : decode cX4_scanOnce 50 = .ok (.iconst 0, 1) := by decide +kernel
theorem dX4_scanOnce_51 : decode cX4_scanOnce 51 = .ok (.istore_n 1, 1) := by decide +kernel
theorem dX4_scanOnce_52 : decode cX4_scanOnce 52 = .ok (.iload_n 1, 1) := by decide +kernel
theorem dX4_scanOnce_53 : decode cX4_scanOnce 53 = .ok (.aload_n 0, 1) := by decide +kernel
theorem dX4_scanOnce_54 : decode cX4_scanOnce 54 = .ok (.getfield 10, 3) := by decide +kernel
theorem dX4_scanOnce_57 : decode cX4_scanOnce 57 = .ok (.getfield 77, 3) := by decide +kernel
theorem dX4_scanOnce_60 : decode cX4_scanOnce 60 = .ok (.if_icmp .ge 37, 3) := by decide +kernel
theorem dX4_scanOnce_63 : decode cX4_scanOnce 63 = .ok (.aload_n 0, 1) := by decide +kernel
theorem dX4_scanOnce_64 : decode cX4_scanOnce 64 = .ok (.getfield 26, 3) := by decide +kernel
theorem dX4_scanOnce_67 : decode cX4_scanOnce 67 = .ok (.iload_n 1, 1) := by decide +kernel
theorem dX4_scanOnce_68 : decode cX4_scanOnce 68 = .ok (.aload_n 0, 1) := by decide +kernel
theorem dX4_scanOnce_69 : decode cX4_scanOnce 69 = .ok (.getfield 63, 3) := by decide +kernel
theorem dX4_scanOnce_72 : decode cX4_scanOnce 72 = .ok (.iload_n 1, 1) := by decide +kernel
theorem dX4_scanOnce_73 : decode cX4_scanOnce 73 = .ok (.invokestatic 153, 3) := by decide +kernel
theorem dX4_scanOnce_76 : decode cX4_scanOnce 76 = .ok (.aload_n 0, 1) := by decide +kernel
theorem dX4_scanOnce_77 : decode cX4_scanOnce 77 = .ok (.getfield 53, 3) := by decide +kernel
theorem dX4_scanOnce_80 : decode cX4_scanOnce 80 = .ok (.invokevirtual 178, 3) := by decide +kernel
theorem dX4_scanOnce_83 : decode cX4_scanOnce 83 = .ok (.ifCond .eq 8, 3) := by decide +kernel
theorem dX4_scanOnce_86 : decode cX4_scanOnce 86 = .ok (.aload_n 0, 1) := by decide +kernel
theorem dX4_scanOnce_87 : decode cX4_scanOnce 87 = .ok (.iload_n 1, 1) := by decide +kernel
theorem dX4_scanOnce_88 : decode cX4_scanOnce 88 = .ok (.invokevirtual 182, 3) := by decide +kernel
theorem dX4_scanOnce_91 : decode cX4_scanOnce 91 = .ok (.iinc 1 1, 3) := by decide +kernel
theorem dX4_scanOnce_94 : decode cX4_scanOnce 94 = .ok (.goto (-42), 3) := by decide +kernel
theorem dX4_scanOnce_97 : decode cX4_scanOnce 97 = .ok (.aload_n 0, 1) := by decide +kernel
theorem dX4_scanOnce_98 : decode cX4_scanOnce 98 = .ok (.getfield 33, 3) := by decide +kernel
theorem dX4_scanOnce_101 : decode cX4_scanOnce 101 = .ok (.aload_n 0, 1) := by decide +kernel
theorem dX4_scanOnce_102 : decode cX4_scanOnce 102 = .ok (.getfield 50, 3) := by decide +kernel
theorem dX4_scanOnce_105 : decode cX4_scanOnce 105 = .ok (.invokevirtual 186, 3) := by decide +kernel
theorem dX4_scanOnce_108 : decode cX4_scanOnce 108 = .ok (.return_, 1) := by decide +kernel
theorem dX4_changeOrWait_0 : decode cX4_changeOrWait 0 = .ok (.aload_n 0, 1) := by decide +kernel
theorem dX4_changeOrWait_1 : decode cX4_changeOrWait 1 = .ok (.getfield 26, 3) := by decide +kernel
theorem dX4_changeOrWait_4 : decode cX4_changeOrWait 4 = .ok (.getfield 189, 3) := by decide +kernel
theorem dX4_changeOrWait_7 : decode cX4_changeOrWait 7 = .ok (.iload_n 1, 1) := by decide +kernel
theorem dX4_changeOrWait_8 : decode cX4_changeOrWait 8 = .ok (.invokestatic 153, 3) := by decide +kernel
theorem dX4_changeOrWait_11 : decode cX4_changeOrWait 11 = .ok (.ifCond .ne 7, 3) := by decide +kernel
theorem dX4_changeOrWait_14 : decode cX4_changeOrWait 14 = .ok (.iconst 1, 1) := by decide +kernel
theorem dX4_changeOrWait_15 : decode cX4_changeOrWait 15 = .ok (.goto 4, 3) := by decide +kernel
theorem dX4_changeOrWait_18 : decode cX4_changeOrWait 18 = .ok (.iconst 0, 1) := by decide +kernel
theorem dX4_changeOrWait_19 : decode cX4_changeOrWait 19 = .ok (.istore_n 2, 1) := by decide +kernel
theorem dX4_changeOrWait_20 : decode cX4_changeOrWait 20 = .ok (.iload_n 2, 1) := by decide +kernel
theorem dX4_changeOrWait_21 : decode cX4_changeOrWait 21 = .ok (.ifCond .eq 32, 3) := by decide +kernel
theorem dX4_changeOrWait_24 : decode cX4_changeOrWait 24 = .ok (.aload_n 0, 1) := by decide +kernel
theorem dX4_changeOrWait_25 : decode cX4_changeOrWait 25 = .ok (.getfield 56, 3) := by decide +kernel
theorem dX4_changeOrWait_28 : decode cX4_changeOrWait 28 = .ok (.ifCond .eq 25, 3) := by decide +kernel
theorem dX4_changeOrWait_31 : decode cX4_changeOrWait 31 = .ok (.aload_n 0, 1) := by decide +kernel
theorem dX4_changeOrWait_32 : decode cX4_changeOrWait 32 = .ok (.iload_n 1, 1) := by decide +kernel
theorem dX4_changeOrWait_33 : decode cX4_changeOrWait 33 = .ok (.invokevirtual 192, 3) := by decide +kernel
theorem dX4_changeOrWait_36 : decode cX4_changeOrWait 36 = .ok (.ifCond .eq 17, 3) := by decide +kernel
theorem dX4_changeOrWait_39 : decode cX4_changeOrWait 39 = .ok (.aload_n 0, 1) := by decide +kernel
theorem dX4_changeOrWait_40 : decode cX4_changeOrWait 40 = .ok (.getfield 26, 3) := by decide +kernel
theorem dX4_changeOrWait_43 : decode cX4_changeOrWait 43 = .ok (.getfield 195, 3) := by decide +kernel
theorem dX4_changeOrWait_46 : decode cX4_changeOrWait 46 = .ok (.iload_n 1, 1) := by decide +kernel
theorem dX4_changeOrWait_47 : decode cX4_changeOrWait 47 = .ok (.aload_n 0, 1) := by decide +kernel
theorem dX4_changeOrWait_48 : decode cX4_changeOrWait 48 = .ok (.getfield 53, 3) := by decide +kernel
theorem dX4_changeOrWait_51 : decode cX4_changeOrWait 51 = .ok (.iastore, 1) := by decide +kernel
theorem dX4_changeOrWait_52 : decode cX4_changeOrWait 52 = .ok (.return_, 1) := by decide +kernel
theorem dX4_changeOrWait_53 : decode cX4_changeOrWait 53 = .ok (.aload_n 0, 1) := by decide +kernel
theorem dX4_changeOrWait_54 : decode cX4_changeOrWait 54 = .ok (.getfield 26, 3) := by decide +kernel
theorem dX4_changeOrWait_57 : decode cX4_changeOrWait 57 = .ok (.iload_n 1, 1) := by decide +kernel
theorem dX4_changeOrWait_58 : decode cX4_changeOrWait 58 = .ok (.aload_n 0, 1) := by decide +kernel
theorem dX4_changeOrWait_59 : decode cX4_changeOrWait 59 = .ok (.getfield 50, 3) := by decide +kernel
theorem dX4_changeOrWait_62 : decode cX4_changeOrWait 62 = .ok (.invokevirtual 198, 3) := by decide +kernel
theorem dX4_changeOrWait_65 : decode cX4_changeOrWait 65 = .ok (.iload_n 2, 1) := by decide +kernel
theorem dX4_changeOrWait_66 : decode cX4_changeOrWait 66 = .ok (.ifCond .eq 18, 3) := by decide +kernel
theorem dX4_changeOrWait_69 : decode cX4_changeOrWait 69 = .ok (.aload_n 0, 1) := by decide +kernel
theorem dX4_changeOrWait_70 : decode cX4_changeOrWait 70 = .ok (.getfield 33, 3) := by decide +kernel
theorem dX4_changeOrWait_73 : decode cX4_changeOrWait 73 = .ok (.iload_n 1, 1) := by decide +kernel
theorem dX4_changeOrWait_74 : decode cX4_changeOrWait 74 = .ok (.aload_n 0, 1) := by decide +kernel
theorem dX4_changeOrWait_75 : decode cX4_changeOrWait 75 = .ok (.getfield 50, 3) := by decide +kernel
theorem dX4_changeOrWait_78 : decode cX4_changeOrWait 78 = .ok (.invokevirtual 201, 3) := by decide +kernel
theorem dX4_changeOrWait_81 : decode cX4_changeOrWait 81 = .ok (.goto 11, 3) := by decide +kernel
theorem dX4_changeOrWait_84 : decode cX4_changeOrWait 84 = .ok (.aload_n 0, 1) := by decide +kernel
theorem dX4_changeOrWait_85 : decode cX4_changeOrWait 85 = .ok (.getfield 33, 3) := by decide +kernel
theorem dX4_changeOrWait_88 : decode cX4_changeOrWait 88 = .ok (.iload_n 1, 1) := by decide +kernel
theorem dX4_changeOrWait_89 : decode cX4_changeOrWait 89 = .ok (.invokevirtual 204, 3) := by decide +kernel
theorem dX4_changeOrWait_92 : decode cX4_changeOrWait 92 = .ok (.return_, 1) := by decide +kernel
theorem dX4_couldBeGhost_0 : decode cX4_couldBeGhost 0 = .ok (.aload_n 0, 1) := by decide +kernel
theorem dX4_couldBeGhost_1 : decode cX4_couldBeGhost 1 = .ok (.getfield 10, 3) := by decide +kernel
theorem dX4_couldBeGhost_4 : decode cX4_couldBeGhost 4 = .ok (.aload_n 0, 1) := by decide +kernel
theorem dX4_couldBeGhost_5 : decode cX4_couldBeGhost 5 = .ok (.getfield 63, 3) := by decide +kernel
theorem dX4_couldBeGhost_8 : decode cX4_couldBeGhost 8 = .ok (.iconst 1, 1) := by decide +kernel
theorem dX4_couldBeGhost_9 : decode cX4_couldBeGhost 9 = .ok (.iload_n 1, 1) := by decide +kernel
theorem dX4_couldBeGhost_10 : decode cX4_couldBeGhost 10 = .ok (.ishl, 1) := by decide +kernel
theorem dX4_couldBeGhost_11 : decode cX4_couldBeGhost 11 = .ok (.iconst (-1), 1) := by decide +kernel
theorem dX4_couldBeGhost_12 : decode cX4_couldBeGhost 12 = .ok (.ixor, 1) := by decide +kernel
theorem dX4_couldBeGhost_13 : decode cX4_couldBeGhost 13 = .ok (.iand, 1) := by decide +kernel
theorem dX4_couldBeGhost_14 : decode cX4_couldBeGhost 14 = .ok (.invokevirtual 175, 3) := by decide +kernel
theorem dX4_couldBeGhost_17 : decode cX4_couldBeGhost 17 = .ok (.iload_n 1, 1) := by decide +kernel
theorem dX4_couldBeGhost_18 : decode cX4_couldBeGhost 18 = .ok (.invokestatic 153, 3) := by decide +kernel
theorem dX4_couldBeGhost_21 : decode cX4_couldBeGhost 21 = .ok (.ireturn, 1) := by decide +kernel
theorem dX4_call_0 : decode cX4_call 0 = .ok (.aload_n 0, 1) := by decide +kernel
theorem dX4_call_1 : decode cX4_call 1 = .ok (.dup, 1) := by decide +kernel
theorem dX4_call_2 : decode cX4_call 2 = .ok (.getfield 37, 3) := by decide +kernel
theorem dX4_call_5 : decode cX4_call 5 = .ok (.iconst 1, 1) := by decide +kernel
theorem dX4_call_6 : decode cX4_call 6 = .ok (.iadd, 1) := by decide +kernel
theorem dX4_call_7 : decode cX4_call 7 = .ok (.putfield 37, 3) := by decide +kernel
theorem dX4_call_10 : decode cX4_call 10 = .ok (.aload_n 0, 1) := by decide +kernel
theorem dX4_call_11 : decode cX4_call 11 = .ok (.getfield 37, 3) := by decide +kernel
theorem dX4_call_14 : decode cX4_call 14 = .ok (.ireturn, 1) := by decide +kernel
theorem dX4_of_0 : decode cX4_of 0 = .ok (.aload_n 0, 1) := by decide +kernel
theorem dX4_of_1 : decode cX4_of 1 = .ok (.getfield 10, 3) := by decide +kernel
theorem dX4_of_4 : decode cX4_of 4 = .ok (.iload_n 1, 1) := by decide +kernel
theorem dX4_of_5 : decode cX4_of 5 = .ok (.invokevirtual 80, 3) := by decide +kernel
theorem dX4_of_8 : decode cX4_of 8 = .ok (.ifCond .ne 13, 3) := by decide +kernel
theorem dX4_of_11 : decode cX4_of 11 = .ok (.new 83, 3) := by decide +kernel
theorem dX4_of_14 : decode cX4_of 14 = .ok (.dup, 1) := by decide +kernel
theorem dX4_of_15 : decode cX4_of 15 = .ok (.ldc 85, 2) := by decide +kernel
theorem dX4_of_17 : decode cX4_of 17 = .ok (.invokespecial 87, 3) := by decide +kernel
theorem dX4_of_20 : decode cX4_of 20 = .ok (.athrow, 1) := by decide +kernel
theorem dX4_of_21 : decode cX4_of 21 = .ok (.iload_n 2, 1) := by decide +kernel
theorem dX4_of_22 : decode cX4_of 22 = .ok (.ifCond .lt 9, 3) := by decide +kernel
theorem dX4_of_25 : decode cX4_of 25 = .ok (.iload_n 2, 1) := by decide +kernel
theorem dX4_of_26 : decode cX4_of 26 = .ok (.bipush 10, 2) := by decide +kernel
theorem dX4_of_28 : decode cX4_of 28 = .ok (.if_icmp .le 13, 3) := by decide +kernel
theorem dX4_of_31 : decode cX4_of 31 = .ok (.new 70, 3) := by decide +kernel
theorem dX4_of_34 : decode cX4_of 34 = .ok (.dup, 1) := by decide +kernel
theorem dX4_of_35 : decode cX4_of 35 = .ok (.ldc 207, 2) := by decide +kernel
theorem dX4_of_37 : decode cX4_of 37 = .ok (.invokespecial 74, 3) := by decide +kernel
theorem dX4_of_40 : decode cX4_of 40 = .ok (.athrow, 1) := by decide +kernel
theorem dX4_of_41 : decode cX4_of 41 = .ok (.aload_n 0, 1) := by decide +kernel
theorem dX4_of_42 : decode cX4_of 42 = .ok (.iload_n 1, 1) := by decide +kernel
theorem dX4_of_43 : decode cX4_of 43 = .ok (.iload_n 2, 1) := by decide +kernel
theorem dX4_of_44 : decode cX4_of 44 = .ok (.invokevirtual 209, 3) := by decide +kernel
theorem dX4_of_47 : decode cX4_of 47 = .ok (.ireturn, 1) := by decide +kernel
theorem dX4_tellOf_0 : decode cX4_tellOf 0 = .ok (.iload_n 2, 1) := by decide +kernel
theorem dX4_tellOf_1 : decode cX4_tellOf 1 = .ok (.tableswitch 171 0 9 #[55, 70, 85, 95, 105, 120, 130, 145, 155, 165], 55) := by decide +kernel
theorem dX4_tellOf_56 : decode cX4_tellOf 56 = .ok (.aload_n 0, 1) := by decide +kernel
theorem dX4_tellOf_57 : decode cX4_tellOf 57 = .ok (.getfield 10, 3) := by decide +kernel
theorem dX4_tellOf_60 : decode cX4_tellOf 60 = .ok (.getfield 105, 3) := by decide +kernel
theorem dX4_tellOf_63 : decode cX4_tellOf 63 = .ok (.iload_n 1, 1) := by decide +kernel
theorem dX4_tellOf_64 : decode cX4_tellOf 64 = .ok (.invokestatic 153, 3) := by decide +kernel
theorem dX4_tellOf_67 : decode cX4_tellOf 67 = .ok (.invokestatic 212, 3) := by decide +kernel
theorem dX4_tellOf_70 : decode cX4_tellOf 70 = .ok (.ireturn, 1) := by decide +kernel
theorem dX4_tellOf_71 : decode cX4_tellOf 71 = .ok (.aload_n 0, 1) := by decide +kernel
theorem dX4_tellOf_72 : decode cX4_tellOf 72 = .ok (.getfield 10, 3) := by decide +kernel
theorem dX4_tellOf_75 : decode cX4_tellOf 75 = .ok (.getfield 216, 3) := by decide +kernel
theorem dX4_tellOf_78 : decode cX4_tellOf 78 = .ok (.iload_n 1, 1) := by decide +kernel
theorem dX4_tellOf_79 : decode cX4_tellOf 79 = .ok (.invokestatic 153, 3) := by decide +kernel
theorem dX4_tellOf_82 : decode cX4_tellOf 82 = .ok (.invokestatic 212, 3) := by decide +kernel
theorem dX4_tellOf_85 : decode cX4_tellOf 85 = .ok (.ireturn, 1) := by decide +kernel
theorem dX4_tellOf_86 : decode cX4_tellOf 86 = .ok (.aload_n 0, 1) := by decide +kernel
theorem dX4_tellOf_87 : decode cX4_tellOf 87 = .ok (.getfield 19, 3) := by decide +kernel
theorem dX4_tellOf_90 : decode cX4_tellOf 90 = .ok (.getfield 94, 3) := by decide +kernel
theorem dX4_tellOf_93 : decode cX4_tellOf 93 = .ok (.iload_n 1, 1) := by decide +kernel
theorem dX4_tellOf_94 : decode cX4_tellOf 94 = .ok (.iaload, 1) := by decide +kernel
theorem dX4_tellOf_95 : decode cX4_tellOf 95 = .ok (.ireturn, 1) := by decide +kernel
theorem dX4_tellOf_96 : decode cX4_tellOf 96 = .ok (.aload_n 0, 1) := by decide +kernel
theorem dX4_tellOf_97 : decode cX4_tellOf 97 = .ok (.getfield 19, 3) := by decide +kernel
theorem dX4_tellOf_100 : decode cX4_tellOf 100 = .ok (.getfield 98, 3) := by decide +kernel
theorem dX4_tellOf_103 : decode cX4_tellOf 103 = .ok (.iload_n 1, 1) := by decide +kernel
theorem dX4_tellOf_104 : decode cX4_tellOf 104 = .ok (.iaload, 1) := by decide +kernel
theorem dX4_tellOf_105 : decode cX4_tellOf 105 = .ok (.ireturn, 1) := by decide +kernel
theorem dX4_tellOf_106 : decode cX4_tellOf 106 = .ok (.aload_n 0, 1) := by decide +kernel
theorem dX4_tellOf_107 : decode cX4_tellOf 107 = .ok (.getfield 19, 3) := by decide +kernel
theorem dX4_tellOf_110 : decode cX4_tellOf 110 = .ok (.getfield 159, 3) := by decide +kernel
theorem dX4_tellOf_113 : decode cX4_tellOf 113 = .ok (.iload_n 1, 1) := by decide +kernel
theorem dX4_tellOf_114 : decode cX4_tellOf 114 = .ok (.invokestatic 153, 3) := by decide +kernel
theorem dX4_tellOf_117 : decode cX4_tellOf 117 = .ok (.invokestatic 212, 3) := by decide +kernel
theorem dX4_tellOf_120 : decode cX4_tellOf 120 = .ok (.ireturn, 1) := by decide +kernel
theorem dX4_tellOf_121 : decode cX4_tellOf 121 = .ok (.aload_n 0, 1) := by decide +kernel
theorem dX4_tellOf_122 : decode cX4_tellOf 122 = .ok (.getfield 19, 3) := by decide +kernel
theorem dX4_tellOf_125 : decode cX4_tellOf 125 = .ok (.getfield 219, 3) := by decide +kernel
theorem dX4_tellOf_128 : decode cX4_tellOf 128 = .ok (.iload_n 1, 1) := by decide +kernel
theorem dX4_tellOf_129 : decode cX4_tellOf 129 = .ok (.iaload, 1) := by decide +kernel
theorem dX4_tellOf_130 : decode cX4_tellOf 130 = .ok (.ireturn, 1) := by decide +kernel
theorem dX4_tellOf_131 : decode cX4_tellOf 131 = .ok (.aload_n 0, 1) := by decide +kernel
theorem dX4_tellOf_132 : decode cX4_tellOf 132 = .ok (.getfield 26, 3) := by decide +kernel
theorem dX4_tellOf_135 : decode cX4_tellOf 135 = .ok (.getfield 189, 3) := by decide +kernel
theorem dX4_tellOf_138 : decode cX4_tellOf 138 = .ok (.iload_n 1, 1) := by decide +kernel
theorem dX4_tellOf_139 : decode cX4_tellOf 139 = .ok (.invokestatic 153, 3) := by decide +kernel
theorem dX4_tellOf_142 : decode cX4_tellOf 142 = .ok (.invokestatic 212, 3) := by decide +kernel
theorem dX4_tellOf_145 : decode cX4_tellOf 145 = .ok (.ireturn, 1) := by decide +kernel
theorem dX4_tellOf_146 : decode cX4_tellOf 146 = .ok (.aload_n 0, 1) := by decide +kernel
theorem dX4_tellOf_147 : decode cX4_tellOf 147 = .ok (.getfield 26, 3) := by decide +kernel
theorem dX4_tellOf_150 : decode cX4_tellOf 150 = .ok (.getfield 195, 3) := by decide +kernel
theorem dX4_tellOf_153 : decode cX4_tellOf 153 = .ok (.iload_n 1, 1) := by decide +kernel
theorem dX4_tellOf_154 : decode cX4_tellOf 154 = .ok (.iaload, 1) := by decide +kernel
theorem dX4_tellOf_155 : decode cX4_tellOf 155 = .ok (.ireturn, 1) := by decide +kernel
theorem dX4_tellOf_156 : decode cX4_tellOf 156 = .ok (.aload_n 0, 1) := by decide +kernel
theorem dX4_tellOf_157 : decode cX4_tellOf 157 = .ok (.getfield 33, 3) := by decide +kernel
theorem dX4_tellOf_160 : decode cX4_tellOf 160 = .ok (.getfield 222, 3) := by decide +kernel
theorem dX4_tellOf_163 : decode cX4_tellOf 163 = .ok (.iload_n 1, 1) := by decide +kernel
theorem dX4_tellOf_164 : decode cX4_tellOf 164 = .ok (.iaload, 1) := by decide +kernel
theorem dX4_tellOf_165 : decode cX4_tellOf 165 = .ok (.ireturn, 1) := by decide +kernel
theorem dX4_tellOf_166 : decode cX4_tellOf 166 = .ok (.aload_n 0, 1) := by decide +kernel
theorem dX4_tellOf_167 : decode cX4_tellOf 167 = .ok (.iload_n 1, 1) := by decide +kernel
theorem dX4_tellOf_168 : decode cX4_tellOf 168 = .ok (.invokevirtual 225, 3) := by decide +kernel
theorem dX4_tellOf_171 : decode cX4_tellOf 171 = .ok (.ireturn, 1) := by decide +kernel
theorem dX4_tellOf_172 : decode cX4_tellOf 172 = .ok (.aload_n 0, 1) := by decide +kernel
theorem dX4_tellOf_173 : decode cX4_tellOf 173 = .ok (.getfield 26, 3) := by decide +kernel
theorem dX4_tellOf_176 : decode cX4_tellOf 176 = .ok (.getfield 228, 3) := by decide +kernel
theorem dX4_tellOf_179 : decode cX4_tellOf 179 = .ok (.iload_n 1, 1) := by decide +kernel
theorem dX4_tellOf_180 : decode cX4_tellOf 180 = .ok (.iaload, 1) := by decide +kernel
theorem dX4_tellOf_181 : decode cX4_tellOf 181 = .ok (.ireturn, 1) := by decide +kernel
theorem dX4_lagOf_0 : decode cX4_lagOf 0 = .ok (.aload_n 0, 1) := by decide +kernel
theorem dX4_lagOf_1 : decode cX4_lagOf 1 = .ok (.getfield 19, 3) := by decide +kernel
theorem dX4_lagOf_4 : decode cX4_lagOf 4 = .ok (.getfield 231, 3) := by decide +kernel
theorem dX4_lagOf_7 : decode cX4_lagOf 7 = .ok (.iload_n 1, 1) := by decide +kernel
theorem dX4_lagOf_8 : decode cX4_lagOf 8 = .ok (.iaload, 1) := by decide +kernel
theorem dX4_lagOf_9 : decode cX4_lagOf 9 = .ok (.istore_n 2, 1) := by decide +kernel
theorem dX4_lagOf_10 : decode cX4_lagOf 10 = .ok (.aload_n 0, 1) := by decide +kernel
theorem dX4_lagOf_11 : decode cX4_lagOf 11 = .ok (.getfield 26, 3) := by decide +kernel
theorem dX4_lagOf_14 : decode cX4_lagOf 14 = .ok (.getfield 234, 3) := by decide +kernel
theorem dX4_lagOf_17 : decode cX4_lagOf 17 = .ok (.iload_n 1, 1) := by decide +kernel
theorem dX4_lagOf_18 : decode cX4_lagOf 18 = .ok (.iaload, 1) := by decide +kernel
theorem dX4_lagOf_19 : decode cX4_lagOf 19 = .ok (.istore_n 3, 1) := by decide +kernel
theorem dX4_lagOf_20 : decode cX4_lagOf 20 = .ok (.iload_n 2, 1) := by decide +kernel
theorem dX4_lagOf_21 : decode cX4_lagOf 21 = .ok (.iconst (-1), 1) := by decide +kernel
theorem dX4_lagOf_22 : decode cX4_lagOf 22 = .ok (.if_icmp .eq 14, 3) := by decide +kernel
theorem dX4_lagOf_25 : decode cX4_lagOf 25 = .ok (.iload_n 3, 1) := by decide +kernel
theorem dX4_lagOf_26 : decode cX4_lagOf 26 = .ok (.iload_n 2, 1) := by decide +kernel
theorem dX4_lagOf_27 : decode cX4_lagOf 27 = .ok (.if_icmp .le 9, 3) := by decide +kernel
theorem dX4_lagOf_30 : decode cX4_lagOf 30 = .ok (.iload_n 3, 1) := by decide +kernel
theorem dX4_lagOf_31 : decode cX4_lagOf 31 = .ok (.iload_n 2, 1) := by decide +kernel
theorem dX4_lagOf_32 : decode cX4_lagOf 32 = .ok (.isub, 1) := by decide +kernel
theorem dX4_lagOf_33 : decode cX4_lagOf 33 = .ok (.goto 4, 3) := by decide +kernel
theorem dX4_lagOf_36 : decode cX4_lagOf 36 = .ok (.iconst 0, 1) := by decide +kernel
theorem dX4_lagOf_37 : decode cX4_lagOf 37 = .ok (.ireturn, 1) := by decide +kernel
theorem dX4_set_0 : decode cX4_set 0 = .ok (.iload_n 1, 1) := by decide +kernel
theorem dX4_set_1 : decode cX4_set 1 = .ok (.ifCond .lt 8, 3) := by decide +kernel
theorem dX4_set_4 : decode cX4_set 4 = .ok (.iload_n 1, 1) := by decide +kernel
theorem dX4_set_5 : decode cX4_set 5 = .ok (.iconst 5, 1) := by decide +kernel
theorem dX4_set_6 : decode cX4_set 6 = .ok (.if_icmp .le 13, 3) := by decide +kernel
theorem dX4_set_9 : decode cX4_set 9 = .ok (.new 70, 3) := by decide +kernel
theorem dX4_set_12 : decode cX4_set 12 = .ok (.dup, 1) := by decide +kernel
theorem dX4_set_13 : decode cX4_set 13 = .ok (.ldc 237, 2) := by decide +kernel
theorem dX4_set_15 : decode cX4_set 15 = .ok (.invokespecial 74, 3) := by decide +kernel
theorem dX4_set_18 : decode cX4_set 18 = .ok (.athrow, 1) := by decide +kernel
theorem dX4_set_19 : decode cX4_set 19 = .ok (.aload_n 0, 1) := by decide +kernel
theorem dX4_set_20 : decode cX4_set 20 = .ok (.iload_n 1, 1) := by decide +kernel
theorem dX4_set_21 : decode cX4_set 21 = .ok (.invokevirtual 239, 3) := by decide +kernel
theorem dX4_set_24 : decode cX4_set 24 = .ok (.ireturn, 1) := by decide +kernel
theorem dX4_tellSet_0 : decode cX4_tellSet 0 = .ok (.iload_n 1, 1) := by decide +kernel
theorem dX4_tellSet_1 : decode cX4_tellSet 1 = .ok (.tableswitch 73 0 4 #[35, 40, 45, 57, 65], 35) := by decide +kernel
theorem dX4_tellSet_36 : decode cX4_tellSet 36 = .ok (.aload_n 0, 1) := by decide +kernel
theorem dX4_tellSet_37 : decode cX4_tellSet 37 = .ok (.getfield 60, 3) := by decide +kernel
theorem dX4_tellSet_40 : decode cX4_tellSet 40 = .ok (.ireturn, 1) := by decide +kernel
theorem dX4_tellSet_41 : decode cX4_tellSet 41 = .ok (.aload_n 0, 1) := by decide +kernel
theorem dX4_tellSet_42 : decode cX4_tellSet 42 = .ok (.getfield 63, 3) := by decide +kernel
theorem dX4_tellSet_45 : decode cX4_tellSet 45 = .ok (.ireturn, 1) := by decide +kernel
theorem dX4_tellSet_46 : decode cX4_tellSet 46 = .ok (.aload_n 0, 1) := by decide +kernel
theorem dX4_tellSet_47 : decode cX4_tellSet 47 = .ok (.getfield 63, 3) := by decide +kernel
theorem dX4_tellSet_50 : decode cX4_tellSet 50 = .ok (.aload_n 0, 1) := by decide +kernel
theorem dX4_tellSet_51 : decode cX4_tellSet 51 = .ok (.getfield 60, 3) := by decide +kernel
theorem dX4_tellSet_54 : decode cX4_tellSet 54 = .ok (.iconst (-1), 1) := by decide +kernel
theorem dX4_tellSet_55 : decode cX4_tellSet 55 = .ok (.ixor, 1) := by decide +kernel
theorem dX4_tellSet_56 : decode cX4_tellSet 56 = .ok (.iand, 1) := by decide +kernel
theorem dX4_tellSet_57 : decode cX4_tellSet 57 = .ok (.ireturn, 1) := by decide +kernel
theorem dX4_tellSet_58 : decode cX4_tellSet 58 = .ok (.aload_n 0, 1) := by decide +kernel
theorem dX4_tellSet_59 : decode cX4_tellSet 59 = .ok (.getfield 26, 3) := by decide +kernel
theorem dX4_tellSet_62 : decode cX4_tellSet 62 = .ok (.getfield 189, 3) := by decide +kernel
theorem dX4_tellSet_65 : decode cX4_tellSet 65 = .ok (.ireturn, 1) := by decide +kernel
theorem dX4_tellSet_66 : decode cX4_tellSet 66 = .ok (.aload_n 0, 1) := by decide +kernel
theorem dX4_tellSet_67 : decode cX4_tellSet 67 = .ok (.getfield 19, 3) := by decide +kernel
theorem dX4_tellSet_70 : decode cX4_tellSet 70 = .ok (.getfield 159, 3) := by decide +kernel
theorem dX4_tellSet_73 : decode cX4_tellSet 73 = .ok (.ireturn, 1) := by decide +kernel
theorem dX4_tellSet_74 : decode cX4_tellSet 74 = .ok (.aload_n 0, 1) := by decide +kernel
theorem dX4_tellSet_75 : decode cX4_tellSet 75 = .ok (.getfield 10, 3) := by decide +kernel
theorem dX4_tellSet_78 : decode cX4_tellSet 78 = .ok (.getfield 105, 3) := by decide +kernel
theorem dX4_tellSet_81 : decode cX4_tellSet 81 = .ok (.ireturn, 1) := by decide +kernel
theorem dX4_board_0 : decode cX4_board 0 = .ok (.iload_n 1, 1) := by decide +kernel
theorem dX4_board_1 : decode cX4_board 1 = .ok (.ifCond .lt 9, 3) := by decide +kernel
theorem dX4_board_4 : decode cX4_board 4 = .ok (.iload_n 1, 1) := by decide +kernel
theorem dX4_board_5 : decode cX4_board 5 = .ok (.bipush 14, 2) := by decide +kernel
theorem dX4_board_7 : decode cX4_board 7 = .ok (.if_icmp .le 13, 3) := by decide +kernel
theorem dX4_board_10 : decode cX4_board 10 = .ok (.new 70, 3) := by decide +kernel
theorem dX4_board_13 : decode cX4_board 13 = .ok (.dup, 1) := by decide +kernel
theorem dX4_board_14 : decode cX4_board 14 = .ok (.ldc 242, 2) := by decide +kernel
theorem dX4_board_16 : decode cX4_board 16 = .ok (.invokespecial 74, 3) := by decide +kernel
theorem dX4_board_19 : decode cX4_board 19 = .ok (.athrow, 1) := by decide +kernel
theorem dX4_board_20 : decode cX4_board 20 = .ok (.aload_n 0, 1) := by decide +kernel
theorem dX4_board_21 : decode cX4_board 21 = .ok (.iload_n 1, 1) := by decide +kernel
theorem dX4_board_22 : decode cX4_board 22 = .ok (.invokevirtual 244, 3) := by decide +kernel
theorem dX4_board_25 : decode cX4_board 25 = .ok (.ireturn, 1) := by decide +kernel
theorem dX4_tellBoard_0 : decode cX4_tellBoard 0 = .ok (.iload_n 1, 1) := by decide +kernel
theorem dX4_tellBoard_1 : decode cX4_tellBoard 1 = .ok (.tableswitch 190 0 13 #[71, 79, 87, 92, 100, 108, 113, 121, 129, 140, 155, 166, 174, 182], 71) := by decide +kernel
theorem dX4_tellBoard_72 : decode cX4_tellBoard 72 = .ok (.aload_n 0, 1) := by decide +kernel
theorem dX4_tellBoard_73 : decode cX4_tellBoard 73 = .ok (.getfield 10, 3) := by decide +kernel
theorem dX4_tellBoard_76 : decode cX4_tellBoard 76 = .ok (.getfield 114, 3) := by decide +kernel
theorem dX4_tellBoard_79 : decode cX4_tellBoard 79 = .ok (.ireturn, 1) := by decide +kernel
theorem dX4_tellBoard_80 : decode cX4_tellBoard 80 = .ok (.aload_n 0, 1) := by decide +kernel
theorem dX4_tellBoard_81 : decode cX4_tellBoard 81 = .ok (.getfield 10, 3) := by decide +kernel
theorem dX4_tellBoard_84 : decode cX4_tellBoard 84 = .ok (.getfield 117, 3) := by decide +kernel
theorem dX4_tellBoard_87 : decode cX4_tellBoard 87 = .ok (.ireturn, 1) := by decide +kernel
theorem dX4_tellBoard_88 : decode cX4_tellBoard 88 = .ok (.aload_n 0, 1) := by decide +kernel
theorem dX4_tellBoard_89 : decode cX4_tellBoard 89 = .ok (.getfield 50, 3) := by decide +kernel
theorem dX4_tellBoard_92 : decode cX4_tellBoard 92 = .ok (.ireturn, 1) := by decide +kernel
theorem dX4_tellBoard_93 : decode cX4_tellBoard 93 = .ok (.aload_n 0, 1) := by decide +kernel
theorem dX4_tellBoard_94 : decode cX4_tellBoard 94 = .ok (.getfield 26, 3) := by decide +kernel
theorem dX4_tellBoard_97 : decode cX4_tellBoard 97 = .ok (.getfield 166, 3) := by decide +kernel
theorem dX4_tellBoard_100 : decode cX4_tellBoard 100 = .ok (.ireturn, 1) := by decide +kernel
theorem dX4_tellBoard_101 : decode cX4_tellBoard 101 = .ok (.aload_n 0, 1) := by decide +kernel
theorem dX4_tellBoard_102 : decode cX4_tellBoard 102 = .ok (.getfield 19, 3) := by decide +kernel
theorem dX4_tellBoard_105 : decode cX4_tellBoard 105 = .ok (.getfield 247, 3) := by decide +kernel
theorem dX4_tellBoard_108 : decode cX4_tellBoard 108 = .ok (.ireturn, 1) := by decide +kernel
theorem dX4_tellBoard_109 : decode cX4_tellBoard 109 = .ok (.aload_n 0, 1) := by decide +kernel
theorem dX4_tellBoard_110 : decode cX4_tellBoard 110 = .ok (.getfield 53, 3) := by decide +kernel
theorem dX4_tellBoard_113 : decode cX4_tellBoard 113 = .ok (.ireturn, 1) := by decide +kernel
theorem dX4_tellBoard_114 : decode cX4_tellBoard 114 = .ok (.aload_n 0, 1) := by decide +kernel
theorem dX4_tellBoard_115 : decode cX4_tellBoard 115 = .ok (.getfield 56, 3) := by decide +kernel
theorem dX4_tellBoard_118 : decode cX4_tellBoard 118 = .ok (.invokestatic 212, 3) := by decide +kernel
theorem dX4_tellBoard_121 : decode cX4_tellBoard 121 = .ok (.ireturn, 1) := by decide +kernel
theorem dX4_tellBoard_122 : decode cX4_tellBoard 122 = .ok (.aload_n 0, 1) := by decide +kernel
theorem dX4_tellBoard_123 : decode cX4_tellBoard 123 = .ok (.getfield 33, 3) := by decide +kernel
theorem dX4_tellBoard_126 : decode cX4_tellBoard 126 = .ok (.invokevirtual 250, 3) := by decide +kernel
theorem dX4_tellBoard_129 : decode cX4_tellBoard 129 = .ok (.ireturn, 1) := by decide +kernel
theorem dX4_tellBoard_130 : decode cX4_tellBoard 130 = .ok (.aload_n 0, 1) := by decide +kernel
theorem dX4_tellBoard_131 : decode cX4_tellBoard 131 = .ok (.getfield 10, 3) := by decide +kernel
theorem dX4_tellBoard_134 : decode cX4_tellBoard 134 = .ok (.invokevirtual 254, 3) := by decide +kernel
theorem dX4_tellBoard_137 : decode cX4_tellBoard 137 = .ok (.invokestatic 212, 3) := by decide +kernel
theorem dX4_tellBoard_140 : decode cX4_tellBoard 140 = .ok (.ireturn, 1) := by decide +kernel
theorem dX4_tellBoard_141 : decode cX4_tellBoard 141 = .ok (.aload_n 0, 1) := by decide +kernel
theorem dX4_tellBoard_142 : decode cX4_tellBoard 142 = .ok (.getfield 10, 3) := by decide +kernel
theorem dX4_tellBoard_145 : decode cX4_tellBoard 145 = .ok (.aload_n 0, 1) := by decide +kernel
theorem dX4_tellBoard_146 : decode cX4_tellBoard 146 = .ok (.getfield 10, 3) := by decide +kernel
theorem dX4_tellBoard_149 : decode cX4_tellBoard 149 = .ok (.getfield 216, 3) := by decide +kernel
theorem dX4_tellBoard_152 : decode cX4_tellBoard 152 = .ok (.invokevirtual 258, 3) := by decide +kernel
theorem dX4_tellBoard_155 : decode cX4_tellBoard 155 = .ok (.ireturn, 1) := by decide +kernel
theorem dX4_tellBoard_156 : decode cX4_tellBoard 156 = .ok (.aload_n 0, 1) := by decide +kernel
theorem dX4_tellBoard_157 : decode cX4_tellBoard 157 = .ok (.getfield 10, 3) := by decide +kernel
theorem dX4_tellBoard_160 : decode cX4_tellBoard 160 = .ok (.getfield 126, 3) := by decide +kernel
theorem dX4_tellBoard_163 : decode cX4_tellBoard 163 = .ok (.invokestatic 108, 3) := by decide +kernel
theorem dX4_tellBoard_166 : decode cX4_tellBoard 166 = .ok (.ireturn, 1) := by decide +kernel
theorem dX4_tellBoard_167 : decode cX4_tellBoard 167 = .ok (.aload_n 0, 1) := by decide +kernel
theorem dX4_tellBoard_168 : decode cX4_tellBoard 168 = .ok (.getfield 33, 3) := by decide +kernel
theorem dX4_tellBoard_171 : decode cX4_tellBoard 171 = .ok (.getfield 141, 3) := by decide +kernel
theorem dX4_tellBoard_174 : decode cX4_tellBoard 174 = .ok (.ireturn, 1) := by decide +kernel
theorem dX4_tellBoard_175 : decode cX4_tellBoard 175 = .ok (.aload_n 0, 1) := by decide +kernel
theorem dX4_tellBoard_176 : decode cX4_tellBoard 176 = .ok (.getfield 33, 3) := by decide +kernel
theorem dX4_tellBoard_179 : decode cX4_tellBoard 179 = .ok (.getfield 261, 3) := by decide +kernel
theorem dX4_tellBoard_182 : decode cX4_tellBoard 182 = .ok (.ireturn, 1) := by decide +kernel
theorem dX4_tellBoard_183 : decode cX4_tellBoard 183 = .ok (.aload_n 0, 1) := by decide +kernel
theorem dX4_tellBoard_184 : decode cX4_tellBoard 184 = .ok (.getfield 33, 3) := by decide +kernel
theorem dX4_tellBoard_187 : decode cX4_tellBoard 187 = .ok (.getfield 264, 3) := by decide +kernel
theorem dX4_tellBoard_190 : decode cX4_tellBoard 190 = .ok (.ireturn, 1) := by decide +kernel
theorem dX4_tellBoard_191 : decode cX4_tellBoard 191 = .ok (.aload_n 0, 1) := by decide +kernel
theorem dX4_tellBoard_192 : decode cX4_tellBoard 192 = .ok (.getfield 37, 3) := by decide +kernel
theorem dX4_tellBoard_195 : decode cX4_tellBoard 195 = .ok (.ireturn, 1) := by decide +kernel
theorem dX4_text_0 : decode cX4_text 0 = .ok (.aload_n 0, 1) := by decide +kernel
theorem dX4_text_1 : decode cX4_text 1 = .ok (.getfield 33, 3) := by decide +kernel
theorem dX4_text_4 : decode cX4_text 4 = .ok (.getfield 267, 3) := by decide +kernel
theorem dX4_text_7 : decode cX4_text 7 = .ok (.invokevirtual 271, 3) := by decide +kernel
theorem dX4_text_10 : decode cX4_text 10 = .ok (.areturn, 1) := by decide +kernel
theorem dX4_picture_0 : decode cX4_picture 0 = .ok (.iload_n 1, 1) := by decide +kernel
theorem dX4_picture_1 : decode cX4_picture 1 = .ok (.ifCond .lt 14, 3) := by decide +kernel
theorem dX4_picture_4 : decode cX4_picture 4 = .ok (.iload_n 1, 1) := by decide +kernel
theorem dX4_picture_5 : decode cX4_picture 5 = .ok (.aload_n 0, 1) := by decide +kernel
theorem dX4_picture_6 : decode cX4_picture 6 = .ok (.getfield 10, 3) := by decide +kernel
theorem dX4_picture_9 : decode cX4_picture 9 = .ok (.getfield 114, 3) := by decide +kernel
theorem dX4_picture_12 : decode cX4_picture 12 = .ok (.if_icmp .lt 14, 3) := by decide +kernel
theorem dX4_picture_15 : decode cX4_picture 15 = .ok (.new 83, 3) := by decide +kernel
theorem dX4_picture_18 : decode cX4_picture 18 = .ok (.dup, 1) := by decide +kernel
theorem dX4_picture_19 : decode cX4_picture 19 = .ok (.ldc_w 277, 3) := by decide +kernel
theorem dX4_picture_22 : decode cX4_picture 22 = .ok (.invokespecial 87, 3) := by decide +kernel
theorem dX4_picture_25 : decode cX4_picture 25 = .ok (.athrow, 1) := by decide +kernel
theorem dX4_picture_26 : decode cX4_picture 26 = .ok (.new 272, 3) := by decide +kernel
theorem dX4_picture_29 : decode cX4_picture 29 = .ok (.dup, 1) := by decide +kernel
theorem dX4_picture_30 : decode cX4_picture 30 = .ok (.invokespecial 279, 3) := by decide +kernel
theorem dX4_picture_33 : decode cX4_picture 33 = .ok (.astore_n 2, 1) := by decide +kernel
theorem dX4_picture_34 : decode cX4_picture 34 = .ok (.iconst 0, 1) := by decide +kernel
theorem dX4_picture_35 : decode cX4_picture 35 = .ok (.istore_n 3, 1) := by decide +kernel
theorem dX4_picture_36 : decode cX4_picture 36 = .ok (.iload_n 3, 1) := by decide +kernel
theorem dX4_picture_37 : decode cX4_picture 37 = .ok (.aload_n 0, 1) := by decide +kernel
theorem dX4_picture_38 : decode cX4_picture 38 = .ok (.getfield 10, 3) := by decide +kernel
theorem dX4_picture_41 : decode cX4_picture 41 = .ok (.getfield 117, 3) := by decide +kernel
theorem dX4_picture_44 : decode cX4_picture 44 = .ok (.if_icmp .ge 29, 3) := by decide +kernel
theorem dX4_picture_47 : decode cX4_picture 47 = .ok (.aload_n 2, 1) := by decide +kernel
theorem dX4_picture_48 : decode cX4_picture 48 = .ok (.aload_n 0, 1) := by decide +kernel
theorem dX4_picture_49 : decode cX4_picture 49 = .ok (.iload_n 1, 1) := by decide +kernel
theorem dX4_picture_50 : decode cX4_picture 50 = .ok (.aload_n 0, 1) := by decide +kernel
theorem dX4_picture_51 : decode cX4_picture 51 = .ok (.getfield 10, 3) := by decide +kernel
theorem dX4_picture_54 : decode cX4_picture 54 = .ok (.getfield 117, 3) := by decide +kernel
theorem dX4_picture_57 : decode cX4_picture 57 = .ok (.imul, 1) := by decide +kernel
theorem dX4_picture_58 : decode cX4_picture 58 = .ok (.iload_n 3, 1) := by decide +kernel
theorem dX4_picture_59 : decode cX4_picture 59 = .ok (.iadd, 1) := by decide +kernel
theorem dX4_picture_60 : decode cX4_picture 60 = .ok (.invokevirtual 280, 3) := by decide +kernel
theorem dX4_picture_63 : decode cX4_picture 63 = .ok (.invokevirtual 284, 3) := by decide +kernel
theorem dX4_picture_66 : decode cX4_picture 66 = .ok (.pop, 1) := by decide +kernel
theorem dX4_picture_67 : decode cX4_picture 67 = .ok (.iinc 3 1, 3) := by decide +kernel
theorem dX4_picture_70 : decode cX4_picture 70 = .ok (.goto (-34), 3) := by decide +kernel
theorem dX4_picture_73 : decode cX4_picture 73 = .ok (.aload_n 2, 1) := by decide +kernel
theorem dX4_picture_74 : decode cX4_picture 74 = .ok (.invokevirtual 271, 3) := by decide +kernel
theorem dX4_picture_77 : decode cX4_picture 77 = .ok (.areturn, 1) := by decide +kernel
theorem dX4_signOf_0 : decode cX4_signOf 0 = .ok (.aload_n 0, 1) := by decide +kernel
theorem dX4_signOf_1 : decode cX4_signOf 1 = .ok (.getfield 10, 3) := by decide +kernel
theorem dX4_signOf_4 : decode cX4_signOf 4 = .ok (.getfield 105, 3) := by decide +kernel
theorem dX4_signOf_7 : decode cX4_signOf 7 = .ok (.iload_n 1, 1) := by decide +kernel
theorem dX4_signOf_8 : decode cX4_signOf 8 = .ok (.invokestatic 153, 3) := by decide +kernel
theorem dX4_signOf_11 : decode cX4_signOf 11 = .ok (.ifCond .ne 6, 3) := by decide +kernel
theorem dX4_signOf_14 : decode cX4_signOf 14 = .ok (.bipush 32, 2) := by decide +kernel
theorem dX4_signOf_16 : decode cX4_signOf 16 = .ok (.ireturn, 1) := by decide +kernel
theorem dX4_signOf_17 : decode cX4_signOf 17 = .ok (.aload_n 0, 1) := by decide +kernel
theorem dX4_signOf_18 : decode cX4_signOf 18 = .ok (.getfield 26, 3) := by decide +kernel
theorem dX4_signOf_21 : decode cX4_signOf 21 = .ok (.getfield 189, 3) := by decide +kernel
theorem dX4_signOf_24 : decode cX4_signOf 24 = .ok (.iload_n 1, 1) := by decide +kernel
theorem dX4_signOf_25 : decode cX4_signOf 25 = .ok (.invokestatic 153, 3) := by decide +kernel
theorem dX4_signOf_28 : decode cX4_signOf 28 = .ok (.ifCond .eq 6, 3) := by decide +kernel
theorem dX4_signOf_31 : decode cX4_signOf 31 = .ok (.bipush 35, 2) := by decide +kernel
theorem dX4_signOf_33 : decode cX4_signOf 33 = .ok (.ireturn, 1) := by decide +kernel
theorem dX4_signOf_34 : decode cX4_signOf 34 = .ok (.aload_n 0, 1) := by decide +kernel
theorem dX4_signOf_35 : decode cX4_signOf 35 = .ok (.getfield 19, 3) := by decide +kernel
theorem dX4_signOf_38 : decode cX4_signOf 38 = .ok (.getfield 159, 3) := by decide +kernel
theorem dX4_signOf_41 : decode cX4_signOf 41 = .ok (.iload_n 1, 1) := by decide +kernel
theorem dX4_signOf_42 : decode cX4_signOf 42 = .ok (.invokestatic 153, 3) := by decide +kernel
theorem dX4_signOf_45 : decode cX4_signOf 45 = .ok (.ifCond .eq 8, 3) := by decide +kernel
theorem dX4_signOf_48 : decode cX4_signOf 48 = .ok (.bipush 43, 2) := by decide +kernel
theorem dX4_signOf_50 : decode cX4_signOf 50 = .ok (.goto 5, 3) := by decide +kernel
theorem dX4_signOf_53 : decode cX4_signOf 53 = .ok (.bipush 46, 2) := by decide +kernel
theorem dX4_signOf_55 : decode cX4_signOf 55 = .ok (.ireturn, 1) := by decide +kernel
theorem dX4_lag_0 : decode cX4_lag 0 = .ok (.iconst 0, 1) := by decide +kernel
theorem dX4_lag_1 : decode cX4_lag 1 = .ok (.istore_n 1, 1) := by decide +kernel
theorem dX4_lag_2 : decode cX4_lag 2 = .ok (.iconst 0, 1) := by decide +kernel
theorem dX4_lag_3 : decode cX4_lag 3 = .ok (.istore_n 2, 1) := by decide +kernel
theorem dX4_lag_4 : decode cX4_lag 4 = .ok (.iconst 0, 1) := by decide +kernel
theorem dX4_lag_5 : decode cX4_lag 5 = .ok (.istore_n 3, 1) := by decide +kernel
theorem dX4_lag_6 : decode cX4_lag 6 = .ok (.iload_n 3, 1) := by decide +kernel
theorem dX4_lag_7 : decode cX4_lag 7 = .ok (.aload_n 0, 1) := by decide +kernel
theorem dX4_lag_8 : decode cX4_lag 8 = .ok (.getfield 10, 3) := by decide +kernel
theorem dX4_lag_11 : decode cX4_lag 11 = .ok (.getfield 77, 3) := by decide +kernel
theorem dX4_lag_14 : decode cX4_lag 14 = .ok (.if_icmp .ge 32, 3) := by decide +kernel
theorem dX4_lag_17 : decode cX4_lag 17 = .ok (.aload_n 0, 1) := by decide +kernel
theorem dX4_lag_18 : decode cX4_lag 18 = .ok (.getfield 26, 3) := by decide +kernel
theorem dX4_lag_21 : decode cX4_lag 21 = .ok (.getfield 228, 3) := by decide +kernel
theorem dX4_lag_24 : decode cX4_lag 24 = .ok (.iload_n 3, 1) := by decide +kernel
theorem dX4_lag_25 : decode cX4_lag 25 = .ok (.iaload, 1) := by decide +kernel
theorem dX4_lag_26 : decode cX4_lag 26 = .ok (.ifCond .le 14, 3) := by decide +kernel
theorem dX4_lag_29 : decode cX4_lag 29 = .ok (.iload_n 1, 1) := by decide +kernel
theorem dX4_lag_30 : decode cX4_lag 30 = .ok (.aload_n 0, 1) := by decide +kernel
theorem dX4_lag_31 : decode cX4_lag 31 = .ok (.iload_n 3, 1) := by decide +kernel
theorem dX4_lag_32 : decode cX4_lag 32 = .ok (.invokevirtual 225, 3) := by decide +kernel
theorem dX4_lag_35 : decode cX4_lag 35 = .ok (.iadd, 1) := by decide +kernel
theorem dX4_lag_36 : decode cX4_lag 36 = .ok (.istore_n 1, 1) := by decide +kernel
theorem dX4_lag_37 : decode cX4_lag 37 = .ok (.iinc 2 1, 3) := by decide +kernel
theorem dX4_lag_40 : decode cX4_lag 40 = .ok (.iinc 3 1, 3) := by decide +kernel
theorem dX4_lag_43 : decode cX4_lag 43 = .ok (.goto (-37), 3) := by decide +kernel
theorem dX4_lag_46 : decode cX4_lag 46 = .ok (.iload_n 2, 1) := by decide +kernel
theorem dX4_lag_47 : decode cX4_lag 47 = .ok (.ifCond .ne 7, 3) := by decide +kernel
theorem dX4_lag_50 : decode cX4_lag 50 = .ok (.dconst 0, 1) := by decide +kernel
theorem dX4_lag_51 : decode cX4_lag 51 = .ok (.goto 8, 3) := by decide +kernel
theorem dX4_lag_54 : decode cX4_lag 54 = .ok (.iload_n 1, 1) := by decide +kernel
theorem dX4_lag_55 : decode cX4_lag 55 = .ok (.i2d, 1) := by decide +kernel
theorem dX4_lag_56 : decode cX4_lag 56 = .ok (.iload_n 2, 1) := by decide +kernel
theorem dX4_lag_57 : decode cX4_lag 57 = .ok (.i2d, 1) := by decide +kernel
theorem dX4_lag_58 : decode cX4_lag 58 = .ok (.ddiv, 1) := by decide +kernel
theorem dX4_lag_59 : decode cX4_lag 59 = .ok (.dreturn, 1) := by decide +kernel
theorem dX4_seen_0 : decode cX4_seen 0 = .ok (.aload_n 0, 1) := by decide +kernel
theorem dX4_seen_1 : decode cX4_seen 1 = .ok (.getfield 10, 3) := by decide +kernel
theorem dX4_seen_4 : decode cX4_seen 4 = .ok (.iload_n 1, 1) := by decide +kernel
theorem dX4_seen_5 : decode cX4_seen 5 = .ok (.invokevirtual 136, 3) := by decide +kernel
theorem dX4_seen_8 : decode cX4_seen 8 = .ok (.ifCond .ne 14, 3) := by decide +kernel
theorem dX4_seen_11 : decode cX4_seen 11 = .ok (.new 70, 3) := by decide +kernel
theorem dX4_seen_14 : decode cX4_seen 14 = .ok (.dup, 1) := by decide +kernel
theorem dX4_seen_15 : decode cX4_seen 15 = .ok (.ldc_w 288, 3) := by decide +kernel
theorem dX4_seen_18 : decode cX4_seen 18 = .ok (.invokespecial 74, 3) := by decide +kernel
theorem dX4_seen_21 : decode cX4_seen 21 = .ok (.athrow, 1) := by decide +kernel
theorem dX4_seen_22 : decode cX4_seen 22 = .ok (.aload_n 0, 1) := by decide +kernel
theorem dX4_seen_23 : decode cX4_seen 23 = .ok (.getfield 10, 3) := by decide +kernel
theorem dX4_seen_26 : decode cX4_seen 26 = .ok (.iload_n 1, 1) := by decide +kernel
theorem dX4_seen_27 : decode cX4_seen 27 = .ok (.invokevirtual 175, 3) := by decide +kernel
theorem dX4_seen_30 : decode cX4_seen 30 = .ok (.ireturn, 1) := by decide +kernel
theorem dX4_exact_0 : decode cX4_exact 0 = .ok (.aload_n 0, 1) := by decide +kernel
theorem dX4_exact_1 : decode cX4_exact 1 = .ok (.getfield 10, 3) := by decide +kernel
theorem dX4_exact_4 : decode cX4_exact 4 = .ok (.iload_n 1, 1) := by decide +kernel
theorem dX4_exact_5 : decode cX4_exact 5 = .ok (.invokevirtual 136, 3) := by decide +kernel
theorem dX4_exact_8 : decode cX4_exact 8 = .ok (.ifCond .ne 14, 3) := by decide +kernel
theorem dX4_exact_11 : decode cX4_exact 11 = .ok (.new 70, 3) := by decide +kernel
theorem dX4_exact_14 : decode cX4_exact 14 = .ok (.dup, 1) := by decide +kernel
theorem dX4_exact_15 : decode cX4_exact 15 = .ok (.ldc_w 288, 3) := by decide +kernel
theorem dX4_exact_18 : decode cX4_exact 18 = .ok (.invokespecial 74, 3) := by decide +kernel
theorem dX4_exact_21 : decode cX4_exact 21 = .ok (.athrow, 1) := by decide +kernel
theorem dX4_exact_22 : decode cX4_exact 22 = .ok (.aload_n 0, 1) := by decide +kernel
theorem dX4_exact_23 : decode cX4_exact 23 = .ok (.getfield 10, 3) := by decide +kernel
theorem dX4_exact_26 : decode cX4_exact 26 = .ok (.iload_n 1, 1) := by decide +kernel
theorem dX4_exact_27 : decode cX4_exact 27 = .ok (.invokevirtual 290, 3) := by decide +kernel
theorem dX4_exact_30 : decode cX4_exact 30 = .ok (.ireturn, 1) := by decide +kernel
theorem dX4_unclear_0 : decode cX4_unclear 0 = .ok (.iload_n 1, 1) := by decide +kernel
theorem dX4_unclear_1 : decode cX4_unclear 1 = .ok (.iconst 1, 1) := by decide +kernel
theorem dX4_unclear_2 : decode cX4_unclear 2 = .ok (.if_icmp .lt 8, 3) := by decide +kernel
theorem dX4_unclear_5 : decode cX4_unclear 5 = .ok (.iload_n 1, 1) := by decide +kernel
theorem dX4_unclear_6 : decode cX4_unclear 6 = .ok (.iconst 4, 1) := by decide +kernel
theorem dX4_unclear_7 : decode cX4_unclear 7 = .ok (.if_icmp .le 14, 3) := by decide +kernel
theorem dX4_unclear_10 : decode cX4_unclear 10 = .ok (.new 70, 3) := by decide +kernel
theorem dX4_unclear_13 : decode cX4_unclear 13 = .ok (.dup, 1) := by decide +kernel
theorem dX4_unclear_14 : decode cX4_unclear 14 = .ok (.ldc_w 293, 3) := by decide +kernel
theorem dX4_unclear_17 : decode cX4_unclear 17 = .ok (.invokespecial 74, 3) := by decide +kernel
theorem dX4_unclear_20 : decode cX4_unclear 20 = .ok (.athrow, 1) := by decide +kernel
theorem dX4_unclear_21 : decode cX4_unclear 21 = .ok (.aload_n 0, 1) := by decide +kernel
theorem dX4_unclear_22 : decode cX4_unclear 22 = .ok (.getfield 10, 3) := by decide +kernel
theorem dX4_unclear_25 : decode cX4_unclear 25 = .ok (.iload_n 1, 1) := by decide +kernel
theorem dX4_unclear_26 : decode cX4_unclear 26 = .ok (.invokevirtual 295, 3) := by decide +kernel
theorem dX4_unclear_29 : decode cX4_unclear 29 = .ok (.ireturn, 1) := by decide +kernel
theorem dX4_wouldHelp_0 : decode cX4_wouldHelp 0 = .ok (.aload_n 0, 1) := by decide +kernel
theorem dX4_wouldHelp_1 : decode cX4_wouldHelp 1 = .ok (.getfield 10, 3) := by decide +kernel
theorem dX4_wouldHelp_4 : decode cX4_wouldHelp 4 = .ok (.iload_n 1, 1) := by decide +kernel
theorem dX4_wouldHelp_5 : decode cX4_wouldHelp 5 = .ok (.invokevirtual 80, 3) := by decide +kernel
theorem dX4_wouldHelp_8 : decode cX4_wouldHelp 8 = .ok (.ifCond .ne 13, 3) := by decide +kernel
theorem dX4_wouldHelp_11 : decode cX4_wouldHelp 11 = .ok (.new 83, 3) := by decide +kernel
theorem dX4_wouldHelp_14 : decode cX4_wouldHelp 14 = .ok (.dup, 1) := by decide +kernel
theorem dX4_wouldHelp_15 : decode cX4_wouldHelp 15 = .ok (.ldc 85, 2) := by decide +kernel
theorem dX4_wouldHelp_17 : decode cX4_wouldHelp 17 = .ok (.invokespecial 87, 3) := by decide +kernel
theorem dX4_wouldHelp_20 : decode cX4_wouldHelp 20 = .ok (.athrow, 1) := by decide +kernel
theorem dX4_wouldHelp_21 : decode cX4_wouldHelp 21 = .ok (.aload_n 0, 1) := by decide +kernel
theorem dX4_wouldHelp_22 : decode cX4_wouldHelp 22 = .ok (.getfield 10, 3) := by decide +kernel
theorem dX4_wouldHelp_25 : decode cX4_wouldHelp 25 = .ok (.aload_n 0, 1) := by decide +kernel
theorem dX4_wouldHelp_26 : decode cX4_wouldHelp 26 = .ok (.getfield 10, 3) := by decide +kernel
theorem dX4_wouldHelp_29 : decode cX4_wouldHelp 29 = .ok (.getfield 216, 3) := by decide +kernel
theorem dX4_wouldHelp_32 : decode cX4_wouldHelp 32 = .ok (.iconst 1, 1) := by decide +kernel
theorem dX4_wouldHelp_33 : decode cX4_wouldHelp 33 = .ok (.iload_n 1, 1) := by decide +kernel
theorem dX4_wouldHelp_34 : decode cX4_wouldHelp 34 = .ok (.ishl, 1) := by decide +kernel
theorem dX4_wouldHelp_35 : decode cX4_wouldHelp 35 = .ok (.ior, 1) := by decide +kernel
theorem dX4_wouldHelp_36 : decode cX4_wouldHelp 36 = .ok (.invokevirtual 258, 3) := by decide +kernel
theorem dX4_wouldHelp_39 : decode cX4_wouldHelp 39 = .ok (.ireturn, 1) := by decide +kernel
theorem dX4_bestDiode_0 : decode cX4_bestDiode 0 = .ok (.aload_n 0, 1) := by decide +kernel
theorem dX4_bestDiode_1 : decode cX4_bestDiode 1 = .ok (.getfield 10, 3) := by decide +kernel
theorem dX4_bestDiode_4 : decode cX4_bestDiode 4 = .ok (.invokevirtual 298, 3) := by decide +kernel
theorem dX4_bestDiode_7 : decode cX4_bestDiode 7 = .ok (.ireturn, 1) := by decide +kernel
theorem dX4_wouldGhost_0 : decode cX4_wouldGhost 0 = .ok (.aload_n 0, 1) := by decide +kernel
theorem dX4_wouldGhost_1 : decode cX4_wouldGhost 1 = .ok (.getfield 10, 3) := by decide +kernel
theorem dX4_wouldGhost_4 : decode cX4_wouldGhost 4 = .ok (.iload_n 1, 1) := by decide +kernel
theorem dX4_wouldGhost_5 : decode cX4_wouldGhost 5 = .ok (.invokevirtual 80, 3) := by decide +kernel
theorem dX4_wouldGhost_8 : decode cX4_wouldGhost 8 = .ok (.ifCond .ne 13, 3) := by decide +kernel
theorem dX4_wouldGhost_11 : decode cX4_wouldGhost 11 = .ok (.new 83, 3) := by decide +kernel
theorem dX4_wouldGhost_14 : decode cX4_wouldGhost 14 = .ok (.dup, 1) := by decide +kernel
theorem dX4_wouldGhost_15 : decode cX4_wouldGhost 15 = .ok (.ldc 85, 2) := by decide +kernel
theorem dX4_wouldGhost_17 : decode cX4_wouldGhost 17 = .ok (.invokespecial 87, 3) := by decide +kernel
theorem dX4_wouldGhost_20 : decode cX4_wouldGhost 20 = .ok (.athrow, 1) := by decide +kernel
theorem dX4_wouldGhost_21 : decode cX4_wouldGhost 21 = .ok (.aload_n 0, 1) := by decide +kernel
theorem dX4_wouldGhost_22 : decode cX4_wouldGhost 22 = .ok (.iload_n 1, 1) := by decide +kernel
theorem dX4_wouldGhost_23 : decode cX4_wouldGhost 23 = .ok (.invokevirtual 301, 3) := by decide +kernel
theorem dX4_wouldGhost_26 : decode cX4_wouldGhost 26 = .ok (.ireturn, 1) := by decide +kernel
theorem dX4_ghostsWith_0 : decode cX4_ghostsWith 0 = .ok (.aload_n 0, 1) := by decide +kernel
theorem dX4_ghostsWith_1 : decode cX4_ghostsWith 1 = .ok (.getfield 10, 3) := by decide +kernel
theorem dX4_ghostsWith_4 : decode cX4_ghostsWith 4 = .ok (.getfield 105, 3) := by decide +kernel
theorem dX4_ghostsWith_7 : decode cX4_ghostsWith 7 = .ok (.iload_n 1, 1) := by decide +kernel
theorem dX4_ghostsWith_8 : decode cX4_ghostsWith 8 = .ok (.invokestatic 153, 3) := by decide +kernel
theorem dX4_ghostsWith_11 : decode cX4_ghostsWith 11 = .ok (.ifCond .eq 21, 3) := by decide +kernel
theorem dX4_ghostsWith_14 : decode cX4_ghostsWith 14 = .ok (.aload_n 0, 1) := by decide +kernel
theorem dX4_ghostsWith_15 : decode cX4_ghostsWith 15 = .ok (.getfield 10, 3) := by decide +kernel
theorem dX4_ghostsWith_18 : decode cX4_ghostsWith 18 = .ok (.aload_n 0, 1) := by decide +kernel
theorem dX4_ghostsWith_19 : decode cX4_ghostsWith 19 = .ok (.getfield 60, 3) := by decide +kernel
theorem dX4_ghostsWith_22 : decode cX4_ghostsWith 22 = .ok (.iconst 1, 1) := by decide +kernel
theorem dX4_ghostsWith_23 : decode cX4_ghostsWith 23 = .ok (.iload_n 1, 1) := by decide +kernel
theorem dX4_ghostsWith_24 : decode cX4_ghostsWith 24 = .ok (.ishl, 1) := by decide +kernel
theorem dX4_ghostsWith_25 : decode cX4_ghostsWith 25 = .ok (.ior, 1) := by decide +kernel
theorem dX4_ghostsWith_26 : decode cX4_ghostsWith 26 = .ok (.invokevirtual 304, 3) := by decide +kernel
theorem dX4_ghostsWith_29 : decode cX4_ghostsWith 29 = .ok (.goto 4, 3) := by decide +kernel
theorem dX4_ghostsWith_32 : decode cX4_ghostsWith 32 = .ok (.iconst 0, 1) := by decide +kernel
theorem dX4_ghostsWith_33 : decode cX4_ghostsWith 33 = .ok (.ireturn, 1) := by decide +kernel
theorem dX4_isSound_0 : decode cX4_isSound 0 = .ok (.aload_n 0, 1) := by decide +kernel
theorem dX4_isSound_1 : decode cX4_isSound 1 = .ok (.getfield 19, 3) := by decide +kernel
theorem dX4_isSound_4 : decode cX4_isSound 4 = .ok (.getfield 159, 3) := by decide +kernel
theorem dX4_isSound_7 : decode cX4_isSound 7 = .ok (.aload_n 0, 1) := by decide +kernel
theorem dX4_isSound_8 : decode cX4_isSound 8 = .ok (.getfield 10, 3) := by decide +kernel
theorem dX4_isSound_11 : decode cX4_isSound 11 = .ok (.getfield 105, 3) := by decide +kernel
theorem dX4_isSound_14 : decode cX4_isSound 14 = .ok (.iconst (-1), 1) := by decide +kernel
theorem dX4_isSound_15 : decode cX4_isSound 15 = .ok (.ixor, 1) := by decide +kernel
theorem dX4_isSound_16 : decode cX4_isSound 16 = .ok (.iand, 1) := by decide +kernel
theorem dX4_isSound_17 : decode cX4_isSound 17 = .ok (.ifCond .ne 7, 3) := by decide +kernel
theorem dX4_isSound_20 : decode cX4_isSound 20 = .ok (.iconst 1, 1) := by decide +kernel
theorem dX4_isSound_21 : decode cX4_isSound 21 = .ok (.goto 4, 3) := by decide +kernel
theorem dX4_isSound_24 : decode cX4_isSound 24 = .ok (.iconst 0, 1) := by decide +kernel
theorem dX4_isSound_25 : decode cX4_isSound 25 = .ok (.istore_n 1, 1) := by decide +kernel
theorem dX4_isSound_26 : decode cX4_isSound 26 = .ok (.aload_n 0, 1) := by decide +kernel
theorem dX4_isSound_27 : decode cX4_isSound 27 = .ok (.getfield 33, 3) := by decide +kernel
theorem dX4_isSound_30 : decode cX4_isSound 30 = .ok (.getfield 267, 3) := by decide +kernel
theorem dX4_isSound_33 : decode cX4_isSound 33 = .ok (.invokevirtual 307, 3) := by decide +kernel
theorem dX4_isSound_36 : decode cX4_isSound 36 = .ok (.bipush 60, 2) := by decide +kernel
theorem dX4_isSound_38 : decode cX4_isSound 38 = .ok (.if_icmp .gt 7, 3) := by decide +kernel
theorem dX4_isSound_41 : decode cX4_isSound 41 = .ok (.iconst 1, 1) := by decide +kernel
theorem dX4_isSound_42 : decode cX4_isSound 42 = .ok (.goto 4, 3) := by decide +kernel
theorem dX4_isSound_45 : decode cX4_isSound 45 = .ok (.iconst 0, 1) := by decide +kernel
theorem dX4_isSound_46 : decode cX4_isSound 46 = .ok (.istore_n 2, 1) := by decide +kernel
theorem dX4_isSound_47 : decode cX4_isSound 47 = .ok (.iload_n 1, 1) := by decide +kernel
theorem dX4_isSound_48 : decode cX4_isSound 48 = .ok (.ifCond .eq 31, 3) := by decide +kernel
theorem dX4_isSound_51 : decode cX4_isSound 51 = .ok (.iload_n 2, 1) := by decide +kernel
theorem dX4_isSound_52 : decode cX4_isSound 52 = .ok (.ifCond .eq 27, 3) := by decide +kernel
theorem dX4_isSound_55 : decode cX4_isSound 55 = .ok (.aload_n 0, 1) := by decide +kernel
theorem dX4_isSound_56 : decode cX4_isSound 56 = .ok (.getfield 10, 3) := by decide +kernel
theorem dX4_isSound_59 : decode cX4_isSound 59 = .ok (.invokevirtual 310, 3) := by decide +kernel
theorem dX4_isSound_62 : decode cX4_isSound 62 = .ok (.ifCond .eq 17, 3) := by decide +kernel
theorem dX4_isSound_65 : decode cX4_isSound 65 = .ok (.aload_n 0, 1) := by decide +kernel
theorem dX4_isSound_66 : decode cX4_isSound 66 = .ok (.getfield 10, 3) := by decide +kernel
theorem dX4_isSound_69 : decode cX4_isSound 69 = .ok (.invokevirtual 313, 3) := by decide +kernel
theorem dX4_isSound_72 : decode cX4_isSound 72 = .ok (.ifCond .eq 7, 3) := by decide +kernel
theorem dX4_isSound_75 : decode cX4_isSound 75 = .ok (.iconst 1, 1) := by decide +kernel
theorem dX4_isSound_76 : decode cX4_isSound 76 = .ok (.goto 4, 3) := by decide +kernel
theorem dX4_isSound_79 : decode cX4_isSound 79 = .ok (.iconst 0, 1) := by decide +kernel
theorem dX4_isSound_80 : decode cX4_isSound 80 = .ok (.ireturn, 1) := by decide +kernel
theorem dX4_digest_0 : decode cX4_digest 0 = .ok (.ldc2_w 316, 3) := by decide +kernel
theorem dX4_digest_3 : decode cX4_digest 3 = .ok (.lstore_n 1, 1) := by decide +kernel
theorem dX4_digest_4 : decode cX4_digest 4 = .ok (.iconst 0, 1) := by decide +kernel
theorem dX4_digest_5 : decode cX4_digest 5 = .ok (.istore_n 3, 1) := by decide +kernel
theorem dX4_digest_6 : decode cX4_digest 6 = .ok (.iload_n 3, 1) := by decide +kernel
theorem dX4_digest_7 : decode cX4_digest 7 = .ok (.bipush 14, 2) := by decide +kernel
theorem dX4_digest_9 : decode cX4_digest 9 = .ok (.if_icmp .gt 22, 3) := by decide +kernel
theorem dX4_digest_12 : decode cX4_digest 12 = .ok (.lload_n 1, 1) := by decide +kernel
theorem dX4_digest_13 : decode cX4_digest 13 = .ok (.ldc2_w 318, 3) := by decide +kernel
theorem dX4_digest_16 : decode cX4_digest 16 = .ok (.lmul, 1) := by decide +kernel
theorem dX4_digest_17 : decode cX4_digest 17 = .ok (.aload_n 0, 1) := by decide +kernel
theorem dX4_digest_18 : decode cX4_digest 18 = .ok (.iload_n 3, 1) := by decide +kernel
theorem dX4_digest_19 : decode cX4_digest 19 = .ok (.invokevirtual 244, 3) := by decide +kernel
theorem dX4_digest_22 : decode cX4_digest 22 = .ok (.i2l, 1) := by decide +kernel
theorem dX4_digest_23 : decode cX4_digest 23 = .ok (.ladd, 1) := by decide +kernel
theorem dX4_digest_24 : decode cX4_digest 24 = .ok (.lstore_n 1, 1) := by decide +kernel
theorem dX4_digest_25 : decode cX4_digest 25 = .ok (.iinc 3 1, 3) := by decide +kernel
theorem dX4_digest_28 : decode cX4_digest 28 = .ok (.goto (-22), 3) := by decide +kernel
theorem dX4_digest_31 : decode cX4_digest 31 = .ok (.iconst 0, 1) := by decide +kernel
theorem dX4_digest_32 : decode cX4_digest 32 = .ok (.istore_n 3, 1) := by decide +kernel
theorem dX4_digest_33 : decode cX4_digest 33 = .ok (.iload_n 3, 1) := by decide +kernel
theorem dX4_digest_34 : decode cX4_digest 34 = .ok (.iconst 5, 1) := by decide +kernel
theorem dX4_digest_35 : decode cX4_digest 35 = .ok (.if_icmp .gt 22, 3) := by decide +kernel
theorem dX4_digest_38 : decode cX4_digest 38 = .ok (.lload_n 1, 1) := by decide +kernel
theorem dX4_digest_39 : decode cX4_digest 39 = .ok (.ldc2_w 318, 3) := by decide +kernel
theorem dX4_digest_42 : decode cX4_digest 42 = .ok (.lmul, 1) := by decide +kernel
theorem dX4_digest_43 : decode cX4_digest 43 = .ok (.aload_n 0, 1) := by decide +kernel
theorem dX4_digest_44 : decode cX4_digest 44 = .ok (.iload_n 3, 1) := by decide +kernel
theorem dX4_digest_45 : decode cX4_digest 45 = .ok (.invokevirtual 239, 3) := by decide +kernel
theorem dX4_digest_48 : decode cX4_digest 48 = .ok (.i2l, 1) := by decide +kernel
theorem dX4_digest_49 : decode cX4_digest 49 = .ok (.ladd, 1) := by decide +kernel
theorem dX4_digest_50 : decode cX4_digest 50 = .ok (.lstore_n 1, 1) := by decide +kernel
theorem dX4_digest_51 : decode cX4_digest 51 = .ok (.iinc 3 1, 3) := by decide +kernel
theorem dX4_digest_54 : decode cX4_digest 54 = .ok (.goto (-21), 3) := by decide +kernel
theorem dX4_digest_57 : decode cX4_digest 57 = .ok (.iconst 0, 1) := by decide +kernel
theorem dX4_digest_58 : decode cX4_digest 58 = .ok (.istore_n 3, 1) := by decide +kernel
theorem dX4_digest_59 : decode cX4_digest 59 = .ok (.iload_n 3, 1) := by decide +kernel
theorem dX4_digest_60 : decode cX4_digest 60 = .ok (.aload_n 0, 1) := by decide +kernel
theorem dX4_digest_61 : decode cX4_digest 61 = .ok (.getfield 10, 3) := by decide +kernel
theorem dX4_digest_64 : decode cX4_digest 64 = .ok (.getfield 77, 3) := by decide +kernel
theorem dX4_digest_67 : decode cX4_digest 67 = .ok (.if_icmp .ge 53, 3) := by decide +kernel
theorem dX4_digest_70 : decode cX4_digest 70 = .ok (.iconst 0, 1) := by decide +kernel
theorem dX4_digest_71 : decode cX4_digest 71 = .ok (.istore 4, 2) := by decide +kernel
theorem dX4_digest_73 : decode cX4_digest 73 = .ok (.iload 4, 2) := by decide +kernel
theorem dX4_digest_75 : decode cX4_digest 75 = .ok (.bipush 10, 2) := by decide +kernel
theorem dX4_digest_77 : decode cX4_digest 77 = .ok (.if_icmp .gt 24, 3) := by decide +kernel
theorem dX4_digest_80 : decode cX4_digest 80 = .ok (.lload_n 1, 1) := by decide +kernel
theorem dX4_digest_81 : decode cX4_digest 81 = .ok (.ldc2_w 318, 3) := by decide +kernel
theorem dX4_digest_84 : decode cX4_digest 84 = .ok (.lmul, 1) := by decide +kernel
theorem dX4_digest_85 : decode cX4_digest 85 = .ok (.aload_n 0, 1) := by decide +kernel
theorem dX4_digest_86 : decode cX4_digest 86 = .ok (.iload_n 3, 1) := by decide +kernel
theorem dX4_digest_87 : decode cX4_digest 87 = .ok (.iload 4, 2) := by decide +kernel
theorem dX4_digest_89 : decode cX4_digest 89 = .ok (.invokevirtual 209, 3) := by decide +kernel
theorem dX4_digest_92 : decode cX4_digest 92 = .ok (.i2l, 1) := by decide +kernel
theorem dX4_digest_93 : decode cX4_digest 93 = .ok (.ladd, 1) := by decide +kernel
theorem dX4_digest_94 : decode cX4_digest 94 = .ok (.lstore_n 1, 1) := by decide +kernel
theorem dX4_digest_95 : decode cX4_digest 95 = .ok (.iinc 4 1, 3) := by decide +kernel
theorem dX4_digest_98 : decode cX4_digest 98 = .ok (.goto (-25), 3) := by decide +kernel
theorem dX4_digest_101 : decode cX4_digest 101 = .ok (.lload_n 1, 1) := by decide +kernel
theorem dX4_digest_102 : decode cX4_digest 102 = .ok (.ldc2_w 318, 3) := by decide +kernel
theorem dX4_digest_105 : decode cX4_digest 105 = .ok (.lmul, 1) := by decide +kernel
theorem dX4_digest_106 : decode cX4_digest 106 = .ok (.aload_n 0, 1) := by decide +kernel
theorem dX4_digest_107 : decode cX4_digest 107 = .ok (.iload_n 3, 1) := by decide +kernel
theorem dX4_digest_108 : decode cX4_digest 108 = .ok (.invokevirtual 301, 3) := by decide +kernel
theorem dX4_digest_111 : decode cX4_digest 111 = .ok (.i2l, 1) := by decide +kernel
theorem dX4_digest_112 : decode cX4_digest 112 = .ok (.ladd, 1) := by decide +kernel
theorem dX4_digest_113 : decode cX4_digest 113 = .ok (.lstore_n 1, 1) := by decide +kernel
theorem dX4_digest_114 : decode cX4_digest 114 = .ok (.iinc 3 1, 3) := by decide +kernel
theorem dX4_digest_117 : decode cX4_digest 117 = .ok (.goto (-58), 3) := by decide +kernel
theorem dX4_digest_120 : decode cX4_digest 120 = .ok (.iconst 0, 1) := by decide +kernel
theorem dX4_digest_121 : decode cX4_digest 121 = .ok (.istore_n 3, 1) := by decide +kernel
theorem dX4_digest_122 : decode cX4_digest 122 = .ok (.iload_n 3, 1) := by decide +kernel
theorem dX4_digest_123 : decode cX4_digest 123 = .ok (.aload_n 0, 1) := by decide +kernel
theorem dX4_digest_124 : decode cX4_digest 124 = .ok (.getfield 33, 3) := by decide +kernel
theorem dX4_digest_127 : decode cX4_digest 127 = .ok (.getfield 267, 3) := by decide +kernel
theorem dX4_digest_130 : decode cX4_digest 130 = .ok (.invokevirtual 307, 3) := by decide +kernel
theorem dX4_digest_133 : decode cX4_digest 133 = .ok (.if_icmp .ge 28, 3) := by decide +kernel
theorem dX4_digest_136 : decode cX4_digest 136 = .ok (.lload_n 1, 1) := by decide +kernel
theorem dX4_digest_137 : decode cX4_digest 137 = .ok (.ldc2_w 318, 3) := by decide +kernel
theorem dX4_digest_140 : decode cX4_digest 140 = .ok (.lmul, 1) := by decide +kernel
theorem dX4_digest_141 : decode cX4_digest 141 = .ok (.aload_n 0, 1) := by decide +kernel
theorem dX4_digest_142 : decode cX4_digest 142 = .ok (.getfield 33, 3) := by decide +kernel
theorem dX4_digest_145 : decode cX4_digest 145 = .ok (.getfield 267, 3) := by decide +kernel
theorem dX4_digest_148 : decode cX4_digest 148 = .ok (.iload_n 3, 1) := by decide +kernel
theorem dX4_digest_149 : decode cX4_digest 149 = .ok (.invokevirtual 320, 3) := by decide +kernel
theorem dX4_digest_152 : decode cX4_digest 152 = .ok (.i2l, 1) := by decide +kernel
theorem dX4_digest_153 : decode cX4_digest 153 = .ok (.ladd, 1) := by decide +kernel
theorem dX4_digest_154 : decode cX4_digest 154 = .ok (.lstore_n 1, 1) := by decide +kernel
theorem dX4_digest_155 : decode cX4_digest 155 = .ok (.iinc 3 1, 3) := by decide +kernel
theorem dX4_digest_158 : decode cX4_digest 158 = .ok (.goto (-36), 3) := by decide +kernel
theorem dX4_digest_161 : decode cX4_digest 161 = .ok (.lload_n 1, 1) := by decide +kernel
theorem dX4_digest_162 : decode cX4_digest 162 = .ok (.ldc2_w 318, 3) := by decide +kernel
theorem dX4_digest_165 : decode cX4_digest 165 = .ok (.lmul, 1) := by decide +kernel
theorem dX4_digest_166 : decode cX4_digest 166 = .ok (.aload_n 0, 1) := by decide +kernel
theorem dX4_digest_167 : decode cX4_digest 167 = .ok (.getfield 10, 3) := by decide +kernel
theorem dX4_digest_170 : decode cX4_digest 170 = .ok (.iconst 3, 1) := by decide +kernel
theorem dX4_digest_171 : decode cX4_digest 171 = .ok (.invokevirtual 295, 3) := by decide +kernel
theorem dX4_digest_174 : decode cX4_digest 174 = .ok (.i2l, 1) := by decide +kernel
theorem dX4_digest_175 : decode cX4_digest 175 = .ok (.ladd, 1) := by decide +kernel
theorem dX4_digest_176 : decode cX4_digest 176 = .ok (.lstore_n 1, 1) := by decide +kernel
theorem dX4_digest_177 : decode cX4_digest 177 = .ok (.lload_n 1, 1) := by decide +kernel
theorem dX4_digest_178 : decode cX4_digest 178 = .ok (.ldc2_w 318, 3) := by decide +kernel
theorem dX4_digest_181 : decode cX4_digest 181 = .ok (.lmul, 1) := by decide +kernel
theorem dX4_digest_182 : decode cX4_digest 182 = .ok (.aload_n 0, 1) := by decide +kernel
theorem dX4_digest_183 : decode cX4_digest 183 = .ok (.getfield 10, 3) := by decide +kernel
theorem dX4_digest_186 : decode cX4_digest 186 = .ok (.invokevirtual 298, 3) := by decide +kernel
theorem dX4_digest_189 : decode cX4_digest 189 = .ok (.i2l, 1) := by decide +kernel
theorem dX4_digest_190 : decode cX4_digest 190 = .ok (.ladd, 1) := by decide +kernel
theorem dX4_digest_191 : decode cX4_digest 191 = .ok (.lstore_n 1, 1) := by decide +kernel
theorem dX4_digest_192 : decode cX4_digest 192 = .ok (.lload_n 1, 1) := by decide +kernel
theorem dX4_digest_193 : decode cX4_digest 193 = .ok (.ldc2_w 318, 3) := by decide +kernel
theorem dX4_digest_196 : decode cX4_digest 196 = .ok (.lmul, 1) := by decide +kernel
theorem dX4_digest_197 : decode cX4_digest 197 = .ok (.ldc2_w 323, 3) := by decide +kernel
theorem dX4_digest_200 : decode cX4_digest 200 = .ok (.aload_n 0, 1) := by decide +kernel
theorem dX4_digest_201 : decode cX4_digest 201 = .ok (.invokevirtual 325, 3) := by decide +kernel
theorem dX4_digest_204 : decode cX4_digest 204 = .ok (.dmul, 1) := by decide +kernel
theorem dX4_digest_205 : decode cX4_digest 205 = .ok (.d2l, 1) := by decide +kernel
theorem dX4_digest_206 : decode cX4_digest 206 = .ok (.ladd, 1) := by decide +kernel
theorem dX4_digest_207 : decode cX4_digest 207 = .ok (.lstore_n 1, 1) := by decide +kernel
theorem dX4_digest_208 : decode cX4_digest 208 = .ok (.lload_n 1, 1) := by decide +kernel
theorem dX4_digest_209 : decode cX4_digest 209 = .ok (.ldc2_w 318, 3) := by decide +kernel
theorem dX4_digest_212 : decode cX4_digest 212 = .ok (.lmul, 1) := by decide +kernel
theorem dX4_digest_213 : decode cX4_digest 213 = .ok (.aload_n 0, 1) := by decide +kernel
theorem dX4_digest_214 : decode cX4_digest 214 = .ok (.invokevirtual 329, 3) := by decide +kernel
theorem dX4_digest_217 : decode cX4_digest 217 = .ok (.invokestatic 212, 3) := by decide +kernel
theorem dX4_digest_220 : decode cX4_digest 220 = .ok (.i2l, 1) := by decide +kernel
theorem dX4_digest_221 : decode cX4_digest 221 = .ok (.ladd, 1) := by decide +kernel
theorem dX4_digest_222 : decode cX4_digest 222 = .ok (.lreturn, 1) := by decide +kernel
theorem dX4_holds_0 : decode cX4_holds 0 = .ok (.iload_n 0, 1) := by decide +kernel
theorem dX4_holds_1 : decode cX4_holds 1 = .ok (.iload_n 1, 1) := by decide +kernel
theorem dX4_holds_2 : decode cX4_holds 2 = .ok (.ishr, 1) := by decide +kernel
theorem dX4_holds_3 : decode cX4_holds 3 = .ok (.iconst 1, 1) := by decide +kernel
theorem dX4_holds_4 : decode cX4_holds 4 = .ok (.iand, 1) := by decide +kernel
theorem dX4_holds_5 : decode cX4_holds 5 = .ok (.iconst 1, 1) := by decide +kernel
theorem dX4_holds_6 : decode cX4_holds 6 = .ok (.if_icmp .ne 7, 3) := by decide +kernel
theorem dX4_holds_9 : decode cX4_holds 9 = .ok (.iconst 1, 1) := by decide +kernel
theorem dX4_holds_10 : decode cX4_holds 10 = .ok (.goto 4, 3) := by decide +kernel
theorem dX4_holds_13 : decode cX4_holds 13 = .ok (.iconst 0, 1) := by decide +kernel
theorem dX4_holds_14 : decode cX4_holds 14 = .ok (.ireturn, 1) := by decide +kernel
theorem dX4_oneIf_0 : decode cX4_oneIf 0 = .ok (.iload_n 0, 1) := by decide +kernel
theorem dX4_oneIf_1 : decode cX4_oneIf 1 = .ok (.ifCond .eq 7, 3) := by decide +kernel
theorem dX4_oneIf_4 : decode cX4_oneIf 4 = .ok (.iconst 1, 1) := by decide +kernel
theorem dX4_oneIf_5 : decode cX4_oneIf 5 = .ok (.goto 4, 3) := by decide +kernel
theorem dX4_oneIf_8 : decode cX4_oneIf 8 = .ok (.iconst 0, 1) := by decide +kernel
theorem dX4_oneIf_9 : decode cX4_oneIf 9 = .ok (.ireturn, 1) := by decide +kernel
