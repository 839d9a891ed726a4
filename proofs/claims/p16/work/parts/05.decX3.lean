theorem dX3_init_0 : decode cX3_init 0 = .ok (.aload_n 0, 1) := by decide +kernel
theorem dX3_init_1 : decode cX3_init 1 = .ok (.invokespecial 3, 3) := by decide +kernel
theorem dX3_init_4 : decode cX3_init 4 = .ok (.return_, 1) := by decide +kernel
theorem dX3_startAnew_0 : decode cX3_startAnew 0 = .ok (.aload_n 0, 1) := by decide +kernel
theorem dX3_startAnew_1 : decode cX3_startAnew 1 = .ok (.iload_n 1, 1) := by decide +kernel
theorem dX3_startAnew_2 : decode cX3_startAnew 2 = .ok (.putfield 9, 3) := by decide +kernel
theorem dX3_startAnew_5 : decode cX3_startAnew 5 = .ok (.aload_n 0, 1) := by decide +kernel
theorem dX3_startAnew_6 : decode cX3_startAnew 6 = .ok (.iload_n 2, 1) := by decide +kernel
theorem dX3_startAnew_7 : decode cX3_startAnew 7 = .ok (.putfield 15, 3) := by decide +kernel
theorem dX3_startAnew_10 : decode cX3_startAnew 10 = .ok (.aload_n 0, 1) := by decide +kernel
theorem dX3_startAnew_11 : decode cX3_startAnew 11 = .ok (.iload_n 1, 1) := by decide +kernel
theorem dX3_startAnew_12 : decode cX3_startAnew 12 = .ok (.iload_n 2, 1) := by decide +kernel
theorem dX3_startAnew_13 : decode cX3_startAnew 13 = .ok (.imul, 1) := by decide +kernel
theorem dX3_startAnew_14 : decode cX3_startAnew 14 = .ok (.putfield 18, 3) := by decide +kernel
theorem dX3_startAnew_17 : decode cX3_startAnew 17 = .ok (.aload_n 0, 1) := by decide +kernel
theorem dX3_startAnew_18 : decode cX3_startAnew 18 = .ok (.iconst 1, 1) := by decide +kernel
theorem dX3_startAnew_19 : decode cX3_startAnew 19 = .ok (.aload_n 0, 1) := by decide +kernel
theorem dX3_startAnew_20 : decode cX3_startAnew 20 = .ok (.getfield 18, 3) := by decide +kernel
theorem dX3_startAnew_23 : decode cX3_startAnew 23 = .ok (.ishl, 1) := by decide +kernel
theorem dX3_startAnew_24 : decode cX3_startAnew 24 = .ok (.iconst 1, 1) := by decide +kernel
theorem dX3_startAnew_25 : decode cX3_startAnew 25 = .ok (.isub, 1) := by decide +kernel
theorem dX3_startAnew_26 : decode cX3_startAnew 26 = .ok (.putfield 21, 3) := by decide +kernel
theorem dX3_startAnew_29 : decode cX3_startAnew 29 = .ok (.aload_n 0, 1) := by decide +kernel
theorem dX3_startAnew_30 : decode cX3_startAnew 30 = .ok (.iconst 0, 1) := by decide +kernel
theorem dX3_startAnew_31 : decode cX3_startAnew 31 = .ok (.putfield 24, 3) := by decide +kernel
theorem dX3_startAnew_34 : decode cX3_startAnew 34 = .ok (.aload_n 0, 1) := by decide +kernel
theorem dX3_startAnew_35 : decode cX3_startAnew 35 = .ok (.iconst 0, 1) := by decide +kernel
theorem dX3_startAnew_36 : decode cX3_startAnew 36 = .ok (.putfield 27, 3) := by decide +kernel
theorem dX3_startAnew_39 : decode cX3_startAnew 39 = .ok (.aload_n 0, 1) := by decide +kernel
theorem dX3_startAnew_40 : decode cX3_startAnew 40 = .ok (.aload_n 0, 1) := by decide +kernel
theorem dX3_startAnew_41 : decode cX3_startAnew 41 = .ok (.getfield 21, 3) := by decide +kernel
theorem dX3_startAnew_44 : decode cX3_startAnew 44 = .ok (.putfield 30, 3) := by decide +kernel
theorem dX3_startAnew_47 : decode cX3_startAnew 47 = .ok (.return_, 1) := by decide +kernel
theorem dX3_hasKey_0 : decode cX3_hasKey 0 = .ok (.iload_n 1, 1) := by decide +kernel
theorem dX3_hasKey_1 : decode cX3_hasKey 1 = .ok (.ifCond .lt 15, 3) := by decide +kernel
theorem dX3_hasKey_4 : decode cX3_hasKey 4 = .ok (.iload_n 1, 1) := by decide +kernel
theorem dX3_hasKey_5 : decode cX3_hasKey 5 = .ok (.aload_n 0, 1) := by decide +kernel
theorem dX3_hasKey_6 : decode cX3_hasKey 6 = .ok (.getfield 18, 3) := by decide +kernel
theorem dX3_hasKey_9 : decode cX3_hasKey 9 = .ok (.if_icmp .ge 7, 3) := by decide +kernel
theorem dX3_hasKey_12 : decode cX3_hasKey 12 = .ok (.iconst 1, 1) := by decide +kernel
theorem dX3_hasKey_13 : decode cX3_hasKey 13 = .ok (.goto 4, 3) := by decide +kernel
theorem dX3_hasKey_16 : decode cX3_hasKey 16 = .ok (.iconst 0, 1) := by decide +kernel
theorem dX3_hasKey_17 : decode cX3_hasKey 17 = .ok (.ireturn, 1) := by decide +kernel
theorem dX3_isSet_0 : decode cX3_isSet 0 = .ok (.iload_n 1, 1) := by decide +kernel
theorem dX3_isSet_1 : decode cX3_isSet 1 = .ok (.ifCond .lt 17, 3) := by decide +kernel
theorem dX3_isSet_4 : decode cX3_isSet 4 = .ok (.iload_n 1, 1) := by decide +kernel
theorem dX3_isSet_5 : decode cX3_isSet 5 = .ok (.iconst 1, 1) := by decide +kernel
theorem dX3_isSet_6 : decode cX3_isSet 6 = .ok (.aload_n 0, 1) := by decide +kernel
theorem dX3_isSet_7 : decode cX3_isSet 7 = .ok (.getfield 18, 3) := by decide +kernel
theorem dX3_isSet_10 : decode cX3_isSet 10 = .ok (.ishl, 1) := by decide +kernel
theorem dX3_isSet_11 : decode cX3_isSet 11 = .ok (.if_icmp .ge 7, 3) := by decide +kernel
theorem dX3_isSet_14 : decode cX3_isSet 14 = .ok (.iconst 1, 1) := by decide +kernel
theorem dX3_isSet_15 : decode cX3_isSet 15 = .ok (.goto 4, 3) := by decide +kernel
theorem dX3_isSet_18 : decode cX3_isSet 18 = .ok (.iconst 0, 1) := by decide +kernel
theorem dX3_isSet_19 : decode cX3_isSet 19 = .ok (.ireturn, 1) := by decide +kernel
theorem dX3_fit_0 : decode cX3_fit 0 = .ok (.iconst 1, 1) := by decide +kernel
theorem dX3_fit_1 : decode cX3_fit 1 = .ok (.iload_n 1, 1) := by decide +kernel
theorem dX3_fit_2 : decode cX3_fit 2 = .ok (.ishl, 1) := by decide +kernel
theorem dX3_fit_3 : decode cX3_fit 3 = .ok (.istore 4, 2) := by decide +kernel
theorem dX3_fit_5 : decode cX3_fit 5 = .ok (.aload_n 0, 1) := by decide +kernel
theorem dX3_fit_6 : decode cX3_fit 6 = .ok (.iload_n 2, 1) := by decide +kernel
theorem dX3_fit_7 : decode cX3_fit 7 = .ok (.ifCond .eq 13, 3) := by decide +kernel
theorem dX3_fit_10 : decode cX3_fit 10 = .ok (.aload_n 0, 1) := by decide +kernel
theorem dX3_fit_11 : decode cX3_fit 11 = .ok (.getfield 21, 3) := by decide +kernel
theorem dX3_fit_14 : decode cX3_fit 14 = .ok (.iload 4, 2) := by decide +kernel
theorem dX3_fit_16 : decode cX3_fit 16 = .ok (.ior, 1) := by decide +kernel
theorem dX3_fit_17 : decode cX3_fit 17 = .ok (.goto 12, 3) := by decide +kernel
theorem dX3_fit_20 : decode cX3_fit 20 = .ok (.aload_n 0, 1) := by decide +kernel
theorem dX3_fit_21 : decode cX3_fit 21 = .ok (.getfield 21, 3) := by decide +kernel
theorem dX3_fit_24 : decode cX3_fit 24 = .ok (.iload 4, 2) := by decide +kernel
theorem dX3_fit_26 : decode cX3_fit 26 = .ok (.iconst (-1), 1) := by decide +kernel
theorem dX3_fit_27 : decode cX3_fit 27 = .ok (.ixor, 1) := by decide +kernel
theorem dX3_fit_28 : decode cX3_fit 28 = .ok (.iand, 1) := by decide +kernel
theorem dX3_fit_29 : decode cX3_fit 29 = .ok (.putfield 21, 3) := by decide +kernel
theorem dX3_fit_32 : decode cX3_fit 32 = .ok (.aload_n 0, 1) := by decide +kernel
theorem dX3_fit_33 : decode cX3_fit 33 = .ok (.iload_n 3, 1) := by decide +kernel
theorem dX3_fit_34 : decode cX3_fit 34 = .ok (.ifCond .eq 13, 3) := by decide +kernel
theorem dX3_fit_37 : decode cX3_fit 37 = .ok (.aload_n 0, 1) := by decide +kernel
theorem dX3_fit_38 : decode cX3_fit 38 = .ok (.getfield 24, 3) := by decide +kernel
theorem dX3_fit_41 : decode cX3_fit 41 = .ok (.iload 4, 2) := by decide +kernel
theorem dX3_fit_43 : decode cX3_fit 43 = .ok (.ior, 1) := by decide +kernel
theorem dX3_fit_44 : decode cX3_fit 44 = .ok (.goto 12, 3) := by decide +kernel
theorem dX3_fit_47 : decode cX3_fit 47 = .ok (.aload_n 0, 1) := by decide +kernel
theorem dX3_fit_48 : decode cX3_fit 48 = .ok (.getfield 24, 3) := by decide +kernel
theorem dX3_fit_51 : decode cX3_fit 51 = .ok (.iload 4, 2) := by decide +kernel
theorem dX3_fit_53 : decode cX3_fit 53 = .ok (.iconst (-1), 1) := by decide +kernel
theorem dX3_fit_54 : decode cX3_fit 54 = .ok (.ixor, 1) := by decide +kernel
theorem dX3_fit_55 : decode cX3_fit 55 = .ok (.iand, 1) := by decide +kernel
theorem dX3_fit_56 : decode cX3_fit 56 = .ok (.putfield 24, 3) := by decide +kernel
theorem dX3_fit_59 : decode cX3_fit 59 = .ok (.aload_n 0, 1) := by decide +kernel
theorem dX3_fit_60 : decode cX3_fit 60 = .ok (.invokevirtual 33, 3) := by decide +kernel
theorem dX3_fit_63 : decode cX3_fit 63 = .ok (.return_, 1) := by decide +kernel
theorem dX3_breakLine_0 : decode cX3_breakLine 0 = .ok (.iconst 1, 1) := by decide +kernel
theorem dX3_breakLine_1 : decode cX3_breakLine 1 = .ok (.iload_n 1, 1) := by decide +kernel
theorem dX3_breakLine_2 : decode cX3_breakLine 2 = .ok (.ishl, 1) := by decide +kernel
theorem dX3_breakLine_3 : decode cX3_breakLine 3 = .ok (.istore_n 3, 1) := by decide +kernel
theorem dX3_breakLine_4 : decode cX3_breakLine 4 = .ok (.aload_n 0, 1) := by decide +kernel
theorem dX3_breakLine_5 : decode cX3_breakLine 5 = .ok (.iload_n 2, 1) := by decide +kernel
theorem dX3_breakLine_6 : decode cX3_breakLine 6 = .ok (.ifCond .eq 12, 3) := by decide +kernel
theorem dX3_breakLine_9 : decode cX3_breakLine 9 = .ok (.aload_n 0, 1) := by decide +kernel
theorem dX3_breakLine_10 : decode cX3_breakLine 10 = .ok (.getfield 27, 3) := by decide +kernel
theorem dX3_breakLine_13 : decode cX3_breakLine 13 = .ok (.iload_n 3, 1) := by decide +kernel
theorem dX3_breakLine_14 : decode cX3_breakLine 14 = .ok (.ior, 1) := by decide +kernel
theorem dX3_breakLine_15 : decode cX3_breakLine 15 = .ok (.goto 11, 3) := by decide +kernel
theorem dX3_breakLine_18 : decode cX3_breakLine 18 = .ok (.aload_n 0, 1) := by decide +kernel
theorem dX3_breakLine_19 : decode cX3_breakLine 19 = .ok (.getfield 27, 3) := by decide +kernel
theorem dX3_breakLine_22 : decode cX3_breakLine 22 = .ok (.iload_n 3, 1) := by decide +kernel
theorem dX3_breakLine_23 : decode cX3_breakLine 23 = .ok (.iconst (-1), 1) := by decide +kernel
theorem dX3_breakLine_24 : decode cX3_breakLine 24 = .ok (.ixor, 1) := by decide +kernel
theorem dX3_breakLine_25 : decode cX3_breakLine 25 = .ok (.iand, 1) := by decide +kernel
theorem dX3_breakLine_26 : decode cX3_breakLine 26 = .ok (.putfield 27, 3) := by decide +kernel
theorem dX3_breakLine_29 : decode cX3_breakLine 29 = .ok (.aload_n 0, 1) := by decide +kernel
theorem dX3_breakLine_30 : decode cX3_breakLine 30 = .ok (.invokevirtual 33, 3) := by decide +kernel
theorem dX3_breakLine_33 : decode cX3_breakLine 33 = .ok (.return_, 1) := by decide +kernel
theorem dX3_findLive_0 : decode cX3_findLive 0 = .ok (.aload_n 0, 1) := by decide +kernel
theorem dX3_findLive_1 : decode cX3_findLive 1 = .ok (.iconst 0, 1) := by decide +kernel
theorem dX3_findLive_2 : decode cX3_findLive 2 = .ok (.putfield 30, 3) := by decide +kernel
theorem dX3_findLive_5 : decode cX3_findLive 5 = .ok (.iconst 0, 1) := by decide +kernel
theorem dX3_findLive_6 : decode cX3_findLive 6 = .ok (.istore_n 1, 1) := by decide +kernel
theorem dX3_findLive_7 : decode cX3_findLive 7 = .ok (.iload_n 1, 1) := by decide +kernel
theorem dX3_findLive_8 : decode cX3_findLive 8 = .ok (.aload_n 0, 1) := by decide +kernel
theorem dX3_findLive_9 : decode cX3_findLive 9 = .ok (.getfield 9, 3) := by decide +kernel
theorem dX3_findLive_12 : decode cX3_findLive 12 = .ok (.if_icmp .ge 96, 3) := by decide +kernel
theorem dX3_findLive_15 : decode cX3_findLive 15 = .ok (.iconst 0, 1) := by decide +kernel
theorem dX3_findLive_16 : decode cX3_findLive 16 = .ok (.istore_n 2, 1) := by decide +kernel
theorem dX3_findLive_17 : decode cX3_findLive 17 = .ok (.iload_n 2, 1) := by decide +kernel
theorem dX3_findLive_18 : decode cX3_findLive 18 = .ok (.aload_n 0, 1) := by decide +kernel
theorem dX3_findLive_19 : decode cX3_findLive 19 = .ok (.getfield 15, 3) := by decide +kernel
theorem dX3_findLive_22 : decode cX3_findLive 22 = .ok (.if_icmp .ge 80, 3) := by decide +kernel
theorem dX3_findLive_25 : decode cX3_findLive 25 = .ok (.iload_n 1, 1) := by decide +kernel
theorem dX3_findLive_26 : decode cX3_findLive 26 = .ok (.aload_n 0, 1) := by decide +kernel
theorem dX3_findLive_27 : decode cX3_findLive 27 = .ok (.getfield 15, 3) := by decide +kernel
theorem dX3_findLive_30 : decode cX3_findLive 30 = .ok (.imul, 1) := by decide +kernel
theorem dX3_findLive_31 : decode cX3_findLive 31 = .ok (.iload_n 2, 1) := by decide +kernel
theorem dX3_findLive_32 : decode cX3_findLive 32 = .ok (.iadd, 1) := by decide +kernel
theorem dX3_findLive_33 : decode cX3_findLive 33 = .ok (.istore_n 3, 1) := by decide +kernel
theorem dX3_findLive_34 : decode cX3_findLive 34 = .ok (.aload_n 0, 1) := by decide +kernel
theorem dX3_findLive_35 : decode cX3_findLive 35 = .ok (.getfield 27, 3) := by decide +kernel
theorem dX3_findLive_38 : decode cX3_findLive 38 = .ok (.iload_n 1, 1) := by decide +kernel
theorem dX3_findLive_39 : decode cX3_findLive 39 = .ok (.invokestatic 36, 3) := by decide +kernel
theorem dX3_findLive_42 : decode cX3_findLive 42 = .ok (.ifCond .ne 19, 3) := by decide +kernel
theorem dX3_findLive_45 : decode cX3_findLive 45 = .ok (.aload_n 0, 1) := by decide +kernel
theorem dX3_findLive_46 : decode cX3_findLive 46 = .ok (.getfield 27, 3) := by decide +kernel
theorem dX3_findLive_49 : decode cX3_findLive 49 = .ok (.aload_n 0, 1) := by decide +kernel
theorem dX3_findLive_50 : decode cX3_findLive 50 = .ok (.getfield 9, 3) := by decide +kernel
theorem dX3_findLive_53 : decode cX3_findLive 53 = .ok (.iload_n 2, 1) := by decide +kernel
theorem dX3_findLive_54 : decode cX3_findLive 54 = .ok (.iadd, 1) := by decide +kernel
theorem dX3_findLive_55 : decode cX3_findLive 55 = .ok (.invokestatic 36, 3) := by decide +kernel
theorem dX3_findLive_58 : decode cX3_findLive 58 = .ok (.ifCond .eq 7, 3) := by decide +kernel
theorem dX3_findLive_61 : decode cX3_findLive 61 = .ok (.iconst 1, 1) := by decide +kernel
theorem dX3_findLive_62 : decode cX3_findLive 62 = .ok (.goto 4, 3) := by decide +kernel
theorem dX3_findLive_65 : decode cX3_findLive 65 = .ok (.iconst 0, 1) := by decide +kernel
theorem dX3_findLive_66 : decode cX3_findLive 66 = .ok (.istore 4, 2) := by decide +kernel
theorem dX3_findLive_68 : decode cX3_findLive 68 = .ok (.aload_n 0, 1) := by decide +kernel
theorem dX3_findLive_69 : decode cX3_findLive 69 = .ok (.getfield 21, 3) := by decide +kernel
theorem dX3_findLive_72 : decode cX3_findLive 72 = .ok (.iload_n 3, 1) := by decide +kernel
theorem dX3_findLive_73 : decode cX3_findLive 73 = .ok (.invokestatic 36, 3) := by decide +kernel
theorem dX3_findLive_76 : decode cX3_findLive 76 = .ok (.ifCond .eq 20, 3) := by decide +kernel
theorem dX3_findLive_79 : decode cX3_findLive 79 = .ok (.iload 4, 2) := by decide +kernel
theorem dX3_findLive_81 : decode cX3_findLive 81 = .ok (.ifCond .ne 15, 3) := by decide +kernel
theorem dX3_findLive_84 : decode cX3_findLive 84 = .ok (.aload_n 0, 1) := by decide +kernel
theorem dX3_findLive_85 : decode cX3_findLive 85 = .ok (.dup, 1) := by decide +kernel
theorem dX3_findLive_86 : decode cX3_findLive 86 = .ok (.getfield 30, 3) := by decide +kernel
theorem dX3_findLive_89 : decode cX3_findLive 89 = .ok (.iconst 1, 1) := by decide +kernel
theorem dX3_findLive_90 : decode cX3_findLive 90 = .ok (.iload_n 3, 1) := by decide +kernel
theorem dX3_findLive_91 : decode cX3_findLive 91 = .ok (.ishl, 1) := by decide +kernel
theorem dX3_findLive_92 : decode cX3_findLive 92 = .ok (.ior, 1) := by decide +kernel
theorem dX3_findLive_93 : decode cX3_findLive 93 = .ok (.putfield 30, 3) := by decide +kernel
theorem dX3_findLive_96 : decode cX3_findLive 96 = .ok (.iinc 2 1, 3) := by decide +kernel
theorem dX3_findLive_99 : decode cX3_findLive 99 = .ok (.goto (-82), 3) := by decide +kernel
theorem dX3_findLive_102 : decode cX3_findLive 102 = .ok (.iinc 1 1, 3) := by decide +kernel
theorem dX3_findLive_105 : decode cX3_findLive 105 = .ok (.goto (-98), 3) := by decide +kernel
theorem dX3_findLive_108 : decode cX3_findLive 108 = .ok (.return_, 1) := by decide +kernel
theorem dX3_rowOf_0 : decode cX3_rowOf 0 = .ok (.aload_n 0, 1) := by decide +kernel
theorem dX3_rowOf_1 : decode cX3_rowOf 1 = .ok (.getfield 15, 3) := by decide +kernel
theorem dX3_rowOf_4 : decode cX3_rowOf 4 = .ok (.ifCond .le 12, 3) := by decide +kernel
theorem dX3_rowOf_7 : decode cX3_rowOf 7 = .ok (.iload_n 1, 1) := by decide +kernel
theorem dX3_rowOf_8 : decode cX3_rowOf 8 = .ok (.aload_n 0, 1) := by decide +kernel
theorem dX3_rowOf_9 : decode cX3_rowOf 9 = .ok (.getfield 15, 3) := by decide +kernel
theorem dX3_rowOf_12 : decode cX3_rowOf 12 = .ok (.idiv, 1) := by decide +kernel
theorem dX3_rowOf_13 : decode cX3_rowOf 13 = .ok (.goto 4, 3) := by decide +kernel
theorem dX3_rowOf_16 : decode cX3_rowOf 16 = .ok (.iconst 0, 1) := by decide +kernel
theorem dX3_rowOf_17 : decode cX3_rowOf 17 = .ok (.ireturn, 1) := by decide +kernel
theorem dX3_columnsOf_0 : decode cX3_columnsOf 0 = .ok (.iload_n 1, 1) := by decide +kernel
theorem dX3_columnsOf_1 : decode cX3_columnsOf 1 = .ok (.iload_n 2, 1) := by decide +kernel
theorem dX3_columnsOf_2 : decode cX3_columnsOf 2 = .ok (.aload_n 0, 1) := by decide +kernel
theorem dX3_columnsOf_3 : decode cX3_columnsOf 3 = .ok (.getfield 15, 3) := by decide +kernel
theorem dX3_columnsOf_6 : decode cX3_columnsOf 6 = .ok (.imul, 1) := by decide +kernel
theorem dX3_columnsOf_7 : decode cX3_columnsOf 7 = .ok (.ishr, 1) := by decide +kernel
theorem dX3_columnsOf_8 : decode cX3_columnsOf 8 = .ok (.iconst 1, 1) := by decide +kernel
theorem dX3_columnsOf_9 : decode cX3_columnsOf 9 = .ok (.aload_n 0, 1) := by decide +kernel
theorem dX3_columnsOf_10 : decode cX3_columnsOf 10 = .ok (.getfield 15, 3) := by decide +kernel
theorem dX3_columnsOf_13 : decode cX3_columnsOf 13 = .ok (.ishl, 1) := by decide +kernel
theorem dX3_columnsOf_14 : decode cX3_columnsOf 14 = .ok (.iconst 1, 1) := by decide +kernel
theorem dX3_columnsOf_15 : decode cX3_columnsOf 15 = .ok (.isub, 1) := by decide +kernel
theorem dX3_columnsOf_16 : decode cX3_columnsOf 16 = .ok (.iand, 1) := by decide +kernel
theorem dX3_columnsOf_17 : decode cX3_columnsOf 17 = .ok (.ireturn, 1) := by decide +kernel
theorem dX3_seenIf_0 : decode cX3_seenIf 0 = .ok (.iload_n 1, 1) := by decide +kernel
theorem dX3_seenIf_1 : decode cX3_seenIf 1 = .ok (.aload_n 0, 1) := by decide +kernel
theorem dX3_seenIf_2 : decode cX3_seenIf 2 = .ok (.getfield 30, 3) := by decide +kernel
theorem dX3_seenIf_5 : decode cX3_seenIf 5 = .ok (.iand, 1) := by decide +kernel
theorem dX3_seenIf_6 : decode cX3_seenIf 6 = .ok (.istore_n 2, 1) := by decide +kernel
theorem dX3_seenIf_7 : decode cX3_seenIf 7 = .ok (.iload_n 2, 1) := by decide +kernel
theorem dX3_seenIf_8 : decode cX3_seenIf 8 = .ok (.aload_n 0, 1) := by decide +kernel
theorem dX3_seenIf_9 : decode cX3_seenIf 9 = .ok (.getfield 24, 3) := by decide +kernel
theorem dX3_seenIf_12 : decode cX3_seenIf 12 = .ok (.iconst (-1), 1) := by decide +kernel
theorem dX3_seenIf_13 : decode cX3_seenIf 13 = .ok (.ixor, 1) := by decide +kernel
theorem dX3_seenIf_14 : decode cX3_seenIf 14 = .ok (.iand, 1) := by decide +kernel
theorem dX3_seenIf_15 : decode cX3_seenIf 15 = .ok (.istore_n 3, 1) := by decide +kernel
theorem dX3_seenIf_16 : decode cX3_seenIf 16 = .ok (.iconst 0, 1) := by decide +kernel
theorem dX3_seenIf_17 : decode cX3_seenIf 17 = .ok (.istore 4, 2) := by decide +kernel
theorem dX3_seenIf_19 : decode cX3_seenIf 19 = .ok (.iconst 0, 1) := by decide +kernel
theorem dX3_seenIf_20 : decode cX3_seenIf 20 = .ok (.istore 5, 2) := by decide +kernel
theorem dX3_seenIf_22 : decode cX3_seenIf 22 = .ok (.iload 5, 2) := by decide +kernel
theorem dX3_seenIf_24 : decode cX3_seenIf 24 = .ok (.aload_n 0, 1) := by decide +kernel
theorem dX3_seenIf_25 : decode cX3_seenIf 25 = .ok (.getfield 9, 3) := by decide +kernel
theorem dX3_seenIf_28 : decode cX3_seenIf 28 = .ok (.if_icmp .ge 48, 3) := by decide +kernel
theorem dX3_seenIf_31 : decode cX3_seenIf 31 = .ok (.aload_n 0, 1) := by decide +kernel
theorem dX3_seenIf_32 : decode cX3_seenIf 32 = .ok (.iload_n 2, 1) := by decide +kernel
theorem dX3_seenIf_33 : decode cX3_seenIf 33 = .ok (.iload 5, 2) := by decide +kernel
theorem dX3_seenIf_35 : decode cX3_seenIf 35 = .ok (.invokevirtual 40, 3) := by decide +kernel
theorem dX3_seenIf_38 : decode cX3_seenIf 38 = .ok (.istore 6, 2) := by decide +kernel
theorem dX3_seenIf_40 : decode cX3_seenIf 40 = .ok (.iload 6, 2) := by decide +kernel
theorem dX3_seenIf_42 : decode cX3_seenIf 42 = .ok (.ifCond .eq 28, 3) := by decide +kernel
theorem dX3_seenIf_45 : decode cX3_seenIf 45 = .ok (.iload 4, 2) := by decide +kernel
theorem dX3_seenIf_47 : decode cX3_seenIf 47 = .ok (.aload_n 0, 1) := by decide +kernel
theorem dX3_seenIf_48 : decode cX3_seenIf 48 = .ok (.iload 6, 2) := by decide +kernel
theorem dX3_seenIf_50 : decode cX3_seenIf 50 = .ok (.iload_n 2, 1) := by decide +kernel
theorem dX3_seenIf_51 : decode cX3_seenIf 51 = .ok (.iload_n 3, 1) := by decide +kernel
theorem dX3_seenIf_52 : decode cX3_seenIf 52 = .ok (.aload_n 0, 1) := by decide +kernel
theorem dX3_seenIf_53 : decode cX3_seenIf 53 = .ok (.getfield 9, 3) := by decide +kernel
theorem dX3_seenIf_56 : decode cX3_seenIf 56 = .ok (.invokevirtual 44, 3) := by decide +kernel
theorem dX3_seenIf_59 : decode cX3_seenIf 59 = .ok (.iload 5, 2) := by decide +kernel
theorem dX3_seenIf_61 : decode cX3_seenIf 61 = .ok (.aload_n 0, 1) := by decide +kernel
theorem dX3_seenIf_62 : decode cX3_seenIf 62 = .ok (.getfield 15, 3) := by decide +kernel
theorem dX3_seenIf_65 : decode cX3_seenIf 65 = .ok (.imul, 1) := by decide +kernel
theorem dX3_seenIf_66 : decode cX3_seenIf 66 = .ok (.ishl, 1) := by decide +kernel
theorem dX3_seenIf_67 : decode cX3_seenIf 67 = .ok (.ior, 1) := by decide +kernel
theorem dX3_seenIf_68 : decode cX3_seenIf 68 = .ok (.istore 4, 2) := by decide +kernel
theorem dX3_seenIf_70 : decode cX3_seenIf 70 = .ok (.iinc 5 1, 3) := by decide +kernel
theorem dX3_seenIf_73 : decode cX3_seenIf 73 = .ok (.goto (-51), 3) := by decide +kernel
theorem dX3_seenIf_76 : decode cX3_seenIf 76 = .ok (.iload 4, 2) := by decide +kernel
theorem dX3_seenIf_78 : decode cX3_seenIf 78 = .ok (.aload_n 0, 1) := by decide +kernel
theorem dX3_seenIf_79 : decode cX3_seenIf 79 = .ok (.getfield 21, 3) := by decide +kernel
theorem dX3_seenIf_82 : decode cX3_seenIf 82 = .ok (.iand, 1) := by decide +kernel
theorem dX3_seenIf_83 : decode cX3_seenIf 83 = .ok (.ireturn, 1) := by decide +kernel
theorem dX3_spread_0 : decode cX3_spread 0 = .ok (.iload_n 1, 1) := by decide +kernel
theorem dX3_spread_1 : decode cX3_spread 1 = .ok (.istore 5, 2) := by decide +kernel
theorem dX3_spread_3 : decode cX3_spread 3 = .ok (.iconst 0, 1) := by decide +kernel
theorem dX3_spread_4 : decode cX3_spread 4 = .ok (.istore 6, 2) := by decide +kernel
theorem dX3_spread_6 : decode cX3_spread 6 = .ok (.iload 6, 2) := by decide +kernel
theorem dX3_spread_8 : decode cX3_spread 8 = .ok (.iload 4, 2) := by decide +kernel
theorem dX3_spread_10 : decode cX3_spread 10 = .ok (.if_icmp .ge 70, 3) := by decide +kernel
theorem dX3_spread_13 : decode cX3_spread 13 = .ok (.iload 5, 2) := by decide +kernel
theorem dX3_spread_15 : decode cX3_spread 15 = .ok (.istore 7, 2) := by decide +kernel
theorem dX3_spread_17 : decode cX3_spread 17 = .ok (.iconst 0, 1) := by decide +kernel
theorem dX3_spread_18 : decode cX3_spread 18 = .ok (.istore 8, 2) := by decide +kernel
theorem dX3_spread_20 : decode cX3_spread 20 = .ok (.iload 8, 2) := by decide +kernel
theorem dX3_spread_22 : decode cX3_spread 22 = .ok (.aload_n 0, 1) := by decide +kernel
theorem dX3_spread_23 : decode cX3_spread 23 = .ok (.getfield 9, 3) := by decide +kernel
theorem dX3_spread_26 : decode cX3_spread 26 = .ok (.if_icmp .ge 34, 3) := by decide +kernel
theorem dX3_spread_29 : decode cX3_spread 29 = .ok (.aload_n 0, 1) := by decide +kernel
theorem dX3_spread_30 : decode cX3_spread 30 = .ok (.iload_n 3, 1) := by decide +kernel
theorem dX3_spread_31 : decode cX3_spread 31 = .ok (.iload 8, 2) := by decide +kernel
theorem dX3_spread_33 : decode cX3_spread 33 = .ok (.invokevirtual 40, 3) := by decide +kernel
theorem dX3_spread_36 : decode cX3_spread 36 = .ok (.iload 5, 2) := by decide +kernel
theorem dX3_spread_38 : decode cX3_spread 38 = .ok (.iand, 1) := by decide +kernel
theorem dX3_spread_39 : decode cX3_spread 39 = .ok (.ifCond .eq 15, 3) := by decide +kernel
theorem dX3_spread_42 : decode cX3_spread 42 = .ok (.iload 7, 2) := by decide +kernel
theorem dX3_spread_44 : decode cX3_spread 44 = .ok (.aload_n 0, 1) := by decide +kernel
theorem dX3_spread_45 : decode cX3_spread 45 = .ok (.iload_n 2, 1) := by decide +kernel
theorem dX3_spread_46 : decode cX3_spread 46 = .ok (.iload 8, 2) := by decide +kernel
theorem dX3_spread_48 : decode cX3_spread 48 = .ok (.invokevirtual 40, 3) := by decide +kernel
theorem dX3_spread_51 : decode cX3_spread 51 = .ok (.ior, 1) := by decide +kernel
theorem dX3_spread_52 : decode cX3_spread 52 = .ok (.istore 7, 2) := by decide +kernel
theorem dX3_spread_54 : decode cX3_spread 54 = .ok (.iinc 8 1, 3) := by decide +kernel
theorem dX3_spread_57 : decode cX3_spread 57 = .ok (.goto (-37), 3) := by decide +kernel
theorem dX3_spread_60 : decode cX3_spread 60 = .ok (.iload 7, 2) := by decide +kernel
theorem dX3_spread_62 : decode cX3_spread 62 = .ok (.iload 5, 2) := by decide +kernel
theorem dX3_spread_64 : decode cX3_spread 64 = .ok (.if_icmp .ne 6, 3) := by decide +kernel
theorem dX3_spread_67 : decode cX3_spread 67 = .ok (.iload 5, 2) := by decide +kernel
theorem dX3_spread_69 : decode cX3_spread 69 = .ok (.ireturn, 1) := by decide +kernel
theorem dX3_spread_70 : decode cX3_spread 70 = .ok (.iload 7, 2) := by decide +kernel
theorem dX3_spread_72 : decode cX3_spread 72 = .ok (.istore 5, 2) := by decide +kernel
theorem dX3_spread_74 : decode cX3_spread 74 = .ok (.iinc 6 1, 3) := by decide +kernel
theorem dX3_spread_77 : decode cX3_spread 77 = .ok (.goto (-71), 3) := by decide +kernel
theorem dX3_spread_80 : decode cX3_spread 80 = .ok (.iload 5, 2) := by decide +kernel
theorem dX3_spread_82 : decode cX3_spread 82 = .ok (.ireturn, 1) := by decide +kernel
theorem dX3_ghostsIf_0 : decode cX3_ghostsIf 0 = .ok (.aload_n 0, 1) := by decide +kernel
theorem dX3_ghostsIf_1 : decode cX3_ghostsIf 1 = .ok (.iload_n 1, 1) := by decide +kernel
theorem dX3_ghostsIf_2 : decode cX3_ghostsIf 2 = .ok (.invokevirtual 48, 3) := by decide +kernel
theorem dX3_ghostsIf_5 : decode cX3_ghostsIf 5 = .ok (.iload_n 1, 1) := by decide +kernel
theorem dX3_ghostsIf_6 : decode cX3_ghostsIf 6 = .ok (.iconst (-1), 1) := by decide +kernel
theorem dX3_ghostsIf_7 : decode cX3_ghostsIf 7 = .ok (.ixor, 1) := by decide +kernel
theorem dX3_ghostsIf_8 : decode cX3_ghostsIf 8 = .ok (.iand, 1) := by decide +kernel
theorem dX3_ghostsIf_9 : decode cX3_ghostsIf 9 = .ok (.ireturn, 1) := by decide +kernel
theorem dX3_isExact_0 : decode cX3_isExact 0 = .ok (.aload_n 0, 1) := by decide +kernel
theorem dX3_isExact_1 : decode cX3_isExact 1 = .ok (.iload_n 1, 1) := by decide +kernel
theorem dX3_isExact_2 : decode cX3_isExact 2 = .ok (.invokevirtual 48, 3) := by decide +kernel
theorem dX3_isExact_5 : decode cX3_isExact 5 = .ok (.iload_n 1, 1) := by decide +kernel
theorem dX3_isExact_6 : decode cX3_isExact 6 = .ok (.iconst (-1), 1) := by decide +kernel
theorem dX3_isExact_7 : decode cX3_isExact 7 = .ok (.ixor, 1) := by decide +kernel
theorem dX3_isExact_8 : decode cX3_isExact 8 = .ok (.iand, 1) := by decide +kernel
theorem dX3_isExact_9 : decode cX3_isExact 9 = .ok (.ifCond .ne 7, 3) := by decide +kernel
theorem dX3_isExact_12 : decode cX3_isExact 12 = .ok (.iconst 1, 1) := by decide +kernel
theorem dX3_isExact_13 : decode cX3_isExact 13 = .ok (.goto 4, 3) := by decide +kernel
theorem dX3_isExact_16 : decode cX3_isExact 16 = .ok (.iconst 0, 1) := by decide +kernel
theorem dX3_isExact_17 : decode cX3_isExact 17 = .ok (.ireturn, 1) := by decide +kernel
theorem dX3_isClear_0 : decode cX3_isClear 0 = .ok (.iconst 0, 1) := by decide +kernel
theorem dX3_isClear_1 : decode cX3_isClear 1 = .ok (.istore_n 1, 1) := by decide +kernel
theorem dX3_isClear_2 : decode cX3_isClear 2 = .ok (.iload_n 1, 1) := by decide +kernel
theorem dX3_isClear_3 : decode cX3_isClear 3 = .ok (.aload_n 0, 1) := by decide +kernel
theorem dX3_isClear_4 : decode cX3_isClear 4 = .ok (.getfield 18, 3) := by decide +kernel
theorem dX3_isClear_7 : decode cX3_isClear 7 = .ok (.if_icmp .ge 32, 3) := by decide +kernel
theorem dX3_isClear_10 : decode cX3_isClear 10 = .ok (.aload_n 0, 1) := by decide +kernel
theorem dX3_isClear_11 : decode cX3_isClear 11 = .ok (.aload_n 0, 1) := by decide +kernel
theorem dX3_isClear_12 : decode cX3_isClear 12 = .ok (.getfield 21, 3) := by decide +kernel
theorem dX3_isClear_15 : decode cX3_isClear 15 = .ok (.iconst 1, 1) := by decide +kernel
theorem dX3_isClear_16 : decode cX3_isClear 16 = .ok (.iload_n 1, 1) := by decide +kernel
theorem dX3_isClear_17 : decode cX3_isClear 17 = .ok (.ishl, 1) := by decide +kernel
theorem dX3_isClear_18 : decode cX3_isClear 18 = .ok (.iconst (-1), 1) := by decide +kernel
theorem dX3_isClear_19 : decode cX3_isClear 19 = .ok (.ixor, 1) := by decide +kernel
theorem dX3_isClear_20 : decode cX3_isClear 20 = .ok (.iand, 1) := by decide +kernel
theorem dX3_isClear_21 : decode cX3_isClear 21 = .ok (.invokevirtual 48, 3) := by decide +kernel
theorem dX3_isClear_24 : decode cX3_isClear 24 = .ok (.iload_n 1, 1) := by decide +kernel
theorem dX3_isClear_25 : decode cX3_isClear 25 = .ok (.invokestatic 36, 3) := by decide +kernel
theorem dX3_isClear_28 : decode cX3_isClear 28 = .ok (.ifCond .eq 5, 3) := by decide +kernel
theorem dX3_isClear_31 : decode cX3_isClear 31 = .ok (.iconst 0, 1) := by decide +kernel
theorem dX3_isClear_32 : decode cX3_isClear 32 = .ok (.ireturn, 1) := by decide +kernel
theorem dX3_isClear_33 : decode cX3_isClear 33 = .ok (.iinc 1 1, 3) := by decide +kernel
theorem dX3_isClear_36 : decode cX3_isClear 36 = .ok (.goto (-34), 3) := by decide +kernel
theorem dX3_isClear_39 : decode cX3_isClear 39 = .ok (.iconst 1, 1) := by decide +kernel
theorem dX3_isClear_40 : decode cX3_isClear 40 = .ok (.ireturn, 1) := by decide +kernel
theorem dX3_leastKeys_0 : decode cX3_leastKeys 0 = .ok (.iconst (-1), 1) := by decide +kernel
theorem dX3_leastKeys_1 : decode cX3_leastKeys 1 = .ok (.istore_n 2, 1) := by decide +kernel
theorem dX3_leastKeys_2 : decode cX3_leastKeys 2 = .ok (.iconst 0, 1) := by decide +kernel
theorem dX3_leastKeys_3 : decode cX3_leastKeys 3 = .ok (.istore_n 3, 1) := by decide +kernel
theorem dX3_leastKeys_4 : decode cX3_leastKeys 4 = .ok (.iload_n 3, 1) := by decide +kernel
theorem dX3_leastKeys_5 : decode cX3_leastKeys 5 = .ok (.aload_n 0, 1) := by decide +kernel
theorem dX3_leastKeys_6 : decode cX3_leastKeys 6 = .ok (.getfield 18, 3) := by decide +kernel
theorem dX3_leastKeys_9 : decode cX3_leastKeys 9 = .ok (.if_icmp .ge 52, 3) := by decide +kernel
theorem dX3_leastKeys_12 : decode cX3_leastKeys 12 = .ok (.aload_n 0, 1) := by decide +kernel
theorem dX3_leastKeys_13 : decode cX3_leastKeys 13 = .ok (.getfield 30, 3) := by decide +kernel
theorem dX3_leastKeys_16 : decode cX3_leastKeys 16 = .ok (.iload_n 3, 1) := by decide +kernel
theorem dX3_leastKeys_17 : decode cX3_leastKeys 17 = .ok (.invokestatic 36, 3) := by decide +kernel
theorem dX3_leastKeys_20 : decode cX3_leastKeys 20 = .ok (.ifCond .eq 12, 3) := by decide +kernel
theorem dX3_leastKeys_23 : decode cX3_leastKeys 23 = .ok (.aload_n 0, 1) := by decide +kernel
theorem dX3_leastKeys_24 : decode cX3_leastKeys 24 = .ok (.iload_n 3, 1) := by decide +kernel
theorem dX3_leastKeys_25 : decode cX3_leastKeys 25 = .ok (.iload_n 1, 1) := by decide +kernel
theorem dX3_leastKeys_26 : decode cX3_leastKeys 26 = .ok (.invokevirtual 52, 3) := by decide +kernel
theorem dX3_leastKeys_29 : decode cX3_leastKeys 29 = .ok (.goto 4, 3) := by decide +kernel
theorem dX3_leastKeys_32 : decode cX3_leastKeys 32 = .ok (.iconst (-1), 1) := by decide +kernel
theorem dX3_leastKeys_33 : decode cX3_leastKeys 33 = .ok (.istore 4, 2) := by decide +kernel
theorem dX3_leastKeys_35 : decode cX3_leastKeys 35 = .ok (.iload 4, 2) := by decide +kernel
theorem dX3_leastKeys_37 : decode cX3_leastKeys 37 = .ok (.iconst (-1), 1) := by decide +kernel
theorem dX3_leastKeys_38 : decode cX3_leastKeys 38 = .ok (.if_icmp .eq 17, 3) := by decide +kernel
theorem dX3_leastKeys_41 : decode cX3_leastKeys 41 = .ok (.iload_n 2, 1) := by decide +kernel
theorem dX3_leastKeys_42 : decode cX3_leastKeys 42 = .ok (.iconst (-1), 1) := by decide +kernel
theorem dX3_leastKeys_43 : decode cX3_leastKeys 43 = .ok (.if_icmp .eq 9, 3) := by decide +kernel
theorem dX3_leastKeys_46 : decode cX3_leastKeys 46 = .ok (.iload 4, 2) := by decide +kernel
theorem dX3_leastKeys_48 : decode cX3_leastKeys 48 = .ok (.iload_n 2, 1) := by decide +kernel
theorem dX3_leastKeys_49 : decode cX3_leastKeys 49 = .ok (.if_icmp .ge 6, 3) := by decide +kernel
theorem dX3_leastKeys_52 : decode cX3_leastKeys 52 = .ok (.iload 4, 2) := by decide +kernel
theorem dX3_leastKeys_54 : decode cX3_leastKeys 54 = .ok (.istore_n 2, 1) := by decide +kernel
theorem dX3_leastKeys_55 : decode cX3_leastKeys 55 = .ok (.iinc 3 1, 3) := by decide +kernel
theorem dX3_leastKeys_58 : decode cX3_leastKeys 58 = .ok (.goto (-54), 3) := by decide +kernel
theorem dX3_leastKeys_61 : decode cX3_leastKeys 61 = .ok (.iload_n 2, 1) := by decide +kernel
theorem dX3_leastKeys_62 : decode cX3_leastKeys 62 = .ok (.ireturn, 1) := by decide +kernel
theorem dX3_wayRound_0 : decode cX3_wayRound 0 = .ok (.aload_n 0, 1) := by decide +kernel
theorem dX3_wayRound_1 : decode cX3_wayRound 1 = .ok (.iload_n 1, 1) := by decide +kernel
theorem dX3_wayRound_2 : decode cX3_wayRound 2 = .ok (.invokevirtual 55, 3) := by decide +kernel
theorem dX3_wayRound_5 : decode cX3_wayRound 5 = .ok (.istore_n 3, 1) := by decide +kernel
theorem dX3_wayRound_6 : decode cX3_wayRound 6 = .ok (.iload_n 1, 1) := by decide +kernel
theorem dX3_wayRound_7 : decode cX3_wayRound 7 = .ok (.iload_n 3, 1) := by decide +kernel
theorem dX3_wayRound_8 : decode cX3_wayRound 8 = .ok (.aload_n 0, 1) := by decide +kernel
theorem dX3_wayRound_9 : decode cX3_wayRound 9 = .ok (.getfield 15, 3) := by decide +kernel
theorem dX3_wayRound_12 : decode cX3_wayRound 12 = .ok (.imul, 1) := by decide +kernel
theorem dX3_wayRound_13 : decode cX3_wayRound 13 = .ok (.isub, 1) := by decide +kernel
theorem dX3_wayRound_14 : decode cX3_wayRound 14 = .ok (.istore 4, 2) := by decide +kernel
theorem dX3_wayRound_16 : decode cX3_wayRound 16 = .ok (.aload_n 0, 1) := by decide +kernel
theorem dX3_wayRound_17 : decode cX3_wayRound 17 = .ok (.getfield 30, 3) := by decide +kernel
theorem dX3_wayRound_20 : decode cX3_wayRound 20 = .ok (.iconst 1, 1) := by decide +kernel
theorem dX3_wayRound_21 : decode cX3_wayRound 21 = .ok (.iload_n 1, 1) := by decide +kernel
theorem dX3_wayRound_22 : decode cX3_wayRound 22 = .ok (.ishl, 1) := by decide +kernel
theorem dX3_wayRound_23 : decode cX3_wayRound 23 = .ok (.iconst (-1), 1) := by decide +kernel
theorem dX3_wayRound_24 : decode cX3_wayRound 24 = .ok (.ixor, 1) := by decide +kernel
theorem dX3_wayRound_25 : decode cX3_wayRound 25 = .ok (.iand, 1) := by decide +kernel
theorem dX3_wayRound_26 : decode cX3_wayRound 26 = .ok (.istore 5, 2) := by decide +kernel
theorem dX3_wayRound_28 : decode cX3_wayRound 28 = .ok (.iload 5, 2) := by decide +kernel
theorem dX3_wayRound_30 : decode cX3_wayRound 30 = .ok (.iload_n 2, 1) := by decide +kernel
theorem dX3_wayRound_31 : decode cX3_wayRound 31 = .ok (.iconst (-1), 1) := by decide +kernel
theorem dX3_wayRound_32 : decode cX3_wayRound 32 = .ok (.ixor, 1) := by decide +kernel
theorem dX3_wayRound_33 : decode cX3_wayRound 33 = .ok (.iand, 1) := by decide +kernel
theorem dX3_wayRound_34 : decode cX3_wayRound 34 = .ok (.istore 6, 2) := by decide +kernel
theorem dX3_wayRound_36 : decode cX3_wayRound 36 = .ok (.aload_n 0, 1) := by decide +kernel
theorem dX3_wayRound_37 : decode cX3_wayRound 37 = .ok (.iload 5, 2) := by decide +kernel
theorem dX3_wayRound_39 : decode cX3_wayRound 39 = .ok (.iload_n 3, 1) := by decide +kernel
theorem dX3_wayRound_40 : decode cX3_wayRound 40 = .ok (.invokevirtual 40, 3) := by decide +kernel
theorem dX3_wayRound_43 : decode cX3_wayRound 43 = .ok (.istore 7, 2) := by decide +kernel
theorem dX3_wayRound_45 : decode cX3_wayRound 45 = .ok (.iconst 3, 1) := by decide +kernel
theorem dX3_wayRound_46 : decode cX3_wayRound 46 = .ok (.istore 8, 2) := by decide +kernel
theorem dX3_wayRound_48 : decode cX3_wayRound 48 = .ok (.iload 8, 2) := by decide +kernel
theorem dX3_wayRound_50 : decode cX3_wayRound 50 = .ok (.iconst 2, 1) := by decide +kernel
theorem dX3_wayRound_51 : decode cX3_wayRound 51 = .ok (.aload_n 0, 1) := by decide +kernel
theorem dX3_wayRound_52 : decode cX3_wayRound 52 = .ok (.getfield 9, 3) := by decide +kernel
theorem dX3_wayRound_55 : decode cX3_wayRound 55 = .ok (.imul, 1) := by decide +kernel
theorem dX3_wayRound_56 : decode cX3_wayRound 56 = .ok (.if_icmp .ge 35, 3) := by decide +kernel
theorem dX3_wayRound_59 : decode cX3_wayRound 59 = .ok (.aload_n 0, 1) := by decide +kernel
theorem dX3_wayRound_60 : decode cX3_wayRound 60 = .ok (.iload 7, 2) := by decide +kernel
theorem dX3_wayRound_62 : decode cX3_wayRound 62 = .ok (.iload 5, 2) := by decide +kernel
theorem dX3_wayRound_64 : decode cX3_wayRound 64 = .ok (.iload 6, 2) := by decide +kernel
theorem dX3_wayRound_66 : decode cX3_wayRound 66 = .ok (.iconst 1, 1) := by decide +kernel
theorem dX3_wayRound_67 : decode cX3_wayRound 67 = .ok (.invokevirtual 44, 3) := by decide +kernel
theorem dX3_wayRound_70 : decode cX3_wayRound 70 = .ok (.istore 7, 2) := by decide +kernel
theorem dX3_wayRound_72 : decode cX3_wayRound 72 = .ok (.iload 7, 2) := by decide +kernel
theorem dX3_wayRound_74 : decode cX3_wayRound 74 = .ok (.iload 4, 2) := by decide +kernel
theorem dX3_wayRound_76 : decode cX3_wayRound 76 = .ok (.invokestatic 36, 3) := by decide +kernel
theorem dX3_wayRound_79 : decode cX3_wayRound 79 = .ok (.ifCond .eq 6, 3) := by decide +kernel
theorem dX3_wayRound_82 : decode cX3_wayRound 82 = .ok (.iload 8, 2) := by decide +kernel
theorem dX3_wayRound_84 : decode cX3_wayRound 84 = .ok (.ireturn, 1) := by decide +kernel
theorem dX3_wayRound_85 : decode cX3_wayRound 85 = .ok (.iinc 8 2, 3) := by decide +kernel
theorem dX3_wayRound_88 : decode cX3_wayRound 88 = .ok (.goto (-40), 3) := by decide +kernel
theorem dX3_wayRound_91 : decode cX3_wayRound 91 = .ok (.iconst (-1), 1) := by decide +kernel
theorem dX3_wayRound_92 : decode cX3_wayRound 92 = .ok (.ireturn, 1) := by decide +kernel
theorem dX3_unclearSets_0 : decode cX3_unclearSets 0 = .ok (.iconst 0, 1) := by decide +kernel
theorem dX3_unclearSets_1 : decode cX3_unclearSets 1 = .ok (.istore_n 2, 1) := by decide +kernel
theorem dX3_unclearSets_2 : decode cX3_unclearSets 2 = .ok (.iconst 1, 1) := by decide +kernel
theorem dX3_unclearSets_3 : decode cX3_unclearSets 3 = .ok (.iload_n 1, 1) := by decide +kernel
theorem dX3_unclearSets_4 : decode cX3_unclearSets 4 = .ok (.ishl, 1) := by decide +kernel
theorem dX3_unclearSets_5 : decode cX3_unclearSets 5 = .ok (.iconst 1, 1) := by decide +kernel
theorem dX3_unclearSets_6 : decode cX3_unclearSets 6 = .ok (.isub, 1) := by decide +kernel
theorem dX3_unclearSets_7 : decode cX3_unclearSets 7 = .ok (.istore_n 3, 1) := by decide +kernel
theorem dX3_unclearSets_8 : decode cX3_unclearSets 8 = .ok (.iconst 0, 1) := by decide +kernel
theorem dX3_unclearSets_9 : decode cX3_unclearSets 9 = .ok (.istore 4, 2) := by decide +kernel
theorem dX3_unclearSets_11 : decode cX3_unclearSets 11 = .ok (.iload 4, 2) := by decide +kernel
theorem dX3_unclearSets_13 : decode cX3_unclearSets 13 = .ok (.sipush 12650, 3) := by decide +kernel
theorem dX3_unclearSets_16 : decode cX3_unclearSets 16 = .ok (.if_icmp .ge 44, 3) := by decide +kernel
theorem dX3_unclearSets_19 : decode cX3_unclearSets 19 = .ok (.aload_n 0, 1) := by decide +kernel
theorem dX3_unclearSets_20 : decode cX3_unclearSets 20 = .ok (.iload_n 3, 1) := by decide +kernel
theorem dX3_unclearSets_21 : decode cX3_unclearSets 21 = .ok (.invokevirtual 58, 3) := by decide +kernel
theorem dX3_unclearSets_24 : decode cX3_unclearSets 24 = .ok (.ifCond .eq 36, 3) := by decide +kernel
theorem dX3_unclearSets_27 : decode cX3_unclearSets 27 = .ok (.iload_n 3, 1) := by decide +kernel
theorem dX3_unclearSets_28 : decode cX3_unclearSets 28 = .ok (.aload_n 0, 1) := by decide +kernel
theorem dX3_unclearSets_29 : decode cX3_unclearSets 29 = .ok (.getfield 21, 3) := by decide +kernel
theorem dX3_unclearSets_32 : decode cX3_unclearSets 32 = .ok (.iconst (-1), 1) := by decide +kernel
theorem dX3_unclearSets_33 : decode cX3_unclearSets 33 = .ok (.ixor, 1) := by decide +kernel
theorem dX3_unclearSets_34 : decode cX3_unclearSets 34 = .ok (.iand, 1) := by decide +kernel
theorem dX3_unclearSets_35 : decode cX3_unclearSets 35 = .ok (.ifCond .ne 14, 3) := by decide +kernel
theorem dX3_unclearSets_38 : decode cX3_unclearSets 38 = .ok (.aload_n 0, 1) := by decide +kernel
theorem dX3_unclearSets_39 : decode cX3_unclearSets 39 = .ok (.iload_n 3, 1) := by decide +kernel
theorem dX3_unclearSets_40 : decode cX3_unclearSets 40 = .ok (.invokevirtual 62, 3) := by decide +kernel
theorem dX3_unclearSets_43 : decode cX3_unclearSets 43 = .ok (.ifCond .ne 6, 3) := by decide +kernel
theorem dX3_unclearSets_46 : decode cX3_unclearSets 46 = .ok (.iinc 2 1, 3) := by decide +kernel
theorem dX3_unclearSets_49 : decode cX3_unclearSets 49 = .ok (.iload_n 3, 1) := by decide +kernel
theorem dX3_unclearSets_50 : decode cX3_unclearSets 50 = .ok (.invokestatic 65, 3) := by decide +kernel
theorem dX3_unclearSets_53 : decode cX3_unclearSets 53 = .ok (.istore_n 3, 1) := by decide +kernel
theorem dX3_unclearSets_54 : decode cX3_unclearSets 54 = .ok (.iinc 4 1, 3) := by decide +kernel
theorem dX3_unclearSets_57 : decode cX3_unclearSets 57 = .ok (.goto (-46), 3) := by decide +kernel
theorem dX3_unclearSets_60 : decode cX3_unclearSets 60 = .ok (.iload_n 2, 1) := by decide +kernel
theorem dX3_unclearSets_61 : decode cX3_unclearSets 61 = .ok (.ireturn, 1) := by decide +kernel
theorem dX3_nextOfSameSize_0 : decode cX3_nextOfSameSize 0 = .ok (.iload_n 0, 1) := by decide +kernel
theorem dX3_nextOfSameSize_1 : decode cX3_nextOfSameSize 1 = .ok (.iload_n 0, 1) := by decide +kernel
theorem dX3_nextOfSameSize_2 : decode cX3_nextOfSameSize 2 = .ok (.ineg, 1) := by decide +kernel
theorem dX3_nextOfSameSize_3 : decode cX3_nextOfSameSize 3 = .ok (.iand, 1) := by decide +kernel
theorem dX3_nextOfSameSize_4 : decode cX3_nextOfSameSize 4 = .ok (.istore_n 1, 1) := by decide +kernel
theorem dX3_nextOfSameSize_5 : decode cX3_nextOfSameSize 5 = .ok (.iload_n 0, 1) := by decide +kernel
theorem dX3_nextOfSameSize_6 : decode cX3_nextOfSameSize 6 = .ok (.iload_n 1, 1) := by decide +kernel
theorem dX3_nextOfSameSize_7 : decode cX3_nextOfSameSize 7 = .ok (.iadd, 1) := by decide +kernel
theorem dX3_nextOfSameSize_8 : decode cX3_nextOfSameSize 8 = .ok (.istore_n 2, 1) := by decide +kernel
theorem dX3_nextOfSameSize_9 : decode cX3_nextOfSameSize 9 = .ok (.iload_n 2, 1) := by decide +kernel
theorem dX3_nextOfSameSize_10 : decode cX3_nextOfSameSize 10 = .ok (.iload_n 0, 1) := by decide +kernel
theorem dX3_nextOfSameSize_11 : decode cX3_nextOfSameSize 11 = .ok (.iload_n 2, 1) := by decide +kernel
theorem dX3_nextOfSameSize_12 : decode cX3_nextOfSameSize 12 = .ok (.ixor, 1) := by decide +kernel
theorem dX3_nextOfSameSize_13 : decode cX3_nextOfSameSize 13 = .ok (.iconst 2, 1) := by decide +kernel
theorem dX3_nextOfSameSize_14 : decode cX3_nextOfSameSize 14 = .ok (.iload_n 1, 1) := by decide +kernel
theorem dX3_nextOfSameSize_15 : decode cX3_nextOfSameSize 15 = .ok (.iconst 1, 1) := by decide +kernel
theorem dX3_nextOfSameSize_16 : decode cX3_nextOfSameSize 16 = .ok (.isub, 1) := by decide +kernel
theorem dX3_nextOfSameSize_17 : decode cX3_nextOfSameSize 17 = .ok (.invokestatic 68, 3) := by decide +kernel
theorem dX3_nextOfSameSize_20 : decode cX3_nextOfSameSize 20 = .ok (.iadd, 1) := by decide +kernel
theorem dX3_nextOfSameSize_21 : decode cX3_nextOfSameSize 21 = .ok (.ishr, 1) := by decide +kernel
theorem dX3_nextOfSameSize_22 : decode cX3_nextOfSameSize 22 = .ok (.ior, 1) := by decide +kernel
theorem dX3_nextOfSameSize_23 : decode cX3_nextOfSameSize 23 = .ok (.ireturn, 1) := by decide +kernel
theorem dX3_diodeToAdd_0 : decode cX3_diodeToAdd 0 = .ok (.iconst (-1), 1) := by decide +kernel
theorem dX3_diodeToAdd_1 : decode cX3_diodeToAdd 1 = .ok (.istore_n 1, 1) := by decide +kernel
theorem dX3_diodeToAdd_2 : decode cX3_diodeToAdd 2 = .ok (.iconst (-1), 1) := by decide +kernel
theorem dX3_diodeToAdd_3 : decode cX3_diodeToAdd 3 = .ok (.istore_n 2, 1) := by decide +kernel
theorem dX3_diodeToAdd_4 : decode cX3_diodeToAdd 4 = .ok (.iconst 0, 1) := by decide +kernel
theorem dX3_diodeToAdd_5 : decode cX3_diodeToAdd 5 = .ok (.istore_n 3, 1) := by decide +kernel
theorem dX3_diodeToAdd_6 : decode cX3_diodeToAdd 6 = .ok (.iload_n 3, 1) := by decide +kernel
theorem dX3_diodeToAdd_7 : decode cX3_diodeToAdd 7 = .ok (.aload_n 0, 1) := by decide +kernel
theorem dX3_diodeToAdd_8 : decode cX3_diodeToAdd 8 = .ok (.getfield 18, 3) := by decide +kernel
theorem dX3_diodeToAdd_11 : decode cX3_diodeToAdd 11 = .ok (.if_icmp .ge 45, 3) := by decide +kernel
theorem dX3_diodeToAdd_14 : decode cX3_diodeToAdd 14 = .ok (.aload_n 0, 1) := by decide +kernel
theorem dX3_diodeToAdd_15 : decode cX3_diodeToAdd 15 = .ok (.getfield 21, 3) := by decide +kernel
theorem dX3_diodeToAdd_18 : decode cX3_diodeToAdd 18 = .ok (.aload_n 0, 1) := by decide +kernel
theorem dX3_diodeToAdd_19 : decode cX3_diodeToAdd 19 = .ok (.getfield 24, 3) := by decide +kernel
theorem dX3_diodeToAdd_22 : decode cX3_diodeToAdd 22 = .ok (.iconst (-1), 1) := by decide +kernel
theorem dX3_diodeToAdd_23 : decode cX3_diodeToAdd 23 = .ok (.ixor, 1) := by decide +kernel
theorem dX3_diodeToAdd_24 : decode cX3_diodeToAdd 24 = .ok (.iand, 1) := by decide +kernel
theorem dX3_diodeToAdd_25 : decode cX3_diodeToAdd 25 = .ok (.iload_n 3, 1) := by decide +kernel
theorem dX3_diodeToAdd_26 : decode cX3_diodeToAdd 26 = .ok (.invokestatic 36, 3) := by decide +kernel
theorem dX3_diodeToAdd_29 : decode cX3_diodeToAdd 29 = .ok (.ifCond .eq 21, 3) := by decide +kernel
theorem dX3_diodeToAdd_32 : decode cX3_diodeToAdd 32 = .ok (.aload_n 0, 1) := by decide +kernel
theorem dX3_diodeToAdd_33 : decode cX3_diodeToAdd 33 = .ok (.iload_n 3, 1) := by decide +kernel
theorem dX3_diodeToAdd_34 : decode cX3_diodeToAdd 34 = .ok (.invokevirtual 73, 3) := by decide +kernel
theorem dX3_diodeToAdd_37 : decode cX3_diodeToAdd 37 = .ok (.istore 4, 2) := by decide +kernel
theorem dX3_diodeToAdd_39 : decode cX3_diodeToAdd 39 = .ok (.iload 4, 2) := by decide +kernel
theorem dX3_diodeToAdd_41 : decode cX3_diodeToAdd 41 = .ok (.iload_n 2, 1) := by decide +kernel
theorem dX3_diodeToAdd_42 : decode cX3_diodeToAdd 42 = .ok (.if_icmp .le 8, 3) := by decide +kernel
theorem dX3_diodeToAdd_45 : decode cX3_diodeToAdd 45 = .ok (.iload 4, 2) := by decide +kernel
theorem dX3_diodeToAdd_47 : decode cX3_diodeToAdd 47 = .ok (.istore_n 2, 1) := by decide +kernel
theorem dX3_diodeToAdd_48 : decode cX3_diodeToAdd 48 = .ok (.iload_n 3, 1) := by decide +kernel
theorem dX3_diodeToAdd_49 : decode cX3_diodeToAdd 49 = .ok (.istore_n 1, 1) := by decide +kernel
theorem dX3_diodeToAdd_50 : decode cX3_diodeToAdd 50 = .ok (.iinc 3 1, 3) := by decide +kernel
theorem dX3_diodeToAdd_53 : decode cX3_diodeToAdd 53 = .ok (.goto (-47), 3) := by decide +kernel
theorem dX3_diodeToAdd_56 : decode cX3_diodeToAdd 56 = .ok (.iload_n 1, 1) := by decide +kernel
theorem dX3_diodeToAdd_57 : decode cX3_diodeToAdd 57 = .ok (.ireturn, 1) := by decide +kernel
theorem dX3_setsBackBy_0 : decode cX3_setsBackBy 0 = .ok (.aload_n 0, 1) := by decide +kernel
theorem dX3_setsBackBy_1 : decode cX3_setsBackBy 1 = .ok (.getfield 30, 3) := by decide +kernel
theorem dX3_setsBackBy_4 : decode cX3_setsBackBy 4 = .ok (.iload_n 1, 1) := by decide +kernel
theorem dX3_setsBackBy_5 : decode cX3_setsBackBy 5 = .ok (.invokestatic 36, 3) := by decide +kernel
theorem dX3_setsBackBy_8 : decode cX3_setsBackBy 8 = .ok (.ifCond .ne 5, 3) := by decide +kernel
theorem dX3_setsBackBy_11 : decode cX3_setsBackBy 11 = .ok (.iconst 0, 1) := by decide +kernel
theorem dX3_setsBackBy_12 : decode cX3_setsBackBy 12 = .ok (.ireturn, 1) := by decide +kernel
theorem dX3_setsBackBy_13 : decode cX3_setsBackBy 13 = .ok (.aload_n 0, 1) := by decide +kernel
theorem dX3_setsBackBy_14 : decode cX3_setsBackBy 14 = .ok (.iload_n 1, 1) := by decide +kernel
theorem dX3_setsBackBy_15 : decode cX3_setsBackBy 15 = .ok (.invokevirtual 55, 3) := by decide +kernel
theorem dX3_setsBackBy_18 : decode cX3_setsBackBy 18 = .ok (.istore_n 2, 1) := by decide +kernel
theorem dX3_setsBackBy_19 : decode cX3_setsBackBy 19 = .ok (.iload_n 1, 1) := by decide +kernel
theorem dX3_setsBackBy_20 : decode cX3_setsBackBy 20 = .ok (.iload_n 2, 1) := by decide +kernel
theorem dX3_setsBackBy_21 : decode cX3_setsBackBy 21 = .ok (.aload_n 0, 1) := by decide +kernel
theorem dX3_setsBackBy_22 : decode cX3_setsBackBy 22 = .ok (.getfield 15, 3) := by decide +kernel
theorem dX3_setsBackBy_25 : decode cX3_setsBackBy 25 = .ok (.imul, 1) := by decide +kernel
theorem dX3_setsBackBy_26 : decode cX3_setsBackBy 26 = .ok (.isub, 1) := by decide +kernel
theorem dX3_setsBackBy_27 : decode cX3_setsBackBy 27 = .ok (.istore_n 3, 1) := by decide +kernel
theorem dX3_setsBackBy_28 : decode cX3_setsBackBy 28 = .ok (.aload_n 0, 1) := by decide +kernel
theorem dX3_setsBackBy_29 : decode cX3_setsBackBy 29 = .ok (.aload_n 0, 1) := by decide +kernel
theorem dX3_setsBackBy_30 : decode cX3_setsBackBy 30 = .ok (.getfield 30, 3) := by decide +kernel
theorem dX3_setsBackBy_33 : decode cX3_setsBackBy 33 = .ok (.iload_n 2, 1) := by decide +kernel
theorem dX3_setsBackBy_34 : decode cX3_setsBackBy 34 = .ok (.invokevirtual 40, 3) := by decide +kernel
theorem dX3_setsBackBy_37 : decode cX3_setsBackBy 37 = .ok (.iconst 1, 1) := by decide +kernel
theorem dX3_setsBackBy_38 : decode cX3_setsBackBy 38 = .ok (.iload_n 3, 1) := by decide +kernel
theorem dX3_setsBackBy_39 : decode cX3_setsBackBy 39 = .ok (.ishl, 1) := by decide +kernel
theorem dX3_setsBackBy_40 : decode cX3_setsBackBy 40 = .ok (.iconst (-1), 1) := by decide +kernel
theorem dX3_setsBackBy_41 : decode cX3_setsBackBy 41 = .ok (.ixor, 1) := by decide +kernel
theorem dX3_setsBackBy_42 : decode cX3_setsBackBy 42 = .ok (.iand, 1) := by decide +kernel
theorem dX3_setsBackBy_43 : decode cX3_setsBackBy 43 = .ok (.istore 4, 2) := by decide +kernel
theorem dX3_setsBackBy_45 : decode cX3_setsBackBy 45 = .ok (.iconst 0, 1) := by decide +kernel
theorem dX3_setsBackBy_46 : decode cX3_setsBackBy 46 = .ok (.istore 5, 2) := by decide +kernel
theorem dX3_setsBackBy_48 : decode cX3_setsBackBy 48 = .ok (.iconst 0, 1) := by decide +kernel
theorem dX3_setsBackBy_49 : decode cX3_setsBackBy 49 = .ok (.istore 6, 2) := by decide +kernel
theorem dX3_setsBackBy_51 : decode cX3_setsBackBy 51 = .ok (.iload 6, 2) := by decide +kernel
theorem dX3_setsBackBy_53 : decode cX3_setsBackBy 53 = .ok (.aload_n 0, 1) := by decide +kernel
theorem dX3_setsBackBy_54 : decode cX3_setsBackBy 54 = .ok (.getfield 9, 3) := by decide +kernel
theorem dX3_setsBackBy_57 : decode cX3_setsBackBy 57 = .ok (.if_icmp .ge 49, 3) := by decide +kernel
theorem dX3_setsBackBy_60 : decode cX3_setsBackBy 60 = .ok (.aload_n 0, 1) := by decide +kernel
theorem dX3_setsBackBy_61 : decode cX3_setsBackBy 61 = .ok (.aload_n 0, 1) := by decide +kernel
theorem dX3_setsBackBy_62 : decode cX3_setsBackBy 62 = .ok (.getfield 30, 3) := by decide +kernel
theorem dX3_setsBackBy_65 : decode cX3_setsBackBy 65 = .ok (.iload 6, 2) := by decide +kernel
theorem dX3_setsBackBy_67 : decode cX3_setsBackBy 67 = .ok (.invokevirtual 40, 3) := by decide +kernel
theorem dX3_setsBackBy_70 : decode cX3_setsBackBy 70 = .ok (.istore 7, 2) := by decide +kernel
theorem dX3_setsBackBy_72 : decode cX3_setsBackBy 72 = .ok (.iload 6, 2) := by decide +kernel
theorem dX3_setsBackBy_74 : decode cX3_setsBackBy 74 = .ok (.iload_n 2, 1) := by decide +kernel
theorem dX3_setsBackBy_75 : decode cX3_setsBackBy 75 = .ok (.if_icmp .eq 25, 3) := by decide +kernel
theorem dX3_setsBackBy_78 : decode cX3_setsBackBy 78 = .ok (.iload 7, 2) := by decide +kernel
theorem dX3_setsBackBy_80 : decode cX3_setsBackBy 80 = .ok (.iload_n 3, 1) := by decide +kernel
theorem dX3_setsBackBy_81 : decode cX3_setsBackBy 81 = .ok (.invokestatic 36, 3) := by decide +kernel
theorem dX3_setsBackBy_84 : decode cX3_setsBackBy 84 = .ok (.ifCond .eq 16, 3) := by decide +kernel
theorem dX3_setsBackBy_87 : decode cX3_setsBackBy 87 = .ok (.iload 5, 2) := by decide +kernel
theorem dX3_setsBackBy_89 : decode cX3_setsBackBy 89 = .ok (.iload 7, 2) := by decide +kernel
theorem dX3_setsBackBy_91 : decode cX3_setsBackBy 91 = .ok (.iload 4, 2) := by decide +kernel
theorem dX3_setsBackBy_93 : decode cX3_setsBackBy 93 = .ok (.iand, 1) := by decide +kernel
theorem dX3_setsBackBy_94 : decode cX3_setsBackBy 94 = .ok (.invokestatic 68, 3) := by decide +kernel
theorem dX3_setsBackBy_97 : decode cX3_setsBackBy 97 = .ok (.iadd, 1) := by decide +kernel
theorem dX3_setsBackBy_98 : decode cX3_setsBackBy 98 = .ok (.istore 5, 2) := by decide +kernel
theorem dX3_setsBackBy_100 : decode cX3_setsBackBy 100 = .ok (.iinc 6 1, 3) := by decide +kernel
theorem dX3_setsBackBy_103 : decode cX3_setsBackBy 103 = .ok (.goto (-52), 3) := by decide +kernel
theorem dX3_setsBackBy_106 : decode cX3_setsBackBy 106 = .ok (.iload 5, 2) := by decide +kernel
theorem dX3_setsBackBy_108 : decode cX3_setsBackBy 108 = .ok (.ireturn, 1) := by decide +kernel
theorem dX3_keysAloneAreSound_0 : decode cX3_keysAloneAreSound 0 = .ok (.iconst 0, 1) := by decide +kernel
theorem dX3_keysAloneAreSound_1 : decode cX3_keysAloneAreSound 1 = .ok (.istore_n 1, 1) := by decide +kernel
theorem dX3_keysAloneAreSound_2 : decode cX3_keysAloneAreSound 2 = .ok (.iload_n 1, 1) := by decide +kernel
theorem dX3_keysAloneAreSound_3 : decode cX3_keysAloneAreSound 3 = .ok (.aload_n 0, 1) := by decide +kernel
theorem dX3_keysAloneAreSound_4 : decode cX3_keysAloneAreSound 4 = .ok (.getfield 18, 3) := by decide +kernel
theorem dX3_keysAloneAreSound_7 : decode cX3_keysAloneAreSound 7 = .ok (.if_icmp .ge 64, 3) := by decide +kernel
theorem dX3_keysAloneAreSound_10 : decode cX3_keysAloneAreSound 10 = .ok (.iconst 1, 1) := by decide +kernel
theorem dX3_keysAloneAreSound_11 : decode cX3_keysAloneAreSound 11 = .ok (.iload_n 1, 1) := by decide +kernel
theorem dX3_keysAloneAreSound_12 : decode cX3_keysAloneAreSound 12 = .ok (.ishl, 1) := by decide +kernel
theorem dX3_keysAloneAreSound_13 : decode cX3_keysAloneAreSound 13 = .ok (.istore_n 2, 1) := by decide +kernel
theorem dX3_keysAloneAreSound_14 : decode cX3_keysAloneAreSound 14 = .ok (.aload_n 0, 1) := by decide +kernel
theorem dX3_keysAloneAreSound_15 : decode cX3_keysAloneAreSound 15 = .ok (.iload_n 2, 1) := by decide +kernel
theorem dX3_keysAloneAreSound_16 : decode cX3_keysAloneAreSound 16 = .ok (.invokevirtual 48, 3) := by decide +kernel
theorem dX3_keysAloneAreSound_19 : decode cX3_keysAloneAreSound 19 = .ok (.iload_n 2, 1) := by decide +kernel
theorem dX3_keysAloneAreSound_20 : decode cX3_keysAloneAreSound 20 = .ok (.if_icmp .ne 7, 3) := by decide +kernel
theorem dX3_keysAloneAreSound_23 : decode cX3_keysAloneAreSound 23 = .ok (.iconst 1, 1) := by decide +kernel
theorem dX3_keysAloneAreSound_24 : decode cX3_keysAloneAreSound 24 = .ok (.goto 4, 3) := by decide +kernel
theorem dX3_keysAloneAreSound_27 : decode cX3_keysAloneAreSound 27 = .ok (.iconst 0, 1) := by decide +kernel
theorem dX3_keysAloneAreSound_28 : decode cX3_keysAloneAreSound 28 = .ok (.istore_n 3, 1) := by decide +kernel
theorem dX3_keysAloneAreSound_29 : decode cX3_keysAloneAreSound 29 = .ok (.aload_n 0, 1) := by decide +kernel
theorem dX3_keysAloneAreSound_30 : decode cX3_keysAloneAreSound 30 = .ok (.getfield 21, 3) := by decide +kernel
theorem dX3_keysAloneAreSound_33 : decode cX3_keysAloneAreSound 33 = .ok (.iload_n 1, 1) := by decide +kernel
theorem dX3_keysAloneAreSound_34 : decode cX3_keysAloneAreSound 34 = .ok (.invokestatic 36, 3) := by decide +kernel
theorem dX3_keysAloneAreSound_37 : decode cX3_keysAloneAreSound 37 = .ok (.ifCond .eq 28, 3) := by decide +kernel
theorem dX3_keysAloneAreSound_40 : decode cX3_keysAloneAreSound 40 = .ok (.aload_n 0, 1) := by decide +kernel
theorem dX3_keysAloneAreSound_41 : decode cX3_keysAloneAreSound 41 = .ok (.iload_n 2, 1) := by decide +kernel
theorem dX3_keysAloneAreSound_42 : decode cX3_keysAloneAreSound 42 = .ok (.invokevirtual 62, 3) := by decide +kernel
theorem dX3_keysAloneAreSound_45 : decode cX3_keysAloneAreSound 45 = .ok (.ifCond .eq 18, 3) := by decide +kernel
theorem dX3_keysAloneAreSound_48 : decode cX3_keysAloneAreSound 48 = .ok (.aload_n 0, 1) := by decide +kernel
theorem dX3_keysAloneAreSound_49 : decode cX3_keysAloneAreSound 49 = .ok (.getfield 30, 3) := by decide +kernel
theorem dX3_keysAloneAreSound_52 : decode cX3_keysAloneAreSound 52 = .ok (.iload_n 1, 1) := by decide +kernel
theorem dX3_keysAloneAreSound_53 : decode cX3_keysAloneAreSound 53 = .ok (.invokestatic 36, 3) := by decide +kernel
theorem dX3_keysAloneAreSound_56 : decode cX3_keysAloneAreSound 56 = .ok (.ifCond .eq 9, 3) := by decide +kernel
theorem dX3_keysAloneAreSound_59 : decode cX3_keysAloneAreSound 59 = .ok (.iload_n 3, 1) := by decide +kernel
theorem dX3_keysAloneAreSound_60 : decode cX3_keysAloneAreSound 60 = .ok (.ifCond .ne 5, 3) := by decide +kernel
theorem dX3_keysAloneAreSound_63 : decode cX3_keysAloneAreSound 63 = .ok (.iconst 0, 1) := by decide +kernel
theorem dX3_keysAloneAreSound_64 : decode cX3_keysAloneAreSound 64 = .ok (.ireturn, 1) := by decide +kernel
theorem dX3_keysAloneAreSound_65 : decode cX3_keysAloneAreSound 65 = .ok (.iinc 1 1, 3) := by decide +kernel
theorem dX3_keysAloneAreSound_68 : decode cX3_keysAloneAreSound 68 = .ok (.goto (-66), 3) := by decide +kernel
theorem dX3_keysAloneAreSound_71 : decode cX3_keysAloneAreSound 71 = .ok (.iconst 1, 1) := by decide +kernel
theorem dX3_keysAloneAreSound_72 : decode cX3_keysAloneAreSound 72 = .ok (.ireturn, 1) := by decide +kernel
theorem dX3_leastIsSound_0 : decode cX3_leastIsSound 0 = .ok (.aload_n 0, 1) := by decide +kernel
theorem dX3_leastIsSound_1 : decode cX3_leastIsSound 1 = .ok (.aload_n 0, 1) := by decide +kernel
theorem dX3_leastIsSound_2 : decode cX3_leastIsSound 2 = .ok (.getfield 24, 3) := by decide +kernel
theorem dX3_leastIsSound_5 : decode cX3_leastIsSound 5 = .ok (.invokevirtual 76, 3) := by decide +kernel
theorem dX3_leastIsSound_8 : decode cX3_leastIsSound 8 = .ok (.istore_n 1, 1) := by decide +kernel
theorem dX3_leastIsSound_9 : decode cX3_leastIsSound 9 = .ok (.aload_n 0, 1) := by decide +kernel
theorem dX3_leastIsSound_10 : decode cX3_leastIsSound 10 = .ok (.invokevirtual 79, 3) := by decide +kernel
theorem dX3_leastIsSound_13 : decode cX3_leastIsSound 13 = .ok (.ifCond .eq 25, 3) := by decide +kernel
theorem dX3_leastIsSound_16 : decode cX3_leastIsSound 16 = .ok (.iload_n 1, 1) := by decide +kernel
theorem dX3_leastIsSound_17 : decode cX3_leastIsSound 17 = .ok (.iconst (-1), 1) := by decide +kernel
theorem dX3_leastIsSound_18 : decode cX3_leastIsSound 18 = .ok (.if_icmp .ne 18, 3) := by decide +kernel
theorem dX3_leastIsSound_21 : decode cX3_leastIsSound 21 = .ok (.aload_n 0, 1) := by decide +kernel
theorem dX3_leastIsSound_22 : decode cX3_leastIsSound 22 = .ok (.aload_n 0, 1) := by decide +kernel
theorem dX3_leastIsSound_23 : decode cX3_leastIsSound 23 = .ok (.getfield 21, 3) := by decide +kernel
theorem dX3_leastIsSound_26 : decode cX3_leastIsSound 26 = .ok (.invokevirtual 62, 3) := by decide +kernel
theorem dX3_leastIsSound_29 : decode cX3_leastIsSound 29 = .ok (.ifCond .eq 7, 3) := by decide +kernel
theorem dX3_leastIsSound_32 : decode cX3_leastIsSound 32 = .ok (.iconst 1, 1) := by decide +kernel
theorem dX3_leastIsSound_33 : decode cX3_leastIsSound 33 = .ok (.goto 4, 3) := by decide +kernel
theorem dX3_leastIsSound_36 : decode cX3_leastIsSound 36 = .ok (.iconst 0, 1) := by decide +kernel
theorem dX3_leastIsSound_37 : decode cX3_leastIsSound 37 = .ok (.ireturn, 1) := by decide +kernel
theorem dX3_leastIsSound_38 : decode cX3_leastIsSound 38 = .ok (.iload_n 1, 1) := by decide +kernel
theorem dX3_leastIsSound_39 : decode cX3_leastIsSound 39 = .ok (.iconst 3, 1) := by decide +kernel
theorem dX3_leastIsSound_40 : decode cX3_leastIsSound 40 = .ok (.if_icmp .lt 14, 3) := by decide +kernel
theorem dX3_leastIsSound_43 : decode cX3_leastIsSound 43 = .ok (.iload_n 1, 1) := by decide +kernel
theorem dX3_leastIsSound_44 : decode cX3_leastIsSound 44 = .ok (.iconst 2, 1) := by decide +kernel
theorem dX3_leastIsSound_45 : decode cX3_leastIsSound 45 = .ok (.irem, 1) := by decide +kernel
theorem dX3_leastIsSound_46 : decode cX3_leastIsSound 46 = .ok (.iconst 1, 1) := by decide +kernel
theorem dX3_leastIsSound_47 : decode cX3_leastIsSound 47 = .ok (.if_icmp .ne 7, 3) := by decide +kernel
theorem dX3_leastIsSound_50 : decode cX3_leastIsSound 50 = .ok (.iconst 1, 1) := by decide +kernel
theorem dX3_leastIsSound_51 : decode cX3_leastIsSound 51 = .ok (.goto 4, 3) := by decide +kernel
theorem dX3_leastIsSound_54 : decode cX3_leastIsSound 54 = .ok (.iconst 0, 1) := by decide +kernel
theorem dX3_leastIsSound_55 : decode cX3_leastIsSound 55 = .ok (.ireturn, 1) := by decide +kernel
