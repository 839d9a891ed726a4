theorem dX1_init_0 : decode cX1_init 0 = .ok (.aload_n 0, 1) := by decide +kernel
theorem dX1_init_1 : decode cX1_init 1 = .ok (.invokespecial 3, 3) := by decide +kernel
theorem dX1_init_4 : decode cX1_init 4 = .ok (.aload_n 0, 1) := by decide +kernel
theorem dX1_init_5 : decode cX1_init 5 = .ok (.bipush 75, 2) := by decide +kernel
theorem dX1_init_7 : decode cX1_init 7 = .ok (.newarray .int, 2) := by decide +kernel
theorem dX1_init_9 : decode cX1_init 9 = .ok (.putfield 9, 3) := by decide +kernel
theorem dX1_init_12 : decode cX1_init 12 = .ok (.aload_n 0, 1) := by decide +kernel
theorem dX1_init_13 : decode cX1_init 13 = .ok (.bipush 25, 2) := by decide +kernel
theorem dX1_init_15 : decode cX1_init 15 = .ok (.newarray .int, 2) := by decide +kernel
theorem dX1_init_17 : decode cX1_init 17 = .ok (.putfield 15, 3) := by decide +kernel
theorem dX1_init_20 : decode cX1_init 20 = .ok (.aload_n 0, 1) := by decide +kernel
theorem dX1_init_21 : decode cX1_init 21 = .ok (.bipush 25, 2) := by decide +kernel
theorem dX1_init_23 : decode cX1_init 23 = .ok (.newarray .int, 2) := by decide +kernel
theorem dX1_init_25 : decode cX1_init 25 = .ok (.putfield 18, 3) := by decide +kernel
theorem dX1_init_28 : decode cX1_init 28 = .ok (.aload_n 0, 1) := by decide +kernel
theorem dX1_init_29 : decode cX1_init 29 = .ok (.new 21, 3) := by decide +kernel
theorem dX1_init_32 : decode cX1_init 32 = .ok (.dup, 1) := by decide +kernel
theorem dX1_init_33 : decode cX1_init 33 = .ok (.invokespecial 23, 3) := by decide +kernel
theorem dX1_init_36 : decode cX1_init 36 = .ok (.putfield 24, 3) := by decide +kernel
theorem dX1_init_39 : decode cX1_init 39 = .ok (.aload_n 0, 1) := by decide +kernel
theorem dX1_init_40 : decode cX1_init 40 = .ok (.bipush 6, 2) := by decide +kernel
theorem dX1_init_42 : decode cX1_init 42 = .ok (.newarray .int, 2) := by decide +kernel
theorem dX1_init_44 : decode cX1_init 44 = .ok (.putfield 28, 3) := by decide +kernel
theorem dX1_init_47 : decode cX1_init 47 = .ok (.aload_n 0, 1) := by decide +kernel
theorem dX1_init_48 : decode cX1_init 48 = .ok (.bipush 6, 2) := by decide +kernel
theorem dX1_init_50 : decode cX1_init 50 = .ok (.newarray .int, 2) := by decide +kernel
theorem dX1_init_52 : decode cX1_init 52 = .ok (.putfield 31, 3) := by decide +kernel
theorem dX1_init_55 : decode cX1_init 55 = .ok (.aload_n 0, 1) := by decide +kernel
theorem dX1_init_56 : decode cX1_init 56 = .ok (.bipush 18, 2) := by decide +kernel
theorem dX1_init_58 : decode cX1_init 58 = .ok (.newarray .int, 2) := by decide +kernel
theorem dX1_init_60 : decode cX1_init 60 = .ok (.putfield 34, 3) := by decide +kernel
theorem dX1_init_63 : decode cX1_init 63 = .ok (.return_, 1) := by decide +kernel
theorem dX1_startAnew_0 : decode cX1_startAnew 0 = .ok (.iconst 0, 1) := by decide +kernel
theorem dX1_startAnew_1 : decode cX1_startAnew 1 = .ok (.istore_n 1, 1) := by decide +kernel
theorem dX1_startAnew_2 : decode cX1_startAnew 2 = .ok (.iload_n 1, 1) := by decide +kernel
theorem dX1_startAnew_3 : decode cX1_startAnew 3 = .ok (.aload_n 0, 1) := by decide +kernel
theorem dX1_startAnew_4 : decode cX1_startAnew 4 = .ok (.getfield 9, 3) := by decide +kernel
theorem dX1_startAnew_7 : decode cX1_startAnew 7 = .ok (.arraylength, 1) := by decide +kernel
theorem dX1_startAnew_8 : decode cX1_startAnew 8 = .ok (.if_icmp .ge 30, 3) := by decide +kernel
theorem dX1_startAnew_11 : decode cX1_startAnew 11 = .ok (.aload_n 0, 1) := by decide +kernel
theorem dX1_startAnew_12 : decode cX1_startAnew 12 = .ok (.getfield 9, 3) := by decide +kernel
theorem dX1_startAnew_15 : decode cX1_startAnew 15 = .ok (.iload_n 1, 1) := by decide +kernel
theorem dX1_startAnew_16 : decode cX1_startAnew 16 = .ok (.iload_n 1, 1) := by decide +kernel
theorem dX1_startAnew_17 : decode cX1_startAnew 17 = .ok (.bipush 25, 2) := by decide +kernel
theorem dX1_startAnew_19 : decode cX1_startAnew 19 = .ok (.if_icmp .ge 10, 3) := by decide +kernel
theorem dX1_startAnew_22 : decode cX1_startAnew 22 = .ok (.iload_n 1, 1) := by decide +kernel
theorem dX1_startAnew_23 : decode cX1_startAnew 23 = .ok (.bipush 26, 2) := by decide +kernel
theorem dX1_startAnew_25 : decode cX1_startAnew 25 = .ok (.irem, 1) := by decide +kernel
theorem dX1_startAnew_26 : decode cX1_startAnew 26 = .ok (.goto 5, 3) := by decide +kernel
theorem dX1_startAnew_29 : decode cX1_startAnew 29 = .ok (.bipush 31, 2) := by decide +kernel
theorem dX1_startAnew_31 : decode cX1_startAnew 31 = .ok (.iastore, 1) := by decide +kernel
theorem dX1_startAnew_32 : decode cX1_startAnew 32 = .ok (.iinc 1 1, 3) := by decide +kernel
theorem dX1_startAnew_35 : decode cX1_startAnew 35 = .ok (.goto (-33), 3) := by decide +kernel
theorem dX1_startAnew_38 : decode cX1_startAnew 38 = .ok (.iconst 0, 1) := by decide +kernel
theorem dX1_startAnew_39 : decode cX1_startAnew 39 = .ok (.istore_n 1, 1) := by decide +kernel
theorem dX1_startAnew_40 : decode cX1_startAnew 40 = .ok (.iload_n 1, 1) := by decide +kernel
theorem dX1_startAnew_41 : decode cX1_startAnew 41 = .ok (.bipush 25, 2) := by decide +kernel
theorem dX1_startAnew_43 : decode cX1_startAnew 43 = .ok (.if_icmp .ge 23, 3) := by decide +kernel
theorem dX1_startAnew_46 : decode cX1_startAnew 46 = .ok (.aload_n 0, 1) := by decide +kernel
theorem dX1_startAnew_47 : decode cX1_startAnew 47 = .ok (.getfield 15, 3) := by decide +kernel
theorem dX1_startAnew_50 : decode cX1_startAnew 50 = .ok (.iload_n 1, 1) := by decide +kernel
theorem dX1_startAnew_51 : decode cX1_startAnew 51 = .ok (.iconst (-1), 1) := by decide +kernel
theorem dX1_startAnew_52 : decode cX1_startAnew 52 = .ok (.iastore, 1) := by decide +kernel
theorem dX1_startAnew_53 : decode cX1_startAnew 53 = .ok (.aload_n 0, 1) := by decide +kernel
theorem dX1_startAnew_54 : decode cX1_startAnew 54 = .ok (.getfield 18, 3) := by decide +kernel
theorem dX1_startAnew_57 : decode cX1_startAnew 57 = .ok (.iload_n 1, 1) := by decide +kernel
theorem dX1_startAnew_58 : decode cX1_startAnew 58 = .ok (.iconst 0, 1) := by decide +kernel
theorem dX1_startAnew_59 : decode cX1_startAnew 59 = .ok (.iastore, 1) := by decide +kernel
theorem dX1_startAnew_60 : decode cX1_startAnew 60 = .ok (.iinc 1 1, 3) := by decide +kernel
theorem dX1_startAnew_63 : decode cX1_startAnew 63 = .ok (.goto (-23), 3) := by decide +kernel
theorem dX1_startAnew_66 : decode cX1_startAnew 66 = .ok (.aload_n 0, 1) := by decide +kernel
theorem dX1_startAnew_67 : decode cX1_startAnew 67 = .ok (.getfield 24, 3) := by decide +kernel
theorem dX1_startAnew_70 : decode cX1_startAnew 70 = .ok (.iconst 0, 1) := by decide +kernel
theorem dX1_startAnew_71 : decode cX1_startAnew 71 = .ok (.invokevirtual 37, 3) := by decide +kernel
theorem dX1_startAnew_74 : decode cX1_startAnew 74 = .ok (.aload_n 0, 1) := by decide +kernel
theorem dX1_startAnew_75 : decode cX1_startAnew 75 = .ok (.iconst 0, 1) := by decide +kernel
theorem dX1_startAnew_76 : decode cX1_startAnew 76 = .ok (.putfield 41, 3) := by decide +kernel
theorem dX1_startAnew_79 : decode cX1_startAnew 79 = .ok (.aload_n 0, 1) := by decide +kernel
theorem dX1_startAnew_80 : decode cX1_startAnew 80 = .ok (.iconst 0, 1) := by decide +kernel
theorem dX1_startAnew_81 : decode cX1_startAnew 81 = .ok (.putfield 45, 3) := by decide +kernel
theorem dX1_startAnew_84 : decode cX1_startAnew 84 = .ok (.aload_n 0, 1) := by decide +kernel
theorem dX1_startAnew_85 : decode cX1_startAnew 85 = .ok (.iconst 0, 1) := by decide +kernel
theorem dX1_startAnew_86 : decode cX1_startAnew 86 = .ok (.putfield 48, 3) := by decide +kernel
theorem dX1_startAnew_89 : decode cX1_startAnew 89 = .ok (.return_, 1) := by decide +kernel
theorem dX1_layerNow_0 : decode cX1_layerNow 0 = .ok (.aload_n 0, 1) := by decide +kernel
theorem dX1_layerNow_1 : decode cX1_layerNow 1 = .ok (.bipush 30, 2) := by decide +kernel
theorem dX1_layerNow_3 : decode cX1_layerNow 3 = .ok (.invokevirtual 51, 3) := by decide +kernel
theorem dX1_layerNow_6 : decode cX1_layerNow 6 = .ok (.ifCond .eq 5, 3) := by decide +kernel
theorem dX1_layerNow_9 : decode cX1_layerNow 9 = .ok (.iconst 2, 1) := by decide +kernel
theorem dX1_layerNow_10 : decode cX1_layerNow 10 = .ok (.ireturn, 1) := by decide +kernel
theorem dX1_layerNow_11 : decode cX1_layerNow 11 = .ok (.aload_n 0, 1) := by decide +kernel
theorem dX1_layerNow_12 : decode cX1_layerNow 12 = .ok (.bipush 29, 2) := by decide +kernel
theorem dX1_layerNow_14 : decode cX1_layerNow 14 = .ok (.invokevirtual 51, 3) := by decide +kernel
theorem dX1_layerNow_17 : decode cX1_layerNow 17 = .ok (.ifCond .eq 7, 3) := by decide +kernel
theorem dX1_layerNow_20 : decode cX1_layerNow 20 = .ok (.iconst 1, 1) := by decide +kernel
theorem dX1_layerNow_21 : decode cX1_layerNow 21 = .ok (.goto 4, 3) := by decide +kernel
theorem dX1_layerNow_24 : decode cX1_layerNow 24 = .ok (.iconst 0, 1) := by decide +kernel
theorem dX1_layerNow_25 : decode cX1_layerNow 25 = .ok (.ireturn, 1) := by decide +kernel
theorem dX1_isDownWith_0 : decode cX1_isDownWith 0 = .ok (.iconst 0, 1) := by decide +kernel
theorem dX1_isDownWith_1 : decode cX1_isDownWith 1 = .ok (.istore_n 2, 1) := by decide +kernel
theorem dX1_isDownWith_2 : decode cX1_isDownWith 2 = .ok (.iload_n 2, 1) := by decide +kernel
theorem dX1_isDownWith_3 : decode cX1_isDownWith 3 = .ok (.bipush 25, 2) := by decide +kernel
theorem dX1_isDownWith_5 : decode cX1_isDownWith 5 = .ok (.if_icmp .ge 21, 3) := by decide +kernel
theorem dX1_isDownWith_8 : decode cX1_isDownWith 8 = .ok (.aload_n 0, 1) := by decide +kernel
theorem dX1_isDownWith_9 : decode cX1_isDownWith 9 = .ok (.getfield 15, 3) := by decide +kernel
theorem dX1_isDownWith_12 : decode cX1_isDownWith 12 = .ok (.iload_n 2, 1) := by decide +kernel
theorem dX1_isDownWith_13 : decode cX1_isDownWith 13 = .ok (.iaload, 1) := by decide +kernel
theorem dX1_isDownWith_14 : decode cX1_isDownWith 14 = .ok (.iload_n 1, 1) := by decide +kernel
theorem dX1_isDownWith_15 : decode cX1_isDownWith 15 = .ok (.if_icmp .ne 5, 3) := by decide +kernel
theorem dX1_isDownWith_18 : decode cX1_isDownWith 18 = .ok (.iconst 1, 1) := by decide +kernel
theorem dX1_isDownWith_19 : decode cX1_isDownWith 19 = .ok (.ireturn, 1) := by decide +kernel
theorem dX1_isDownWith_20 : decode cX1_isDownWith 20 = .ok (.iinc 2 1, 3) := by decide +kernel
theorem dX1_isDownWith_23 : decode cX1_isDownWith 23 = .ok (.goto (-21), 3) := by decide +kernel
theorem dX1_isDownWith_26 : decode cX1_isDownWith 26 = .ok (.iconst 0, 1) := by decide +kernel
theorem dX1_isDownWith_27 : decode cX1_isDownWith 27 = .ok (.ireturn, 1) := by decide +kernel
theorem dX1_press_0 : decode cX1_press 0 = .ok (.aload_n 0, 1) := by decide +kernel
theorem dX1_press_1 : decode cX1_press 1 = .ok (.getfield 9, 3) := by decide +kernel
theorem dX1_press_4 : decode cX1_press 4 = .ok (.aload_n 0, 1) := by decide +kernel
theorem dX1_press_5 : decode cX1_press 5 = .ok (.invokevirtual 55, 3) := by decide +kernel
theorem dX1_press_8 : decode cX1_press 8 = .ok (.bipush 25, 2) := by decide +kernel
theorem dX1_press_10 : decode cX1_press 10 = .ok (.imul, 1) := by decide +kernel
theorem dX1_press_11 : decode cX1_press 11 = .ok (.iload_n 1, 1) := by decide +kernel
theorem dX1_press_12 : decode cX1_press 12 = .ok (.iadd, 1) := by decide +kernel
theorem dX1_press_13 : decode cX1_press 13 = .ok (.iaload, 1) := by decide +kernel
theorem dX1_press_14 : decode cX1_press 14 = .ok (.istore_n 3, 1) := by decide +kernel
theorem dX1_press_15 : decode cX1_press 15 = .ok (.aload_n 0, 1) := by decide +kernel
theorem dX1_press_16 : decode cX1_press 16 = .ok (.getfield 15, 3) := by decide +kernel
theorem dX1_press_19 : decode cX1_press 19 = .ok (.iload_n 1, 1) := by decide +kernel
theorem dX1_press_20 : decode cX1_press 20 = .ok (.iload_n 3, 1) := by decide +kernel
theorem dX1_press_21 : decode cX1_press 21 = .ok (.iastore, 1) := by decide +kernel
theorem dX1_press_22 : decode cX1_press 22 = .ok (.aload_n 0, 1) := by decide +kernel
theorem dX1_press_23 : decode cX1_press 23 = .ok (.getfield 18, 3) := by decide +kernel
theorem dX1_press_26 : decode cX1_press 26 = .ok (.iload_n 1, 1) := by decide +kernel
theorem dX1_press_27 : decode cX1_press 27 = .ok (.iload_n 2, 1) := by decide +kernel
theorem dX1_press_28 : decode cX1_press 28 = .ok (.iastore, 1) := by decide +kernel
theorem dX1_press_29 : decode cX1_press 29 = .ok (.iload_n 3, 1) := by decide +kernel
theorem dX1_press_30 : decode cX1_press 30 = .ok (.bipush 26, 2) := by decide +kernel
theorem dX1_press_32 : decode cX1_press 32 = .ok (.if_icmp .ge 29, 3) := by decide +kernel
theorem dX1_press_35 : decode cX1_press 35 = .ok (.aload_n 0, 1) := by decide +kernel
theorem dX1_press_36 : decode cX1_press 36 = .ok (.aload_n 0, 1) := by decide +kernel
theorem dX1_press_37 : decode cX1_press 37 = .ok (.bipush 28, 2) := by decide +kernel
theorem dX1_press_39 : decode cX1_press 39 = .ok (.invokevirtual 51, 3) := by decide +kernel
theorem dX1_press_42 : decode cX1_press 42 = .ok (.ifCond .eq 8, 3) := by decide +kernel
theorem dX1_press_45 : decode cX1_press 45 = .ok (.bipush 65, 2) := by decide +kernel
theorem dX1_press_47 : decode cX1_press 47 = .ok (.goto 5, 3) := by decide +kernel
theorem dX1_press_50 : decode cX1_press 50 = .ok (.bipush 97, 2) := by decide +kernel
theorem dX1_press_52 : decode cX1_press 52 = .ok (.iload_n 3, 1) := by decide +kernel
theorem dX1_press_53 : decode cX1_press 53 = .ok (.iadd, 1) := by decide +kernel
theorem dX1_press_54 : decode cX1_press 54 = .ok (.i2c, 1) := by decide +kernel
theorem dX1_press_55 : decode cX1_press 55 = .ok (.invokevirtual 59, 3) := by decide +kernel
theorem dX1_press_58 : decode cX1_press 58 = .ok (.goto 50, 3) := by decide +kernel
theorem dX1_press_61 : decode cX1_press 61 = .ok (.iload_n 3, 1) := by decide +kernel
theorem dX1_press_62 : decode cX1_press 62 = .ok (.bipush 26, 2) := by decide +kernel
theorem dX1_press_64 : decode cX1_press 64 = .ok (.if_icmp .ne 12, 3) := by decide +kernel
theorem dX1_press_67 : decode cX1_press 67 = .ok (.aload_n 0, 1) := by decide +kernel
theorem dX1_press_68 : decode cX1_press 68 = .ok (.bipush 32, 2) := by decide +kernel
theorem dX1_press_70 : decode cX1_press 70 = .ok (.invokevirtual 59, 3) := by decide +kernel
theorem dX1_press_73 : decode cX1_press 73 = .ok (.goto 35, 3) := by decide +kernel
theorem dX1_press_76 : decode cX1_press 76 = .ok (.iload_n 3, 1) := by decide +kernel
theorem dX1_press_77 : decode cX1_press 77 = .ok (.bipush 27, 2) := by decide +kernel
theorem dX1_press_79 : decode cX1_press 79 = .ok (.if_icmp .ne 29, 3) := by decide +kernel
theorem dX1_press_82 : decode cX1_press 82 = .ok (.aload_n 0, 1) := by decide +kernel
theorem dX1_press_83 : decode cX1_press 83 = .ok (.getfield 24, 3) := by decide +kernel
theorem dX1_press_86 : decode cX1_press 86 = .ok (.invokevirtual 63, 3) := by decide +kernel
theorem dX1_press_89 : decode cX1_press 89 = .ok (.ifCond .le 19, 3) := by decide +kernel
theorem dX1_press_92 : decode cX1_press 92 = .ok (.aload_n 0, 1) := by decide +kernel
theorem dX1_press_93 : decode cX1_press 93 = .ok (.getfield 24, 3) := by decide +kernel
theorem dX1_press_96 : decode cX1_press 96 = .ok (.aload_n 0, 1) := by decide +kernel
theorem dX1_press_97 : decode cX1_press 97 = .ok (.getfield 24, 3) := by decide +kernel
theorem dX1_press_100 : decode cX1_press 100 = .ok (.invokevirtual 63, 3) := by decide +kernel
theorem dX1_press_103 : decode cX1_press 103 = .ok (.iconst 1, 1) := by decide +kernel
theorem dX1_press_104 : decode cX1_press 104 = .ok (.isub, 1) := by decide +kernel
theorem dX1_press_105 : decode cX1_press 105 = .ok (.invokevirtual 37, 3) := by decide +kernel
theorem dX1_press_108 : decode cX1_press 108 = .ok (.return_, 1) := by decide +kernel
theorem dX1_release_0 : decode cX1_release 0 = .ok (.aload_n 0, 1) := by decide +kernel
theorem dX1_release_1 : decode cX1_release 1 = .ok (.getfield 15, 3) := by decide +kernel
theorem dX1_release_4 : decode cX1_release 4 = .ok (.iload_n 1, 1) := by decide +kernel
theorem dX1_release_5 : decode cX1_release 5 = .ok (.iconst (-1), 1) := by decide +kernel
theorem dX1_release_6 : decode cX1_release 6 = .ok (.iastore, 1) := by decide +kernel
theorem dX1_release_7 : decode cX1_release 7 = .ok (.return_, 1) := by decide +kernel
theorem dX1_type_0 : decode cX1_type 0 = .ok (.aload_n 0, 1) := by decide +kernel
theorem dX1_type_1 : decode cX1_type 1 = .ok (.getfield 24, 3) := by decide +kernel
theorem dX1_type_4 : decode cX1_type 4 = .ok (.invokevirtual 63, 3) := by decide +kernel
theorem dX1_type_7 : decode cX1_type 7 = .ok (.bipush 60, 2) := by decide +kernel
theorem dX1_type_9 : decode cX1_type 9 = .ok (.if_icmp .ge 15, 3) := by decide +kernel
theorem dX1_type_12 : decode cX1_type 12 = .ok (.aload_n 0, 1) := by decide +kernel
theorem dX1_type_13 : decode cX1_type 13 = .ok (.getfield 24, 3) := by decide +kernel
theorem dX1_type_16 : decode cX1_type 16 = .ok (.iload_n 1, 1) := by decide +kernel
theorem dX1_type_17 : decode cX1_type 17 = .ok (.invokevirtual 66, 3) := by decide +kernel
theorem dX1_type_20 : decode cX1_type 20 = .ok (.pop, 1) := by decide +kernel
theorem dX1_type_21 : decode cX1_type 21 = .ok (.goto 13, 3) := by decide +kernel
theorem dX1_type_24 : decode cX1_type 24 = .ok (.aload_n 0, 1) := by decide +kernel
theorem dX1_type_25 : decode cX1_type 25 = .ok (.dup, 1) := by decide +kernel
theorem dX1_type_26 : decode cX1_type 26 = .ok (.getfield 41, 3) := by decide +kernel
theorem dX1_type_29 : decode cX1_type 29 = .ok (.iconst 1, 1) := by decide +kernel
theorem dX1_type_30 : decode cX1_type 30 = .ok (.iadd, 1) := by decide +kernel
theorem dX1_type_31 : decode cX1_type 31 = .ok (.putfield 41, 3) := by decide +kernel
theorem dX1_type_34 : decode cX1_type 34 = .ok (.return_, 1) := by decide +kernel
theorem dX1_addChord_0 : decode cX1_addChord 0 = .ok (.aload_n 0, 1) := by decide +kernel
theorem dX1_addChord_1 : decode cX1_addChord 1 = .ok (.getfield 45, 3) := by decide +kernel
theorem dX1_addChord_4 : decode cX1_addChord 4 = .ok (.istore_n 3, 1) := by decide +kernel
theorem dX1_addChord_5 : decode cX1_addChord 5 = .ok (.aload_n 0, 1) := by decide +kernel
theorem dX1_addChord_6 : decode cX1_addChord 6 = .ok (.getfield 28, 3) := by decide +kernel
theorem dX1_addChord_9 : decode cX1_addChord 9 = .ok (.iload_n 3, 1) := by decide +kernel
theorem dX1_addChord_10 : decode cX1_addChord 10 = .ok (.iload_n 1, 1) := by decide +kernel
theorem dX1_addChord_11 : decode cX1_addChord 11 = .ok (.iastore, 1) := by decide +kernel
theorem dX1_addChord_12 : decode cX1_addChord 12 = .ok (.aload_n 0, 1) := by decide +kernel
theorem dX1_addChord_13 : decode cX1_addChord 13 = .ok (.getfield 31, 3) := by decide +kernel
theorem dX1_addChord_16 : decode cX1_addChord 16 = .ok (.iload_n 3, 1) := by decide +kernel
theorem dX1_addChord_17 : decode cX1_addChord 17 = .ok (.iload_n 2, 1) := by decide +kernel
theorem dX1_addChord_18 : decode cX1_addChord 18 = .ok (.iastore, 1) := by decide +kernel
theorem dX1_addChord_19 : decode cX1_addChord 19 = .ok (.iconst 0, 1) := by decide +kernel
theorem dX1_addChord_20 : decode cX1_addChord 20 = .ok (.istore 4, 2) := by decide +kernel
theorem dX1_addChord_22 : decode cX1_addChord 22 = .ok (.iload 4, 2) := by decide +kernel
theorem dX1_addChord_24 : decode cX1_addChord 24 = .ok (.iconst 3, 1) := by decide +kernel
theorem dX1_addChord_25 : decode cX1_addChord 25 = .ok (.if_icmp .ge 21, 3) := by decide +kernel
theorem dX1_addChord_28 : decode cX1_addChord 28 = .ok (.aload_n 0, 1) := by decide +kernel
theorem dX1_addChord_29 : decode cX1_addChord 29 = .ok (.getfield 34, 3) := by decide +kernel
theorem dX1_addChord_32 : decode cX1_addChord 32 = .ok (.iload_n 3, 1) := by decide +kernel
theorem dX1_addChord_33 : decode cX1_addChord 33 = .ok (.iconst 3, 1) := by decide +kernel
theorem dX1_addChord_34 : decode cX1_addChord 34 = .ok (.imul, 1) := by decide +kernel
theorem dX1_addChord_35 : decode cX1_addChord 35 = .ok (.iload 4, 2) := by decide +kernel
theorem dX1_addChord_37 : decode cX1_addChord 37 = .ok (.iadd, 1) := by decide +kernel
theorem dX1_addChord_38 : decode cX1_addChord 38 = .ok (.iconst 0, 1) := by decide +kernel
theorem dX1_addChord_39 : decode cX1_addChord 39 = .ok (.iastore, 1) := by decide +kernel
theorem dX1_addChord_40 : decode cX1_addChord 40 = .ok (.iinc 4 1, 3) := by decide +kernel
theorem dX1_addChord_43 : decode cX1_addChord 43 = .ok (.goto (-21), 3) := by decide +kernel
theorem dX1_addChord_46 : decode cX1_addChord 46 = .ok (.aload_n 0, 1) := by decide +kernel
theorem dX1_addChord_47 : decode cX1_addChord 47 = .ok (.dup, 1) := by decide +kernel
theorem dX1_addChord_48 : decode cX1_addChord 48 = .ok (.getfield 45, 3) := by decide +kernel
theorem dX1_addChord_51 : decode cX1_addChord 51 = .ok (.iconst 1, 1) := by decide +kernel
theorem dX1_addChord_52 : decode cX1_addChord 52 = .ok (.iadd, 1) := by decide +kernel
theorem dX1_addChord_53 : decode cX1_addChord 53 = .ok (.putfield 45, 3) := by decide +kernel
theorem dX1_addChord_56 : decode cX1_addChord 56 = .ok (.iload_n 3, 1) := by decide +kernel
theorem dX1_addChord_57 : decode cX1_addChord 57 = .ok (.ireturn, 1) := by decide +kernel
theorem dX1_typeChords_0 : decode cX1_typeChords 0 = .ok (.iconst 0, 1) := by decide +kernel
theorem dX1_typeChords_1 : decode cX1_typeChords 1 = .ok (.istore_n 2, 1) := by decide +kernel
theorem dX1_typeChords_2 : decode cX1_typeChords 2 = .ok (.iload_n 2, 1) := by decide +kernel
theorem dX1_typeChords_3 : decode cX1_typeChords 3 = .ok (.aload_n 0, 1) := by decide +kernel
theorem dX1_typeChords_4 : decode cX1_typeChords 4 = .ok (.getfield 45, 3) := by decide +kernel
theorem dX1_typeChords_7 : decode cX1_typeChords 7 = .ok (.if_icmp .ge 50, 3) := by decide +kernel
theorem dX1_typeChords_10 : decode cX1_typeChords 10 = .ok (.aload_n 0, 1) := by decide +kernel
theorem dX1_typeChords_11 : decode cX1_typeChords 11 = .ok (.iload_n 2, 1) := by decide +kernel
theorem dX1_typeChords_12 : decode cX1_typeChords 12 = .ok (.iload_n 1, 1) := by decide +kernel
theorem dX1_typeChords_13 : decode cX1_typeChords 13 = .ok (.invokevirtual 70, 3) := by decide +kernel
theorem dX1_typeChords_16 : decode cX1_typeChords 16 = .ok (.ifCond .eq 35, 3) := by decide +kernel
theorem dX1_typeChords_19 : decode cX1_typeChords 19 = .ok (.aload_n 0, 1) := by decide +kernel
theorem dX1_typeChords_20 : decode cX1_typeChords 20 = .ok (.iload_n 2, 1) := by decide +kernel
theorem dX1_typeChords_21 : decode cX1_typeChords 21 = .ok (.invokevirtual 74, 3) := by decide +kernel
theorem dX1_typeChords_24 : decode cX1_typeChords 24 = .ok (.ifCond .eq 27, 3) := by decide +kernel
theorem dX1_typeChords_27 : decode cX1_typeChords 27 = .ok (.aload_n 0, 1) := by decide +kernel
theorem dX1_typeChords_28 : decode cX1_typeChords 28 = .ok (.dup, 1) := by decide +kernel
theorem dX1_typeChords_29 : decode cX1_typeChords 29 = .ok (.getfield 48, 3) := by decide +kernel
theorem dX1_typeChords_32 : decode cX1_typeChords 32 = .ok (.iconst 1, 1) := by decide +kernel
theorem dX1_typeChords_33 : decode cX1_typeChords 33 = .ok (.iadd, 1) := by decide +kernel
theorem dX1_typeChords_34 : decode cX1_typeChords 34 = .ok (.putfield 48, 3) := by decide +kernel
theorem dX1_typeChords_37 : decode cX1_typeChords 37 = .ok (.aload_n 0, 1) := by decide +kernel
theorem dX1_typeChords_38 : decode cX1_typeChords 38 = .ok (.bipush 97, 2) := by decide +kernel
theorem dX1_typeChords_40 : decode cX1_typeChords 40 = .ok (.aload_n 0, 1) := by decide +kernel
theorem dX1_typeChords_41 : decode cX1_typeChords 41 = .ok (.getfield 31, 3) := by decide +kernel
theorem dX1_typeChords_44 : decode cX1_typeChords 44 = .ok (.iload_n 2, 1) := by decide +kernel
theorem dX1_typeChords_45 : decode cX1_typeChords 45 = .ok (.iaload, 1) := by decide +kernel
theorem dX1_typeChords_46 : decode cX1_typeChords 46 = .ok (.iadd, 1) := by decide +kernel
theorem dX1_typeChords_47 : decode cX1_typeChords 47 = .ok (.i2c, 1) := by decide +kernel
theorem dX1_typeChords_48 : decode cX1_typeChords 48 = .ok (.invokevirtual 59, 3) := by decide +kernel
theorem dX1_typeChords_51 : decode cX1_typeChords 51 = .ok (.iinc 2 1, 3) := by decide +kernel
theorem dX1_typeChords_54 : decode cX1_typeChords 54 = .ok (.goto (-52), 3) := by decide +kernel
theorem dX1_typeChords_57 : decode cX1_typeChords 57 = .ok (.return_, 1) := by decide +kernel
theorem dX1_isDown_0 : decode cX1_isDown 0 = .ok (.iconst 0, 1) := by decide +kernel
theorem dX1_isDown_1 : decode cX1_isDown 1 = .ok (.istore_n 3, 1) := by decide +kernel
theorem dX1_isDown_2 : decode cX1_isDown 2 = .ok (.iload_n 3, 1) := by decide +kernel
theorem dX1_isDown_3 : decode cX1_isDown 3 = .ok (.bipush 25, 2) := by decide +kernel
theorem dX1_isDown_5 : decode cX1_isDown 5 = .ok (.if_icmp .ge 59, 3) := by decide +kernel
theorem dX1_isDown_8 : decode cX1_isDown 8 = .ok (.aload_n 0, 1) := by decide +kernel
theorem dX1_isDown_9 : decode cX1_isDown 9 = .ok (.getfield 15, 3) := by decide +kernel
theorem dX1_isDown_12 : decode cX1_isDown 12 = .ok (.iload_n 3, 1) := by decide +kernel
theorem dX1_isDown_13 : decode cX1_isDown 13 = .ok (.iaload, 1) := by decide +kernel
theorem dX1_isDown_14 : decode cX1_isDown 14 = .ok (.iconst (-1), 1) := by decide +kernel
theorem dX1_isDown_15 : decode cX1_isDown 15 = .ok (.if_icmp .eq 20, 3) := by decide +kernel
theorem dX1_isDown_18 : decode cX1_isDown 18 = .ok (.iload_n 2, 1) := by decide +kernel
theorem dX1_isDown_19 : decode cX1_isDown 19 = .ok (.aload_n 0, 1) := by decide +kernel
theorem dX1_isDown_20 : decode cX1_isDown 20 = .ok (.getfield 18, 3) := by decide +kernel
theorem dX1_isDown_23 : decode cX1_isDown 23 = .ok (.iload_n 3, 1) := by decide +kernel
theorem dX1_isDown_24 : decode cX1_isDown 24 = .ok (.iaload, 1) := by decide +kernel
theorem dX1_isDown_25 : decode cX1_isDown 25 = .ok (.isub, 1) := by decide +kernel
theorem dX1_isDown_26 : decode cX1_isDown 26 = .ok (.bipush 8, 2) := by decide +kernel
theorem dX1_isDown_28 : decode cX1_isDown 28 = .ok (.if_icmp .ge 7, 3) := by decide +kernel
theorem dX1_isDown_31 : decode cX1_isDown 31 = .ok (.iconst 1, 1) := by decide +kernel
theorem dX1_isDown_32 : decode cX1_isDown 32 = .ok (.goto 4, 3) := by decide +kernel
theorem dX1_isDown_35 : decode cX1_isDown 35 = .ok (.iconst 0, 1) := by decide +kernel
theorem dX1_isDown_36 : decode cX1_isDown 36 = .ok (.istore 4, 2) := by decide +kernel
theorem dX1_isDown_38 : decode cX1_isDown 38 = .ok (.aload_n 0, 1) := by decide +kernel
theorem dX1_isDown_39 : decode cX1_isDown 39 = .ok (.getfield 28, 3) := by decide +kernel
theorem dX1_isDown_42 : decode cX1_isDown 42 = .ok (.iload_n 1, 1) := by decide +kernel
theorem dX1_isDown_43 : decode cX1_isDown 43 = .ok (.iaload, 1) := by decide +kernel
theorem dX1_isDown_44 : decode cX1_isDown 44 = .ok (.iload_n 3, 1) := by decide +kernel
theorem dX1_isDown_45 : decode cX1_isDown 45 = .ok (.invokestatic 77, 3) := by decide +kernel
theorem dX1_isDown_48 : decode cX1_isDown 48 = .ok (.ifCond .eq 10, 3) := by decide +kernel
theorem dX1_isDown_51 : decode cX1_isDown 51 = .ok (.iload 4, 2) := by decide +kernel
theorem dX1_isDown_53 : decode cX1_isDown 53 = .ok (.ifCond .ne 5, 3) := by decide +kernel
theorem dX1_isDown_56 : decode cX1_isDown 56 = .ok (.iconst 0, 1) := by decide +kernel
theorem dX1_isDown_57 : decode cX1_isDown 57 = .ok (.ireturn, 1) := by decide +kernel
theorem dX1_isDown_58 : decode cX1_isDown 58 = .ok (.iinc 3 1, 3) := by decide +kernel
theorem dX1_isDown_61 : decode cX1_isDown 61 = .ok (.goto (-59), 3) := by decide +kernel
theorem dX1_isDown_64 : decode cX1_isDown 64 = .ok (.iconst 1, 1) := by decide +kernel
theorem dX1_isDown_65 : decode cX1_isDown 65 = .ok (.ireturn, 1) := by decide +kernel
theorem dX1_isByNewEvents_0 : decode cX1_isByNewEvents 0 = .ok (.iconst 0, 1) := by decide +kernel
theorem dX1_isByNewEvents_1 : decode cX1_isByNewEvents 1 = .ok (.istore_n 2, 1) := by decide +kernel
theorem dX1_isByNewEvents_2 : decode cX1_isByNewEvents 2 = .ok (.iload_n 1, 1) := by decide +kernel
theorem dX1_isByNewEvents_3 : decode cX1_isByNewEvents 3 = .ok (.iconst 3, 1) := by decide +kernel
theorem dX1_isByNewEvents_4 : decode cX1_isByNewEvents 4 = .ok (.imul, 1) := by decide +kernel
theorem dX1_isByNewEvents_5 : decode cX1_isByNewEvents 5 = .ok (.istore_n 3, 1) := by decide +kernel
theorem dX1_isByNewEvents_6 : decode cX1_isByNewEvents 6 = .ok (.iconst 0, 1) := by decide +kernel
theorem dX1_isByNewEvents_7 : decode cX1_isByNewEvents 7 = .ok (.istore 4, 2) := by decide +kernel
theorem dX1_isByNewEvents_9 : decode cX1_isByNewEvents 9 = .ok (.iload 4, 2) := by decide +kernel
theorem dX1_isByNewEvents_11 : decode cX1_isByNewEvents 11 = .ok (.bipush 25, 2) := by decide +kernel
theorem dX1_isByNewEvents_13 : decode cX1_isByNewEvents 13 = .ok (.if_icmp .ge 74, 3) := by decide +kernel
theorem dX1_isByNewEvents_16 : decode cX1_isByNewEvents 16 = .ok (.aload_n 0, 1) := by decide +kernel
theorem dX1_isByNewEvents_17 : decode cX1_isByNewEvents 17 = .ok (.getfield 28, 3) := by decide +kernel
theorem dX1_isByNewEvents_20 : decode cX1_isByNewEvents 20 = .ok (.iload_n 1, 1) := by decide +kernel
theorem dX1_isByNewEvents_21 : decode cX1_isByNewEvents 21 = .ok (.iaload, 1) := by decide +kernel
theorem dX1_isByNewEvents_22 : decode cX1_isByNewEvents 22 = .ok (.iload 4, 2) := by decide +kernel
theorem dX1_isByNewEvents_24 : decode cX1_isByNewEvents 24 = .ok (.invokestatic 77, 3) := by decide +kernel
theorem dX1_isByNewEvents_27 : decode cX1_isByNewEvents 27 = .ok (.ifCond .eq 54, 3) := by decide +kernel
theorem dX1_isByNewEvents_30 : decode cX1_isByNewEvents 30 = .ok (.iload_n 3, 1) := by decide +kernel
theorem dX1_isByNewEvents_31 : decode cX1_isByNewEvents 31 = .ok (.aload_n 0, 1) := by decide +kernel
theorem dX1_isByNewEvents_32 : decode cX1_isByNewEvents 32 = .ok (.getfield 34, 3) := by decide +kernel
theorem dX1_isByNewEvents_35 : decode cX1_isByNewEvents 35 = .ok (.arraylength, 1) := by decide +kernel
theorem dX1_isByNewEvents_36 : decode cX1_isByNewEvents 36 = .ok (.if_icmp .ge 45, 3) := by decide +kernel
theorem dX1_isByNewEvents_39 : decode cX1_isByNewEvents 39 = .ok (.iload_n 2, 1) := by decide +kernel
theorem dX1_isByNewEvents_40 : decode cX1_isByNewEvents 40 = .ok (.ifCond .ne 19, 3) := by decide +kernel
theorem dX1_isByNewEvents_43 : decode cX1_isByNewEvents 43 = .ok (.aload_n 0, 1) := by decide +kernel
theorem dX1_isByNewEvents_44 : decode cX1_isByNewEvents 44 = .ok (.getfield 34, 3) := by decide +kernel
theorem dX1_isByNewEvents_47 : decode cX1_isByNewEvents 47 = .ok (.iload_n 3, 1) := by decide +kernel
theorem dX1_isByNewEvents_48 : decode cX1_isByNewEvents 48 = .ok (.iaload, 1) := by decide +kernel
theorem dX1_isByNewEvents_49 : decode cX1_isByNewEvents 49 = .ok (.aload_n 0, 1) := by decide +kernel
theorem dX1_isByNewEvents_50 : decode cX1_isByNewEvents 50 = .ok (.getfield 18, 3) := by decide +kernel
theorem dX1_isByNewEvents_53 : decode cX1_isByNewEvents 53 = .ok (.iload 4, 2) := by decide +kernel
theorem dX1_isByNewEvents_55 : decode cX1_isByNewEvents 55 = .ok (.iaload, 1) := by decide +kernel
theorem dX1_isByNewEvents_56 : decode cX1_isByNewEvents 56 = .ok (.if_icmp .eq 7, 3) := by decide +kernel
theorem dX1_isByNewEvents_59 : decode cX1_isByNewEvents 59 = .ok (.iconst 1, 1) := by decide +kernel
theorem dX1_isByNewEvents_60 : decode cX1_isByNewEvents 60 = .ok (.goto 4, 3) := by decide +kernel
theorem dX1_isByNewEvents_63 : decode cX1_isByNewEvents 63 = .ok (.iconst 0, 1) := by decide +kernel
theorem dX1_isByNewEvents_64 : decode cX1_isByNewEvents 64 = .ok (.istore_n 2, 1) := by decide +kernel
theorem dX1_isByNewEvents_65 : decode cX1_isByNewEvents 65 = .ok (.aload_n 0, 1) := by decide +kernel
theorem dX1_isByNewEvents_66 : decode cX1_isByNewEvents 66 = .ok (.getfield 34, 3) := by decide +kernel
theorem dX1_isByNewEvents_69 : decode cX1_isByNewEvents 69 = .ok (.iload_n 3, 1) := by decide +kernel
theorem dX1_isByNewEvents_70 : decode cX1_isByNewEvents 70 = .ok (.aload_n 0, 1) := by decide +kernel
theorem dX1_isByNewEvents_71 : decode cX1_isByNewEvents 71 = .ok (.getfield 18, 3) := by decide +kernel
theorem dX1_isByNewEvents_74 : decode cX1_isByNewEvents 74 = .ok (.iload 4, 2) := by decide +kernel
theorem dX1_isByNewEvents_76 : decode cX1_isByNewEvents 76 = .ok (.iaload, 1) := by decide +kernel
theorem dX1_isByNewEvents_77 : decode cX1_isByNewEvents 77 = .ok (.iastore, 1) := by decide +kernel
theorem dX1_isByNewEvents_78 : decode cX1_isByNewEvents 78 = .ok (.iinc 3 1, 3) := by decide +kernel
theorem dX1_isByNewEvents_81 : decode cX1_isByNewEvents 81 = .ok (.iinc 4 1, 3) := by decide +kernel
theorem dX1_isByNewEvents_84 : decode cX1_isByNewEvents 84 = .ok (.goto (-75), 3) := by decide +kernel
theorem dX1_isByNewEvents_87 : decode cX1_isByNewEvents 87 = .ok (.iload_n 2, 1) := by decide +kernel
theorem dX1_isByNewEvents_88 : decode cX1_isByNewEvents 88 = .ok (.ireturn, 1) := by decide +kernel
