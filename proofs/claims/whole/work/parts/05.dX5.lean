theorem dX5_init_0 : decode cX5_init 0 = .ok (.aload_n 0, 1) := by decide +kernel
theorem dX5_init_1 : decode cX5_init 1 = .ok (.invokespecial 1, 3) := by decide +kernel
theorem dX5_init_4 : decode cX5_init 4 = .ok (.aload_n 0, 1) := by decide +kernel
theorem dX5_init_5 : decode cX5_init 5 = .ok (.bipush 58, 2) := by decide +kernel
theorem dX5_init_7 : decode cX5_init 7 = .ok (.newarray .int, 2) := by decide +kernel
theorem dX5_init_9 : decode cX5_init 9 = .ok (.putfield 9, 3) := by decide +kernel
theorem dX5_init_12 : decode cX5_init 12 = .ok (.aload_n 0, 1) := by decide +kernel
theorem dX5_init_13 : decode cX5_init 13 = .ok (.bipush 58, 2) := by decide +kernel
theorem dX5_init_15 : decode cX5_init 15 = .ok (.newarray .int, 2) := by decide +kernel
theorem dX5_init_17 : decode cX5_init 17 = .ok (.putfield 13, 3) := by decide +kernel
theorem dX5_init_20 : decode cX5_init 20 = .ok (.aload_n 0, 1) := by decide +kernel
theorem dX5_init_21 : decode cX5_init 21 = .ok (.bipush 58, 2) := by decide +kernel
theorem dX5_init_23 : decode cX5_init 23 = .ok (.newarray .int, 2) := by decide +kernel
theorem dX5_init_25 : decode cX5_init 25 = .ok (.putfield 16, 3) := by decide +kernel
theorem dX5_init_28 : decode cX5_init 28 = .ok (.aload_n 0, 1) := by decide +kernel
theorem dX5_init_29 : decode cX5_init 29 = .ok (.sipush 348, 3) := by decide +kernel
theorem dX5_init_32 : decode cX5_init 32 = .ok (.newarray .int, 2) := by decide +kernel
theorem dX5_init_34 : decode cX5_init 34 = .ok (.putfield 19, 3) := by decide +kernel
theorem dX5_init_37 : decode cX5_init 37 = .ok (.aload_n 0, 1) := by decide +kernel
theorem dX5_init_38 : decode cX5_init 38 = .ok (.bipush 30, 2) := by decide +kernel
theorem dX5_init_40 : decode cX5_init 40 = .ok (.newarray .int, 2) := by decide +kernel
theorem dX5_init_42 : decode cX5_init 42 = .ok (.putfield 22, 3) := by decide +kernel
theorem dX5_init_45 : decode cX5_init 45 = .ok (.aload_n 0, 1) := by decide +kernel
theorem dX5_init_46 : decode cX5_init 46 = .ok (.iconst (-1), 1) := by decide +kernel
theorem dX5_init_47 : decode cX5_init 47 = .ok (.putfield 25, 3) := by decide +kernel
theorem dX5_init_50 : decode cX5_init 50 = .ok (.aload_n 0, 1) := by decide +kernel
theorem dX5_init_51 : decode cX5_init 51 = .ok (.bipush 8, 2) := by decide +kernel
theorem dX5_init_53 : decode cX5_init 53 = .ok (.newarray .int, 2) := by decide +kernel
theorem dX5_init_55 : decode cX5_init 55 = .ok (.putfield 29, 3) := by decide +kernel
theorem dX5_init_58 : decode cX5_init 58 = .ok (.aload_n 0, 1) := by decide +kernel
theorem dX5_init_59 : decode cX5_init 59 = .ok (.bipush 6, 2) := by decide +kernel
theorem dX5_init_61 : decode cX5_init 61 = .ok (.newarray .int, 2) := by decide +kernel
theorem dX5_init_63 : decode cX5_init 63 = .ok (.putfield 32, 3) := by decide +kernel
theorem dX5_init_66 : decode cX5_init 66 = .ok (.aload_n 0, 1) := by decide +kernel
theorem dX5_init_67 : decode cX5_init 67 = .ok (.sipush 201, 3) := by decide +kernel
theorem dX5_init_70 : decode cX5_init 70 = .ok (.newarray .int, 2) := by decide +kernel
theorem dX5_init_72 : decode cX5_init 72 = .ok (.putfield 35, 3) := by decide +kernel
theorem dX5_init_75 : decode cX5_init 75 = .ok (.aload_n 0, 1) := by decide +kernel
theorem dX5_init_76 : decode cX5_init 76 = .ok (.sipush 1700, 3) := by decide +kernel
theorem dX5_init_79 : decode cX5_init 79 = .ok (.newarray .int, 2) := by decide +kernel
theorem dX5_init_81 : decode cX5_init 81 = .ok (.putfield 38, 3) := by decide +kernel
theorem dX5_init_84 : decode cX5_init 84 = .ok (.aload_n 0, 1) := by decide +kernel
theorem dX5_init_85 : decode cX5_init 85 = .ok (.sipush 1700, 3) := by decide +kernel
theorem dX5_init_88 : decode cX5_init 88 = .ok (.newarray .int, 2) := by decide +kernel
theorem dX5_init_90 : decode cX5_init 90 = .ok (.putfield 41, 3) := by decide +kernel
theorem dX5_init_93 : decode cX5_init 93 = .ok (.aload_n 0, 1) := by decide +kernel
theorem dX5_init_94 : decode cX5_init 94 = .ok (.sipush 1700, 3) := by decide +kernel
theorem dX5_init_97 : decode cX5_init 97 = .ok (.newarray .int, 2) := by decide +kernel
theorem dX5_init_99 : decode cX5_init 99 = .ok (.putfield 44, 3) := by decide +kernel
theorem dX5_init_102 : decode cX5_init 102 = .ok (.aload_n 0, 1) := by decide +kernel
theorem dX5_init_103 : decode cX5_init 103 = .ok (.sipush 1700, 3) := by decide +kernel
theorem dX5_init_106 : decode cX5_init 106 = .ok (.newarray .int, 2) := by decide +kernel
theorem dX5_init_108 : decode cX5_init 108 = .ok (.putfield 47, 3) := by decide +kernel
theorem dX5_init_111 : decode cX5_init 111 = .ok (.aload_n 0, 1) := by decide +kernel
theorem dX5_init_112 : decode cX5_init 112 = .ok (.getfield 9, 3) := by decide +kernel
theorem dX5_init_115 : decode cX5_init 115 = .ok (.iconst 1, 1) := by decide +kernel
theorem dX5_init_116 : decode cX5_init 116 = .ok (.bipush 8, 2) := by decide +kernel
theorem dX5_init_118 : decode cX5_init 118 = .ok (.iastore, 1) := by decide +kernel
theorem dX5_init_119 : decode cX5_init 119 = .ok (.return_, 1) := by decide +kernel
theorem dX5_thrown_0 : decode cX5_thrown 0 = .ok (.aload_n 0, 1) := by decide +kernel
theorem dX5_thrown_1 : decode cX5_thrown 1 = .ok (.getfield 50, 3) := by decide +kernel
theorem dX5_thrown_4 : decode cX5_thrown 4 = .ok (.ireturn, 1) := by decide +kernel
theorem dX5_fails_0 : decode cX5_fails 0 = .ok (.aload_n 0, 1) := by decide +kernel
theorem dX5_fails_1 : decode cX5_fails 1 = .ok (.iload_n 1, 1) := by decide +kernel
theorem dX5_fails_2 : decode cX5_fails 2 = .ok (.putfield 50, 3) := by decide +kernel
theorem dX5_fails_5 : decode cX5_fails 5 = .ok (.iconst 0, 1) := by decide +kernel
theorem dX5_fails_6 : decode cX5_fails 6 = .ok (.ireturn, 1) := by decide +kernel
theorem dX5_in_0 : decode cX5_in 0 = .ok (.iload_n 0, 1) := by decide +kernel
theorem dX5_in_1 : decode cX5_in 1 = .ok (.iload_n 1, 1) := by decide +kernel
theorem dX5_in_2 : decode cX5_in 2 = .ok (.if_icmp .lt 12, 3) := by decide +kernel
theorem dX5_in_5 : decode cX5_in 5 = .ok (.iload_n 0, 1) := by decide +kernel
theorem dX5_in_6 : decode cX5_in 6 = .ok (.iload_n 2, 1) := by decide +kernel
theorem dX5_in_7 : decode cX5_in 7 = .ok (.if_icmp .gt 7, 3) := by decide +kernel
theorem dX5_in_10 : decode cX5_in 10 = .ok (.iconst 1, 1) := by decide +kernel
theorem dX5_in_11 : decode cX5_in 11 = .ok (.goto 4, 3) := by decide +kernel
theorem dX5_in_14 : decode cX5_in 14 = .ok (.iconst 0, 1) := by decide +kernel
theorem dX5_in_15 : decode cX5_in 15 = .ok (.ireturn, 1) := by decide +kernel
set_option maxRecDepth 20000 in
theorem ggX5_isTask_X5_in : GoodIn wsX5_isTask wsX5_in := goodIn_r _ [5] (by decide +kernel) (by decide +kernel)
set_option maxRecDepth 20000 in
theorem gX5_isTask_X5_in : GoodIn wsX5_isTask (va_wsS RX5 53 yX5_in wsX5_in) := goodIn_app (goodIn_of _ (by decide +kernel)) ggX5_isTask_X5_in
theorem dX5_isTask_0 : decode cX5_isTask 0 = .ok (.iload_n 1, 1) := by decide +kernel
theorem dX5_isTask_1 : decode cX5_isTask 1 = .ok (.iconst 0, 1) := by decide +kernel
theorem dX5_isTask_2 : decode cX5_isTask 2 = .ok (.aload_n 0, 1) := by decide +kernel
theorem dX5_isTask_3 : decode cX5_isTask 3 = .ok (.getfield 9, 3) := by decide +kernel
theorem dX5_isTask_6 : decode cX5_isTask 6 = .ok (.iconst 0, 1) := by decide +kernel
theorem dX5_isTask_7 : decode cX5_isTask 7 = .ok (.iaload, 1) := by decide +kernel
theorem dX5_isTask_8 : decode cX5_isTask 8 = .ok (.iconst 1, 1) := by decide +kernel
theorem dX5_isTask_9 : decode cX5_isTask 9 = .ok (.isub, 1) := by decide +kernel
theorem dX5_isTask_10 : decode cX5_isTask 10 = .ok (.invokestatic 53, 3) := by decide +kernel
theorem dX5_isTask_13 : decode cX5_isTask 13 = .ok (.ireturn, 1) := by decide +kernel
theorem dX5_keeps_0 : decode cX5_keeps 0 = .ok (.iconst 0, 1) := by decide +kernel
theorem dX5_keeps_1 : decode cX5_keeps 1 = .ok (.istore_n 1, 1) := by decide +kernel
theorem dX5_keeps_2 : decode cX5_keeps 2 = .ok (.iload_n 1, 1) := by decide +kernel
theorem dX5_keeps_3 : decode cX5_keeps 3 = .ok (.bipush 58, 2) := by decide +kernel
theorem dX5_keeps_5 : decode cX5_keeps 5 = .ok (.if_icmp .ge 21, 3) := by decide +kernel
theorem dX5_keeps_8 : decode cX5_keeps 8 = .ok (.aload_n 0, 1) := by decide +kernel
theorem dX5_keeps_9 : decode cX5_keeps 9 = .ok (.getfield 13, 3) := by decide +kernel
theorem dX5_keeps_12 : decode cX5_keeps 12 = .ok (.iload_n 1, 1) := by decide +kernel
theorem dX5_keeps_13 : decode cX5_keeps 13 = .ok (.aload_n 0, 1) := by decide +kernel
theorem dX5_keeps_14 : decode cX5_keeps 14 = .ok (.getfield 9, 3) := by decide +kernel
theorem dX5_keeps_17 : decode cX5_keeps 17 = .ok (.iload_n 1, 1) := by decide +kernel
theorem dX5_keeps_18 : decode cX5_keeps 18 = .ok (.iaload, 1) := by decide +kernel
theorem dX5_keeps_19 : decode cX5_keeps 19 = .ok (.iastore, 1) := by decide +kernel
theorem dX5_keeps_20 : decode cX5_keeps 20 = .ok (.iinc 1 1, 3) := by decide +kernel
theorem dX5_keeps_23 : decode cX5_keeps 23 = .ok (.goto (-21), 3) := by decide +kernel
theorem dX5_keeps_26 : decode cX5_keeps 26 = .ok (.return_, 1) := by decide +kernel
theorem dX5_goesBack_0 : decode cX5_goesBack 0 = .ok (.iconst 0, 1) := by decide +kernel
theorem dX5_goesBack_1 : decode cX5_goesBack 1 = .ok (.istore_n 1, 1) := by decide +kernel
theorem dX5_goesBack_2 : decode cX5_goesBack 2 = .ok (.iload_n 1, 1) := by decide +kernel
theorem dX5_goesBack_3 : decode cX5_goesBack 3 = .ok (.bipush 58, 2) := by decide +kernel
theorem dX5_goesBack_5 : decode cX5_goesBack 5 = .ok (.if_icmp .ge 21, 3) := by decide +kernel
theorem dX5_goesBack_8 : decode cX5_goesBack 8 = .ok (.aload_n 0, 1) := by decide +kernel
theorem dX5_goesBack_9 : decode cX5_goesBack 9 = .ok (.getfield 9, 3) := by decide +kernel
theorem dX5_goesBack_12 : decode cX5_goesBack 12 = .ok (.iload_n 1, 1) := by decide +kernel
theorem dX5_goesBack_13 : decode cX5_goesBack 13 = .ok (.aload_n 0, 1) := by decide +kernel
theorem dX5_goesBack_14 : decode cX5_goesBack 14 = .ok (.getfield 13, 3) := by decide +kernel
theorem dX5_goesBack_17 : decode cX5_goesBack 17 = .ok (.iload_n 1, 1) := by decide +kernel
theorem dX5_goesBack_18 : decode cX5_goesBack 18 = .ok (.iaload, 1) := by decide +kernel
theorem dX5_goesBack_19 : decode cX5_goesBack 19 = .ok (.iastore, 1) := by decide +kernel
theorem dX5_goesBack_20 : decode cX5_goesBack 20 = .ok (.iinc 1 1, 3) := by decide +kernel
theorem dX5_goesBack_23 : decode cX5_goesBack 23 = .ok (.goto (-21), 3) := by decide +kernel
theorem dX5_goesBack_26 : decode cX5_goesBack 26 = .ok (.return_, 1) := by decide +kernel
theorem dX5_records_0 : decode cX5_records 0 = .ok (.aload_n 0, 1) := by decide +kernel
theorem dX5_records_1 : decode cX5_records 1 = .ok (.getfield 57, 3) := by decide +kernel
theorem dX5_records_4 : decode cX5_records 4 = .ok (.bipush 6, 2) := by decide +kernel
theorem dX5_records_6 : decode cX5_records 6 = .ok (.if_icmp .ne 43, 3) := by decide +kernel
theorem dX5_records_9 : decode cX5_records 9 = .ok (.iconst 0, 1) := by decide +kernel
theorem dX5_records_10 : decode cX5_records 10 = .ok (.istore_n 1, 1) := by decide +kernel
theorem dX5_records_11 : decode cX5_records 11 = .ok (.iload_n 1, 1) := by decide +kernel
theorem dX5_records_12 : decode cX5_records 12 = .ok (.sipush 290, 3) := by decide +kernel
theorem dX5_records_15 : decode cX5_records 15 = .ok (.if_icmp .ge 24, 3) := by decide +kernel
theorem dX5_records_18 : decode cX5_records 18 = .ok (.aload_n 0, 1) := by decide +kernel
theorem dX5_records_19 : decode cX5_records 19 = .ok (.getfield 19, 3) := by decide +kernel
theorem dX5_records_22 : decode cX5_records 22 = .ok (.iload_n 1, 1) := by decide +kernel
theorem dX5_records_23 : decode cX5_records 23 = .ok (.aload_n 0, 1) := by decide +kernel
theorem dX5_records_24 : decode cX5_records 24 = .ok (.getfield 19, 3) := by decide +kernel
theorem dX5_records_27 : decode cX5_records 27 = .ok (.iload_n 1, 1) := by decide +kernel
theorem dX5_records_28 : decode cX5_records 28 = .ok (.bipush 58, 2) := by decide +kernel
theorem dX5_records_30 : decode cX5_records 30 = .ok (.iadd, 1) := by decide +kernel
theorem dX5_records_31 : decode cX5_records 31 = .ok (.iaload, 1) := by decide +kernel
theorem dX5_records_32 : decode cX5_records 32 = .ok (.iastore, 1) := by decide +kernel
theorem dX5_records_33 : decode cX5_records 33 = .ok (.iinc 1 1, 3) := by decide +kernel
theorem dX5_records_36 : decode cX5_records 36 = .ok (.goto (-25), 3) := by decide +kernel
theorem dX5_records_39 : decode cX5_records 39 = .ok (.aload_n 0, 1) := by decide +kernel
theorem dX5_records_40 : decode cX5_records 40 = .ok (.dup, 1) := by decide +kernel
theorem dX5_records_41 : decode cX5_records 41 = .ok (.getfield 57, 3) := by decide +kernel
theorem dX5_records_44 : decode cX5_records 44 = .ok (.iconst 1, 1) := by decide +kernel
theorem dX5_records_45 : decode cX5_records 45 = .ok (.isub, 1) := by decide +kernel
theorem dX5_records_46 : decode cX5_records 46 = .ok (.putfield 57, 3) := by decide +kernel
theorem dX5_records_49 : decode cX5_records 49 = .ok (.iconst 0, 1) := by decide +kernel
theorem dX5_records_50 : decode cX5_records 50 = .ok (.istore_n 1, 1) := by decide +kernel
theorem dX5_records_51 : decode cX5_records 51 = .ok (.iload_n 1, 1) := by decide +kernel
theorem dX5_records_52 : decode cX5_records 52 = .ok (.bipush 58, 2) := by decide +kernel
theorem dX5_records_54 : decode cX5_records 54 = .ok (.if_icmp .ge 29, 3) := by decide +kernel
theorem dX5_records_57 : decode cX5_records 57 = .ok (.aload_n 0, 1) := by decide +kernel
theorem dX5_records_58 : decode cX5_records 58 = .ok (.getfield 19, 3) := by decide +kernel
theorem dX5_records_61 : decode cX5_records 61 = .ok (.bipush 58, 2) := by decide +kernel
theorem dX5_records_63 : decode cX5_records 63 = .ok (.aload_n 0, 1) := by decide +kernel
theorem dX5_records_64 : decode cX5_records 64 = .ok (.getfield 57, 3) := by decide +kernel
theorem dX5_records_67 : decode cX5_records 67 = .ok (.imul, 1) := by decide +kernel
theorem dX5_records_68 : decode cX5_records 68 = .ok (.iload_n 1, 1) := by decide +kernel
theorem dX5_records_69 : decode cX5_records 69 = .ok (.iadd, 1) := by decide +kernel
theorem dX5_records_70 : decode cX5_records 70 = .ok (.aload_n 0, 1) := by decide +kernel
theorem dX5_records_71 : decode cX5_records 71 = .ok (.getfield 13, 3) := by decide +kernel
theorem dX5_records_74 : decode cX5_records 74 = .ok (.iload_n 1, 1) := by decide +kernel
theorem dX5_records_75 : decode cX5_records 75 = .ok (.iaload, 1) := by decide +kernel
theorem dX5_records_76 : decode cX5_records 76 = .ok (.iastore, 1) := by decide +kernel
theorem dX5_records_77 : decode cX5_records 77 = .ok (.iinc 1 1, 3) := by decide +kernel
theorem dX5_records_80 : decode cX5_records 80 = .ok (.goto (-29), 3) := by decide +kernel
theorem dX5_records_83 : decode cX5_records 83 = .ok (.aload_n 0, 1) := by decide +kernel
theorem dX5_records_84 : decode cX5_records 84 = .ok (.dup, 1) := by decide +kernel
theorem dX5_records_85 : decode cX5_records 85 = .ok (.getfield 57, 3) := by decide +kernel
theorem dX5_records_88 : decode cX5_records 88 = .ok (.iconst 1, 1) := by decide +kernel
theorem dX5_records_89 : decode cX5_records 89 = .ok (.iadd, 1) := by decide +kernel
theorem dX5_records_90 : decode cX5_records 90 = .ok (.putfield 57, 3) := by decide +kernel
theorem dX5_records_93 : decode cX5_records 93 = .ok (.aload_n 0, 1) := by decide +kernel
theorem dX5_records_94 : decode cX5_records 94 = .ok (.iconst 0, 1) := by decide +kernel
theorem dX5_records_95 : decode cX5_records 95 = .ok (.putfield 60, 3) := by decide +kernel
theorem dX5_records_98 : decode cX5_records 98 = .ok (.return_, 1) := by decide +kernel
theorem dX5_isHighTask_0 : decode cX5_isHighTask 0 = .ok (.aload_n 0, 1) := by decide +kernel
theorem dX5_isHighTask_1 : decode cX5_isHighTask 1 = .ok (.getfield 9, 3) := by decide +kernel
theorem dX5_isHighTask_4 : decode cX5_isHighTask 4 = .ok (.bipush 26, 2) := by decide +kernel
theorem dX5_isHighTask_6 : decode cX5_isHighTask 6 = .ok (.iload_n 1, 1) := by decide +kernel
theorem dX5_isHighTask_7 : decode cX5_isHighTask 7 = .ok (.iadd, 1) := by decide +kernel
theorem dX5_isHighTask_8 : decode cX5_isHighTask 8 = .ok (.iaload, 1) := by decide +kernel
theorem dX5_isHighTask_9 : decode cX5_isHighTask 9 = .ok (.ifCond .le 7, 3) := by decide +kernel
theorem dX5_isHighTask_12 : decode cX5_isHighTask 12 = .ok (.iconst 1, 1) := by decide +kernel
theorem dX5_isHighTask_13 : decode cX5_isHighTask 13 = .ok (.goto 4, 3) := by decide +kernel
theorem dX5_isHighTask_16 : decode cX5_isHighTask 16 = .ok (.iconst 0, 1) := by decide +kernel
theorem dX5_isHighTask_17 : decode cX5_isHighTask 17 = .ok (.ireturn, 1) := by decide +kernel
theorem dX5_periodOf_0 : decode cX5_periodOf 0 = .ok (.aload_n 0, 1) := by decide +kernel
theorem dX5_periodOf_1 : decode cX5_periodOf 1 = .ok (.getfield 9, 3) := by decide +kernel
theorem dX5_periodOf_4 : decode cX5_periodOf 4 = .ok (.iconst 2, 1) := by decide +kernel
theorem dX5_periodOf_5 : decode cX5_periodOf 5 = .ok (.iload_n 1, 1) := by decide +kernel
theorem dX5_periodOf_6 : decode cX5_periodOf 6 = .ok (.iadd, 1) := by decide +kernel
theorem dX5_periodOf_7 : decode cX5_periodOf 7 = .ok (.iaload, 1) := by decide +kernel
theorem dX5_periodOf_8 : decode cX5_periodOf 8 = .ok (.aload_n 0, 1) := by decide +kernel
theorem dX5_periodOf_9 : decode cX5_periodOf 9 = .ok (.getfield 9, 3) := by decide +kernel
theorem dX5_periodOf_12 : decode cX5_periodOf 12 = .ok (.bipush 50, 2) := by decide +kernel
theorem dX5_periodOf_14 : decode cX5_periodOf 14 = .ok (.iload_n 1, 1) := by decide +kernel
theorem dX5_periodOf_15 : decode cX5_periodOf 15 = .ok (.iadd, 1) := by decide +kernel
theorem dX5_periodOf_16 : decode cX5_periodOf 16 = .ok (.iaload, 1) := by decide +kernel
theorem dX5_periodOf_17 : decode cX5_periodOf 17 = .ok (.iconst 1, 1) := by decide +kernel
theorem dX5_periodOf_18 : decode cX5_periodOf 18 = .ok (.iadd, 1) := by decide +kernel
theorem dX5_periodOf_19 : decode cX5_periodOf 19 = .ok (.imul, 1) := by decide +kernel
theorem dX5_periodOf_20 : decode cX5_periodOf 20 = .ok (.ireturn, 1) := by decide +kernel
set_option maxRecDepth 20000 in
theorem ggX5_virtualOf_X5_isHighTask : GoodIn wsX5_virtualOf wsX5_isHighTask := goodIn_r _ [6, 1, 7, 8, 9, 10, 11, 12, 13, 14, 15, 16, 17, 18, 19, 20, 21, 22, 23, 24, 25, 26, 27, 28, 29, 30, 31, 32, 33, 34, 35, 36, 37, 38] (by decide +kernel) (by decide +kernel)
set_option maxRecDepth 20000 in
theorem gX5_virtualOf_X5_isHighTask : GoodIn wsX5_virtualOf (wsV RX5 64 RX5 yX5_isHighTask wsX5_isHighTask) := goodIn_app (goodIn_of _ (by decide +kernel)) ggX5_virtualOf_X5_isHighTask
theorem dX5_virtualOf_0 : decode cX5_virtualOf 0 = .ok (.aload_n 0, 1) := by decide +kernel
theorem dX5_virtualOf_1 : decode cX5_virtualOf 1 = .ok (.iload_n 1, 1) := by decide +kernel
theorem dX5_virtualOf_2 : decode cX5_virtualOf 2 = .ok (.invokevirtual 64, 3) := by decide +kernel
theorem dX5_virtualOf_5 : decode cX5_virtualOf 5 = .ok (.ifCond .ne 13, 3) := by decide +kernel
theorem dX5_virtualOf_8 : decode cX5_virtualOf 8 = .ok (.aload_n 0, 1) := by decide +kernel
theorem dX5_virtualOf_9 : decode cX5_virtualOf 9 = .ok (.getfield 9, 3) := by decide +kernel
theorem dX5_virtualOf_12 : decode cX5_virtualOf 12 = .ok (.bipush 10, 2) := by decide +kernel
theorem dX5_virtualOf_14 : decode cX5_virtualOf 14 = .ok (.iload_n 1, 1) := by decide +kernel
theorem dX5_virtualOf_15 : decode cX5_virtualOf 15 = .ok (.iadd, 1) := by decide +kernel
theorem dX5_virtualOf_16 : decode cX5_virtualOf 16 = .ok (.iaload, 1) := by decide +kernel
theorem dX5_virtualOf_17 : decode cX5_virtualOf 17 = .ok (.ireturn, 1) := by decide +kernel
theorem dX5_virtualOf_18 : decode cX5_virtualOf 18 = .ok (.aload_n 0, 1) := by decide +kernel
theorem dX5_virtualOf_19 : decode cX5_virtualOf 19 = .ok (.getfield 9, 3) := by decide +kernel
theorem dX5_virtualOf_22 : decode cX5_virtualOf 22 = .ok (.bipush 10, 2) := by decide +kernel
theorem dX5_virtualOf_24 : decode cX5_virtualOf 24 = .ok (.iload_n 1, 1) := by decide +kernel
theorem dX5_virtualOf_25 : decode cX5_virtualOf 25 = .ok (.iadd, 1) := by decide +kernel
theorem dX5_virtualOf_26 : decode cX5_virtualOf 26 = .ok (.iaload, 1) := by decide +kernel
theorem dX5_virtualOf_27 : decode cX5_virtualOf 27 = .ok (.aload_n 0, 1) := by decide +kernel
theorem dX5_virtualOf_28 : decode cX5_virtualOf 28 = .ok (.getfield 9, 3) := by decide +kernel
theorem dX5_virtualOf_31 : decode cX5_virtualOf 31 = .ok (.iconst 1, 1) := by decide +kernel
theorem dX5_virtualOf_32 : decode cX5_virtualOf 32 = .ok (.iaload, 1) := by decide +kernel
theorem dX5_virtualOf_33 : decode cX5_virtualOf 33 = .ok (.imul, 1) := by decide +kernel
theorem dX5_virtualOf_34 : decode cX5_virtualOf 34 = .ok (.bipush 8, 2) := by decide +kernel
theorem dX5_virtualOf_36 : decode cX5_virtualOf 36 = .ok (.idiv, 1) := by decide +kernel
theorem dX5_virtualOf_37 : decode cX5_virtualOf 37 = .ok (.istore_n 2, 1) := by decide +kernel
theorem dX5_virtualOf_38 : decode cX5_virtualOf 38 = .ok (.iload_n 2, 1) := by decide +kernel
theorem dX5_virtualOf_39 : decode cX5_virtualOf 39 = .ok (.aload_n 0, 1) := by decide +kernel
theorem dX5_virtualOf_40 : decode cX5_virtualOf 40 = .ok (.getfield 9, 3) := by decide +kernel
theorem dX5_virtualOf_43 : decode cX5_virtualOf 43 = .ok (.bipush 18, 2) := by decide +kernel
theorem dX5_virtualOf_45 : decode cX5_virtualOf 45 = .ok (.iload_n 1, 1) := by decide +kernel
theorem dX5_virtualOf_46 : decode cX5_virtualOf 46 = .ok (.iadd, 1) := by decide +kernel
theorem dX5_virtualOf_47 : decode cX5_virtualOf 47 = .ok (.iaload, 1) := by decide +kernel
theorem dX5_virtualOf_48 : decode cX5_virtualOf 48 = .ok (.if_icmp .ge 15, 3) := by decide +kernel
theorem dX5_virtualOf_51 : decode cX5_virtualOf 51 = .ok (.aload_n 0, 1) := by decide +kernel
theorem dX5_virtualOf_52 : decode cX5_virtualOf 52 = .ok (.getfield 9, 3) := by decide +kernel
theorem dX5_virtualOf_55 : decode cX5_virtualOf 55 = .ok (.bipush 18, 2) := by decide +kernel
theorem dX5_virtualOf_57 : decode cX5_virtualOf 57 = .ok (.iload_n 1, 1) := by decide +kernel
theorem dX5_virtualOf_58 : decode cX5_virtualOf 58 = .ok (.iadd, 1) := by decide +kernel
theorem dX5_virtualOf_59 : decode cX5_virtualOf 59 = .ok (.iaload, 1) := by decide +kernel
theorem dX5_virtualOf_60 : decode cX5_virtualOf 60 = .ok (.goto 4, 3) := by decide +kernel
theorem dX5_virtualOf_63 : decode cX5_virtualOf 63 = .ok (.iload_n 2, 1) := by decide +kernel
theorem dX5_virtualOf_64 : decode cX5_virtualOf 64 = .ok (.ireturn, 1) := by decide +kernel
set_option maxRecDepth 20000 in
theorem ggX5_highDemand_X5_virtualOf : GoodIn wsX5_highDemand wsX5_virtualOf := goodIn_r _ [6, 1, 7, 8, 9, 5, 10, 18, 19, 20, 21, 22, 23, 24, 25, 26, 27, 28, 29, 30, 31, 32, 33, 34, 35, 36, 37, 38, 39, 40, 41, 42, 43, 44, 45, 46, 47, 48, 49] (by decide +kernel) (by decide +kernel)
set_option maxRecDepth 20000 in
theorem gX5_highDemand_X5_virtualOf : GoodIn wsX5_highDemand (wsV RX5 68 RX5 yX5_virtualOf wsX5_virtualOf) := goodIn_app (goodIn_of _ (by decide +kernel)) ggX5_highDemand_X5_virtualOf
set_option maxRecDepth 20000 in
theorem ggX5_highDemand_X5_isHighTask : GoodIn wsX5_highDemand wsX5_isHighTask := goodIn_r _ [10, 1, 18, 19, 20, 21, 22, 23, 24, 25, 26, 27, 28, 29, 30, 31, 32, 33, 34, 35, 36, 37, 38, 39, 40, 41, 42, 43, 44, 45, 46, 47, 48, 49] (by decide +kernel) (by decide +kernel)
set_option maxRecDepth 20000 in
theorem gX5_highDemand_X5_isHighTask : GoodIn wsX5_highDemand (wsV RX5 64 RX5 yX5_isHighTask wsX5_isHighTask) := goodIn_app (goodIn_of _ (by decide +kernel)) ggX5_highDemand_X5_isHighTask
set_option maxRecDepth 20000 in
theorem ggX5_highDemand_X5_periodOf : GoodIn wsX5_highDemand wsX5_periodOf := goodIn_r _ [14, 1, 18, 19, 20, 21, 22, 23, 24, 25, 26, 27, 28, 29, 30, 31, 32, 33, 34, 35, 36, 37, 38, 39, 40, 41, 42, 43, 44, 45, 46, 47, 48, 49] (by decide +kernel) (by decide +kernel)
set_option maxRecDepth 20000 in
theorem gX5_highDemand_X5_periodOf : GoodIn wsX5_highDemand (wsV RX5 72 RX5 yX5_periodOf wsX5_periodOf) := goodIn_app (goodIn_of _ (by decide +kernel)) ggX5_highDemand_X5_periodOf
set_option maxRecDepth 20000 in
theorem ggX5_highDemand_X5_in : GoodIn wsX5_highDemand wsX5_in := goodIn_r _ [17] (by decide +kernel) (by decide +kernel)
set_option maxRecDepth 20000 in
theorem gX5_highDemand_X5_in : GoodIn wsX5_highDemand (va_wsS RX5 53 yX5_in wsX5_in) := goodIn_app (goodIn_of _ (by decide +kernel)) ggX5_highDemand_X5_in
theorem dX5_highDemand_0 : decode cX5_highDemand 0 = .ok (.aload_n 0, 1) := by decide +kernel
theorem dX5_highDemand_1 : decode cX5_highDemand 1 = .ok (.getfield 9, 3) := by decide +kernel
theorem dX5_highDemand_4 : decode cX5_highDemand 4 = .ok (.bipush 10, 2) := by decide +kernel
theorem dX5_highDemand_6 : decode cX5_highDemand 6 = .ok (.iload_n 1, 1) := by decide +kernel
theorem dX5_highDemand_7 : decode cX5_highDemand 7 = .ok (.iadd, 1) := by decide +kernel
theorem dX5_highDemand_8 : decode cX5_highDemand 8 = .ok (.iaload, 1) := by decide +kernel
theorem dX5_highDemand_9 : decode cX5_highDemand 9 = .ok (.aload_n 0, 1) := by decide +kernel
theorem dX5_highDemand_10 : decode cX5_highDemand 10 = .ok (.iload_n 1, 1) := by decide +kernel
theorem dX5_highDemand_11 : decode cX5_highDemand 11 = .ok (.invokevirtual 68, 3) := by decide +kernel
theorem dX5_highDemand_14 : decode cX5_highDemand 14 = .ok (.isub, 1) := by decide +kernel
theorem dX5_highDemand_15 : decode cX5_highDemand 15 = .ok (.istore_n 3, 1) := by decide +kernel
theorem dX5_highDemand_16 : decode cX5_highDemand 16 = .ok (.aload_n 0, 1) := by decide +kernel
theorem dX5_highDemand_17 : decode cX5_highDemand 17 = .ok (.iload_n 1, 1) := by decide +kernel
theorem dX5_highDemand_18 : decode cX5_highDemand 18 = .ok (.invokevirtual 64, 3) := by decide +kernel
theorem dX5_highDemand_21 : decode cX5_highDemand 21 = .ok (.ifCond .eq 8, 3) := by decide +kernel
theorem dX5_highDemand_24 : decode cX5_highDemand 24 = .ok (.iload_n 2, 1) := by decide +kernel
theorem dX5_highDemand_25 : decode cX5_highDemand 25 = .ok (.iload_n 3, 1) := by decide +kernel
theorem dX5_highDemand_26 : decode cX5_highDemand 26 = .ok (.if_icmp .ge 5, 3) := by decide +kernel
theorem dX5_highDemand_29 : decode cX5_highDemand 29 = .ok (.iconst 0, 1) := by decide +kernel
theorem dX5_highDemand_30 : decode cX5_highDemand 30 = .ok (.ireturn, 1) := by decide +kernel
theorem dX5_highDemand_31 : decode cX5_highDemand 31 = .ok (.iload_n 2, 1) := by decide +kernel
theorem dX5_highDemand_32 : decode cX5_highDemand 32 = .ok (.aload_n 0, 1) := by decide +kernel
theorem dX5_highDemand_33 : decode cX5_highDemand 33 = .ok (.iload_n 1, 1) := by decide +kernel
theorem dX5_highDemand_34 : decode cX5_highDemand 34 = .ok (.invokevirtual 72, 3) := by decide +kernel
theorem dX5_highDemand_37 : decode cX5_highDemand 37 = .ok (.irem, 1) := by decide +kernel
theorem dX5_highDemand_38 : decode cX5_highDemand 38 = .ok (.istore 4, 2) := by decide +kernel
theorem dX5_highDemand_40 : decode cX5_highDemand 40 = .ok (.aload_n 0, 1) := by decide +kernel
theorem dX5_highDemand_41 : decode cX5_highDemand 41 = .ok (.getfield 9, 3) := by decide +kernel
theorem dX5_highDemand_44 : decode cX5_highDemand 44 = .ok (.bipush 18, 2) := by decide +kernel
theorem dX5_highDemand_46 : decode cX5_highDemand 46 = .ok (.iload_n 1, 1) := by decide +kernel
theorem dX5_highDemand_47 : decode cX5_highDemand 47 = .ok (.iadd, 1) := by decide +kernel
theorem dX5_highDemand_48 : decode cX5_highDemand 48 = .ok (.iaload, 1) := by decide +kernel
theorem dX5_highDemand_49 : decode cX5_highDemand 49 = .ok (.iload_n 3, 1) := by decide +kernel
theorem dX5_highDemand_50 : decode cX5_highDemand 50 = .ok (.iadd, 1) := by decide +kernel
theorem dX5_highDemand_51 : decode cX5_highDemand 51 = .ok (.iload 4, 2) := by decide +kernel
theorem dX5_highDemand_53 : decode cX5_highDemand 53 = .ok (.isub, 1) := by decide +kernel
theorem dX5_highDemand_54 : decode cX5_highDemand 54 = .ok (.istore 5, 2) := by decide +kernel
theorem dX5_highDemand_56 : decode cX5_highDemand 56 = .ok (.aload_n 0, 1) := by decide +kernel
theorem dX5_highDemand_57 : decode cX5_highDemand 57 = .ok (.getfield 9, 3) := by decide +kernel
theorem dX5_highDemand_60 : decode cX5_highDemand 60 = .ok (.bipush 26, 2) := by decide +kernel
theorem dX5_highDemand_62 : decode cX5_highDemand 62 = .ok (.iload_n 1, 1) := by decide +kernel
theorem dX5_highDemand_63 : decode cX5_highDemand 63 = .ok (.iadd, 1) := by decide +kernel
theorem dX5_highDemand_64 : decode cX5_highDemand 64 = .ok (.iaload, 1) := by decide +kernel
theorem dX5_highDemand_65 : decode cX5_highDemand 65 = .ok (.iconst 1, 1) := by decide +kernel
theorem dX5_highDemand_66 : decode cX5_highDemand 66 = .ok (.iload_n 2, 1) := by decide +kernel
theorem dX5_highDemand_67 : decode cX5_highDemand 67 = .ok (.iload_n 3, 1) := by decide +kernel
theorem dX5_highDemand_68 : decode cX5_highDemand 68 = .ok (.isub, 1) := by decide +kernel
theorem dX5_highDemand_69 : decode cX5_highDemand 69 = .ok (.aload_n 0, 1) := by decide +kernel
theorem dX5_highDemand_70 : decode cX5_highDemand 70 = .ok (.iload_n 1, 1) := by decide +kernel
theorem dX5_highDemand_71 : decode cX5_highDemand 71 = .ok (.invokevirtual 72, 3) := by decide +kernel
theorem dX5_highDemand_74 : decode cX5_highDemand 74 = .ok (.idiv, 1) := by decide +kernel
theorem dX5_highDemand_75 : decode cX5_highDemand 75 = .ok (.iadd, 1) := by decide +kernel
theorem dX5_highDemand_76 : decode cX5_highDemand 76 = .ok (.imul, 1) := by decide +kernel
theorem dX5_highDemand_77 : decode cX5_highDemand 77 = .ok (.istore 6, 2) := by decide +kernel
theorem dX5_highDemand_79 : decode cX5_highDemand 79 = .ok (.iload 4, 2) := by decide +kernel
theorem dX5_highDemand_81 : decode cX5_highDemand 81 = .ok (.iload_n 3, 1) := by decide +kernel
theorem dX5_highDemand_82 : decode cX5_highDemand 82 = .ok (.aload_n 0, 1) := by decide +kernel
theorem dX5_highDemand_83 : decode cX5_highDemand 83 = .ok (.getfield 9, 3) := by decide +kernel
theorem dX5_highDemand_86 : decode cX5_highDemand 86 = .ok (.bipush 10, 2) := by decide +kernel
theorem dX5_highDemand_88 : decode cX5_highDemand 88 = .ok (.iload_n 1, 1) := by decide +kernel
theorem dX5_highDemand_89 : decode cX5_highDemand 89 = .ok (.iadd, 1) := by decide +kernel
theorem dX5_highDemand_90 : decode cX5_highDemand 90 = .ok (.iaload, 1) := by decide +kernel
theorem dX5_highDemand_91 : decode cX5_highDemand 91 = .ok (.iconst 1, 1) := by decide +kernel
theorem dX5_highDemand_92 : decode cX5_highDemand 92 = .ok (.isub, 1) := by decide +kernel
theorem dX5_highDemand_93 : decode cX5_highDemand 93 = .ok (.invokestatic 53, 3) := by decide +kernel
theorem dX5_highDemand_96 : decode cX5_highDemand 96 = .ok (.ifCond .eq 16, 3) := by decide +kernel
theorem dX5_highDemand_99 : decode cX5_highDemand 99 = .ok (.iload 5, 2) := by decide +kernel
theorem dX5_highDemand_101 : decode cX5_highDemand 101 = .ok (.ifCond .le 11, 3) := by decide +kernel
theorem dX5_highDemand_104 : decode cX5_highDemand 104 = .ok (.iload 6, 2) := by decide +kernel
theorem dX5_highDemand_106 : decode cX5_highDemand 106 = .ok (.iload 5, 2) := by decide +kernel
theorem dX5_highDemand_108 : decode cX5_highDemand 108 = .ok (.isub, 1) := by decide +kernel
theorem dX5_highDemand_109 : decode cX5_highDemand 109 = .ok (.goto 5, 3) := by decide +kernel
theorem dX5_highDemand_112 : decode cX5_highDemand 112 = .ok (.iload 6, 2) := by decide +kernel
theorem dX5_highDemand_114 : decode cX5_highDemand 114 = .ok (.ireturn, 1) := by decide +kernel
set_option maxRecDepth 20000 in
theorem ggX5_demandOf_X5_virtualOf : GoodIn wsX5_demandOf wsX5_virtualOf := goodIn_r _ [6, 1, 7, 8, 9, 5, 10, 22, 23, 24, 25, 26, 27, 28, 29, 30, 31, 32, 33, 34, 35, 36, 37, 38, 39, 40, 41, 42, 43, 44, 45, 46, 47, 48, 49, 50, 51, 52, 53] (by decide +kernel) (by decide +kernel)
set_option maxRecDepth 20000 in
theorem gX5_demandOf_X5_virtualOf : GoodIn wsX5_demandOf (wsV RX5 68 RX5 yX5_virtualOf wsX5_virtualOf) := goodIn_app (goodIn_of _ (by decide +kernel)) ggX5_demandOf_X5_virtualOf
set_option maxRecDepth 20000 in
theorem ggX5_demandOf_X5_highDemand : GoodIn wsX5_demandOf wsX5_highDemand := goodIn_r _ [14, 1, 2, 3, 4, 5, 6, 7, 8, 9, 10, 15, 16, 17, 18, 19, 20, 21, 22, 23, 24, 25, 26, 27, 28, 29, 30, 31, 32, 33, 34, 35, 36, 37, 38, 39, 40, 41, 42, 43, 44, 45, 46, 47, 48, 49, 50, 51, 52, 53] (by decide +kernel) (by decide +kernel)
set_option maxRecDepth 20000 in
theorem gX5_demandOf_X5_highDemand : GoodIn wsX5_demandOf (wsV RX5 75 RX5 yX5_highDemand wsX5_highDemand) := goodIn_app (goodIn_of _ (by decide +kernel)) ggX5_demandOf_X5_highDemand
set_option maxRecDepth 20000 in
theorem ggX5_demandOf_X5_periodOf : GoodIn wsX5_demandOf wsX5_periodOf := goodIn_r _ [18, 1, 22, 23, 24, 25, 26, 27, 28, 29, 30, 31, 32, 33, 34, 35, 36, 37, 38, 39, 40, 41, 42, 43, 44, 45, 46, 47, 48, 49, 50, 51, 52, 53] (by decide +kernel) (by decide +kernel)
set_option maxRecDepth 20000 in
theorem gX5_demandOf_X5_periodOf : GoodIn wsX5_demandOf (wsV RX5 72 RX5 yX5_periodOf wsX5_periodOf) := goodIn_app (goodIn_of _ (by decide +kernel)) ggX5_demandOf_X5_periodOf
theorem dX5_demandOf_0 : decode cX5_demandOf 0 = .ok (.iconst 0, 1) := by decide +kernel
theorem dX5_demandOf_1 : decode cX5_demandOf 1 = .ok (.istore_n 3, 1) := by decide +kernel
theorem dX5_demandOf_2 : decode cX5_demandOf 2 = .ok (.iconst 0, 1) := by decide +kernel
theorem dX5_demandOf_3 : decode cX5_demandOf 3 = .ok (.istore 4, 2) := by decide +kernel
theorem dX5_demandOf_5 : decode cX5_demandOf 5 = .ok (.iload 4, 2) := by decide +kernel
theorem dX5_demandOf_7 : decode cX5_demandOf 7 = .ok (.aload_n 0, 1) := by decide +kernel
theorem dX5_demandOf_8 : decode cX5_demandOf 8 = .ok (.getfield 9, 3) := by decide +kernel
theorem dX5_demandOf_11 : decode cX5_demandOf 11 = .ok (.iconst 0, 1) := by decide +kernel
theorem dX5_demandOf_12 : decode cX5_demandOf 12 = .ok (.iaload, 1) := by decide +kernel
theorem dX5_demandOf_13 : decode cX5_demandOf 13 = .ok (.if_icmp .ge 69, 3) := by decide +kernel
theorem dX5_demandOf_16 : decode cX5_demandOf 16 = .ok (.aload_n 0, 1) := by decide +kernel
theorem dX5_demandOf_17 : decode cX5_demandOf 17 = .ok (.iload 4, 2) := by decide +kernel
theorem dX5_demandOf_19 : decode cX5_demandOf 19 = .ok (.invokevirtual 68, 3) := by decide +kernel
theorem dX5_demandOf_22 : decode cX5_demandOf 22 = .ok (.istore 5, 2) := by decide +kernel
theorem dX5_demandOf_24 : decode cX5_demandOf 24 = .ok (.iload_n 3, 1) := by decide +kernel
theorem dX5_demandOf_25 : decode cX5_demandOf 25 = .ok (.iload_n 1, 1) := by decide +kernel
theorem dX5_demandOf_26 : decode cX5_demandOf 26 = .ok (.iconst 1, 1) := by decide +kernel
theorem dX5_demandOf_27 : decode cX5_demandOf 27 = .ok (.if_icmp .ne 13, 3) := by decide +kernel
theorem dX5_demandOf_30 : decode cX5_demandOf 30 = .ok (.aload_n 0, 1) := by decide +kernel
theorem dX5_demandOf_31 : decode cX5_demandOf 31 = .ok (.iload 4, 2) := by decide +kernel
theorem dX5_demandOf_33 : decode cX5_demandOf 33 = .ok (.iload_n 2, 1) := by decide +kernel
theorem dX5_demandOf_34 : decode cX5_demandOf 34 = .ok (.invokevirtual 75, 3) := by decide +kernel
theorem dX5_demandOf_37 : decode cX5_demandOf 37 = .ok (.goto 37, 3) := by decide +kernel
theorem dX5_demandOf_40 : decode cX5_demandOf 40 = .ok (.iload_n 2, 1) := by decide +kernel
theorem dX5_demandOf_41 : decode cX5_demandOf 41 = .ok (.iload 5, 2) := by decide +kernel
theorem dX5_demandOf_43 : decode cX5_demandOf 43 = .ok (.if_icmp .lt 30, 3) := by decide +kernel
theorem dX5_demandOf_46 : decode cX5_demandOf 46 = .ok (.aload_n 0, 1) := by decide +kernel
theorem dX5_demandOf_47 : decode cX5_demandOf 47 = .ok (.getfield 9, 3) := by decide +kernel
theorem dX5_demandOf_50 : decode cX5_demandOf 50 = .ok (.bipush 18, 2) := by decide +kernel
theorem dX5_demandOf_52 : decode cX5_demandOf 52 = .ok (.iload 4, 2) := by decide +kernel
theorem dX5_demandOf_54 : decode cX5_demandOf 54 = .ok (.iadd, 1) := by decide +kernel
theorem dX5_demandOf_55 : decode cX5_demandOf 55 = .ok (.iaload, 1) := by decide +kernel
theorem dX5_demandOf_56 : decode cX5_demandOf 56 = .ok (.iconst 1, 1) := by decide +kernel
theorem dX5_demandOf_57 : decode cX5_demandOf 57 = .ok (.iload_n 2, 1) := by decide +kernel
theorem dX5_demandOf_58 : decode cX5_demandOf 58 = .ok (.iload 5, 2) := by decide +kernel
theorem dX5_demandOf_60 : decode cX5_demandOf 60 = .ok (.isub, 1) := by decide +kernel
theorem dX5_demandOf_61 : decode cX5_demandOf 61 = .ok (.aload_n 0, 1) := by decide +kernel
theorem dX5_demandOf_62 : decode cX5_demandOf 62 = .ok (.iload 4, 2) := by decide +kernel
theorem dX5_demandOf_64 : decode cX5_demandOf 64 = .ok (.invokevirtual 72, 3) := by decide +kernel
theorem dX5_demandOf_67 : decode cX5_demandOf 67 = .ok (.idiv, 1) := by decide +kernel
theorem dX5_demandOf_68 : decode cX5_demandOf 68 = .ok (.iadd, 1) := by decide +kernel
theorem dX5_demandOf_69 : decode cX5_demandOf 69 = .ok (.imul, 1) := by decide +kernel
theorem dX5_demandOf_70 : decode cX5_demandOf 70 = .ok (.goto 4, 3) := by decide +kernel
theorem dX5_demandOf_73 : decode cX5_demandOf 73 = .ok (.iconst 0, 1) := by decide +kernel
theorem dX5_demandOf_74 : decode cX5_demandOf 74 = .ok (.iadd, 1) := by decide +kernel
theorem dX5_demandOf_75 : decode cX5_demandOf 75 = .ok (.istore_n 3, 1) := by decide +kernel
theorem dX5_demandOf_76 : decode cX5_demandOf 76 = .ok (.iinc 4 1, 3) := by decide +kernel
theorem dX5_demandOf_79 : decode cX5_demandOf 79 = .ok (.goto (-74), 3) := by decide +kernel
theorem dX5_demandOf_82 : decode cX5_demandOf 82 = .ok (.iload_n 3, 1) := by decide +kernel
theorem dX5_demandOf_83 : decode cX5_demandOf 83 = .ok (.ireturn, 1) := by decide +kernel
set_option maxRecDepth 20000 in
theorem ggX5_firstFailing_X5_demandOf : GoodIn wsX5_firstFailing wsX5_demandOf := goodIn_r _ [5, 6, 7, 8, 9, 4, 10, 11, 12, 13, 14, 15, 16, 17, 18, 19, 20, 21, 22, 23, 24, 25, 26, 27, 28, 29, 30, 31, 32, 33, 34, 35, 36, 37, 38, 39, 40, 41, 42, 43, 44, 45, 46, 47, 48, 49, 50, 51, 52, 53, 54, 55, 56, 57] (by decide +kernel) (by decide +kernel)
set_option maxRecDepth 20000 in
theorem gX5_firstFailing_X5_demandOf : GoodIn wsX5_firstFailing (wsV RX5 79 RX5 yX5_demandOf wsX5_demandOf) := goodIn_app (goodIn_of _ (by decide +kernel)) ggX5_firstFailing_X5_demandOf
theorem dX5_firstFailing_0 : decode cX5_firstFailing 0 = .ok (.iconst 1, 1) := by decide +kernel
theorem dX5_firstFailing_1 : decode cX5_firstFailing 1 = .ok (.istore_n 2, 1) := by decide +kernel
theorem dX5_firstFailing_2 : decode cX5_firstFailing 2 = .ok (.iload_n 2, 1) := by decide +kernel
theorem dX5_firstFailing_3 : decode cX5_firstFailing 3 = .ok (.sipush 200, 3) := by decide +kernel
theorem dX5_firstFailing_6 : decode cX5_firstFailing 6 = .ok (.if_icmp .gt 21, 3) := by decide +kernel
theorem dX5_firstFailing_9 : decode cX5_firstFailing 9 = .ok (.aload_n 0, 1) := by decide +kernel
theorem dX5_firstFailing_10 : decode cX5_firstFailing 10 = .ok (.iload_n 1, 1) := by decide +kernel
theorem dX5_firstFailing_11 : decode cX5_firstFailing 11 = .ok (.iload_n 2, 1) := by decide +kernel
theorem dX5_firstFailing_12 : decode cX5_firstFailing 12 = .ok (.invokevirtual 79, 3) := by decide +kernel
theorem dX5_firstFailing_15 : decode cX5_firstFailing 15 = .ok (.iload_n 2, 1) := by decide +kernel
theorem dX5_firstFailing_16 : decode cX5_firstFailing 16 = .ok (.if_icmp .le 5, 3) := by decide +kernel
theorem dX5_firstFailing_19 : decode cX5_firstFailing 19 = .ok (.iload_n 2, 1) := by decide +kernel
theorem dX5_firstFailing_20 : decode cX5_firstFailing 20 = .ok (.ireturn, 1) := by decide +kernel
theorem dX5_firstFailing_21 : decode cX5_firstFailing 21 = .ok (.iinc 2 1, 3) := by decide +kernel
theorem dX5_firstFailing_24 : decode cX5_firstFailing 24 = .ok (.goto (-22), 3) := by decide +kernel
theorem dX5_firstFailing_27 : decode cX5_firstFailing 27 = .ok (.iconst 0, 1) := by decide +kernel
theorem dX5_firstFailing_28 : decode cX5_firstFailing 28 = .ok (.ireturn, 1) := by decide +kernel
set_option maxRecDepth 20000 in
theorem ggX5_isPassing_X5_firstFailing : GoodIn wsX5_isPassing wsX5_firstFailing := goodIn_r _ [5, 6, 7, 8, 4, 9, 10, 11, 12, 13, 14, 15, 16, 17, 18, 19, 20, 21, 22, 23, 24, 25, 26, 27, 28, 29, 30, 31, 32, 33, 34, 35, 36, 37, 38, 39, 40, 41, 42, 43, 44, 45, 46, 47, 48, 49, 50, 51, 52, 53, 54, 55, 56, 57, 58, 59, 60, 61] (by decide +kernel) (by decide +kernel)
set_option maxRecDepth 20000 in
theorem gX5_isPassing_X5_firstFailing : GoodIn wsX5_isPassing (wsV RX5 82 RX5 yX5_firstFailing wsX5_firstFailing) := goodIn_app (goodIn_of _ (by decide +kernel)) ggX5_isPassing_X5_firstFailing
theorem dX5_isPassing_0 : decode cX5_isPassing 0 = .ok (.aload_n 0, 1) := by decide +kernel
theorem dX5_isPassing_1 : decode cX5_isPassing 1 = .ok (.iload_n 1, 1) := by decide +kernel
theorem dX5_isPassing_2 : decode cX5_isPassing 2 = .ok (.invokevirtual 82, 3) := by decide +kernel
theorem dX5_isPassing_5 : decode cX5_isPassing 5 = .ok (.ifCond .ne 7, 3) := by decide +kernel
theorem dX5_isPassing_8 : decode cX5_isPassing 8 = .ok (.iconst 1, 1) := by decide +kernel
theorem dX5_isPassing_9 : decode cX5_isPassing 9 = .ok (.goto 4, 3) := by decide +kernel
theorem dX5_isPassing_12 : decode cX5_isPassing 12 = .ok (.iconst 0, 1) := by decide +kernel
theorem dX5_isPassing_13 : decode cX5_isPassing 13 = .ok (.ireturn, 1) := by decide +kernel
set_option maxRecDepth 20000 in
theorem ggX5_scales_X5_isPassing : GoodIn wsX5_scales wsX5_isPassing := goodIn_r _ [6, 7, 8, 9, 5, 10, 11, 12, 13, 14, 1, 15, 16, 17, 18, 19, 20, 21, 22, 23, 24, 25, 26, 27, 28, 29, 30, 31, 32, 33, 34, 35, 36, 37, 38, 39, 40, 41, 42, 43, 44, 45, 46, 47, 48, 49, 50, 51, 52, 53, 54, 55, 56, 57, 58, 59, 60, 61, 62, 63, 64, 65] (by decide +kernel) (by decide +kernel)
set_option maxRecDepth 20000 in
theorem gX5_scales_X5_isPassing : GoodIn wsX5_scales (wsV RX5 85 RX5 yX5_isPassing wsX5_isPassing) := goodIn_app (goodIn_of _ (by decide +kernel)) ggX5_scales_X5_isPassing
theorem dX5_scales_0 : decode cX5_scales 0 = .ok (.bipush 8, 2) := by decide +kernel
theorem dX5_scales_2 : decode cX5_scales 2 = .ok (.istore_n 1, 1) := by decide +kernel
theorem dX5_scales_3 : decode cX5_scales 3 = .ok (.iload_n 1, 1) := by decide +kernel
theorem dX5_scales_4 : decode cX5_scales 4 = .ok (.ifCond .le 34, 3) := by decide +kernel
theorem dX5_scales_7 : decode cX5_scales 7 = .ok (.aload_n 0, 1) := by decide +kernel
theorem dX5_scales_8 : decode cX5_scales 8 = .ok (.getfield 9, 3) := by decide +kernel
theorem dX5_scales_11 : decode cX5_scales 11 = .ok (.iconst 1, 1) := by decide +kernel
theorem dX5_scales_12 : decode cX5_scales 12 = .ok (.iload_n 1, 1) := by decide +kernel
theorem dX5_scales_13 : decode cX5_scales 13 = .ok (.iastore, 1) := by decide +kernel
theorem dX5_scales_14 : decode cX5_scales 14 = .ok (.aload_n 0, 1) := by decide +kernel
theorem dX5_scales_15 : decode cX5_scales 15 = .ok (.iconst 0, 1) := by decide +kernel
theorem dX5_scales_16 : decode cX5_scales 16 = .ok (.invokevirtual 85, 3) := by decide +kernel
theorem dX5_scales_19 : decode cX5_scales 19 = .ok (.ifCond .eq 13, 3) := by decide +kernel
theorem dX5_scales_22 : decode cX5_scales 22 = .ok (.aload_n 0, 1) := by decide +kernel
theorem dX5_scales_23 : decode cX5_scales 23 = .ok (.iconst 1, 1) := by decide +kernel
theorem dX5_scales_24 : decode cX5_scales 24 = .ok (.invokevirtual 85, 3) := by decide +kernel
theorem dX5_scales_27 : decode cX5_scales 27 = .ok (.ifCond .eq 5, 3) := by decide +kernel
theorem dX5_scales_30 : decode cX5_scales 30 = .ok (.iconst 1, 1) := by decide +kernel
theorem dX5_scales_31 : decode cX5_scales 31 = .ok (.ireturn, 1) := by decide +kernel
theorem dX5_scales_32 : decode cX5_scales 32 = .ok (.iinc 1 (-1), 3) := by decide +kernel
theorem dX5_scales_35 : decode cX5_scales 35 = .ok (.goto (-32), 3) := by decide +kernel
theorem dX5_scales_38 : decode cX5_scales 38 = .ok (.iconst 0, 1) := by decide +kernel
theorem dX5_scales_39 : decode cX5_scales 39 = .ok (.ireturn, 1) := by decide +kernel
set_option maxRecDepth 20000 in
theorem ggX5_areTold_X5_in : GoodIn wsX5_areTold wsX5_in := goodIn_r _ [4] (by decide +kernel) (by decide +kernel)
set_option maxRecDepth 20000 in
theorem gX5_areTold_X5_in : GoodIn wsX5_areTold (va_wsS RX5 53 yX5_in wsX5_in) := goodIn_app (goodIn_of _ (by decide +kernel)) ggX5_areTold_X5_in
theorem dX5_areTold_0 : decode cX5_areTold 0 = .ok (.iload_n 0, 1) := by decide +kernel
theorem dX5_areTold_1 : decode cX5_areTold 1 = .ok (.iconst 1, 1) := by decide +kernel
theorem dX5_areTold_2 : decode cX5_areTold 2 = .ok (.bipush 40, 2) := by decide +kernel
theorem dX5_areTold_4 : decode cX5_areTold 4 = .ok (.invokestatic 53, 3) := by decide +kernel
theorem dX5_areTold_7 : decode cX5_areTold 7 = .ok (.ifCond .eq 36, 3) := by decide +kernel
theorem dX5_areTold_10 : decode cX5_areTold 10 = .ok (.iload_n 1, 1) := by decide +kernel
theorem dX5_areTold_11 : decode cX5_areTold 11 = .ok (.iconst 1, 1) := by decide +kernel
theorem dX5_areTold_12 : decode cX5_areTold 12 = .ok (.iload_n 0, 1) := by decide +kernel
theorem dX5_areTold_13 : decode cX5_areTold 13 = .ok (.invokestatic 53, 3) := by decide +kernel
theorem dX5_areTold_16 : decode cX5_areTold 16 = .ok (.ifCond .eq 27, 3) := by decide +kernel
theorem dX5_areTold_19 : decode cX5_areTold 19 = .ok (.iload_n 2, 1) := by decide +kernel
theorem dX5_areTold_20 : decode cX5_areTold 20 = .ok (.iconst 1, 1) := by decide +kernel
theorem dX5_areTold_21 : decode cX5_areTold 21 = .ok (.iload_n 1, 1) := by decide +kernel
theorem dX5_areTold_22 : decode cX5_areTold 22 = .ok (.invokestatic 53, 3) := by decide +kernel
theorem dX5_areTold_25 : decode cX5_areTold 25 = .ok (.ifCond .eq 18, 3) := by decide +kernel
theorem dX5_areTold_28 : decode cX5_areTold 28 = .ok (.iload 4, 2) := by decide +kernel
theorem dX5_areTold_30 : decode cX5_areTold 30 = .ok (.iconst 0, 1) := by decide +kernel
theorem dX5_areTold_31 : decode cX5_areTold 31 = .ok (.bipush 9, 2) := by decide +kernel
theorem dX5_areTold_33 : decode cX5_areTold 33 = .ok (.invokestatic 53, 3) := by decide +kernel
theorem dX5_areTold_36 : decode cX5_areTold 36 = .ok (.ifCond .eq 7, 3) := by decide +kernel
theorem dX5_areTold_39 : decode cX5_areTold 39 = .ok (.iconst 1, 1) := by decide +kernel
theorem dX5_areTold_40 : decode cX5_areTold 40 = .ok (.goto 4, 3) := by decide +kernel
theorem dX5_areTold_43 : decode cX5_areTold 43 = .ok (.iconst 0, 1) := by decide +kernel
theorem dX5_areTold_44 : decode cX5_areTold 44 = .ok (.istore 6, 2) := by decide +kernel
theorem dX5_areTold_46 : decode cX5_areTold 46 = .ok (.iload 6, 2) := by decide +kernel
theorem dX5_areTold_48 : decode cX5_areTold 48 = .ok (.ifCond .eq 38, 3) := by decide +kernel
theorem dX5_areTold_51 : decode cX5_areTold 51 = .ok (.iload_n 3, 1) := by decide +kernel
theorem dX5_areTold_52 : decode cX5_areTold 52 = .ok (.ifCond .ne 16, 3) := by decide +kernel
theorem dX5_areTold_55 : decode cX5_areTold 55 = .ok (.iload 5, 2) := by decide +kernel
theorem dX5_areTold_57 : decode cX5_areTold 57 = .ok (.iconst 0, 1) := by decide +kernel
theorem dX5_areTold_58 : decode cX5_areTold 58 = .ok (.iconst 2, 1) := by decide +kernel
theorem dX5_areTold_59 : decode cX5_areTold 59 = .ok (.invokestatic 53, 3) := by decide +kernel
theorem dX5_areTold_62 : decode cX5_areTold 62 = .ok (.ifCond .eq 24, 3) := by decide +kernel
theorem dX5_areTold_65 : decode cX5_areTold 65 = .ok (.goto 17, 3) := by decide +kernel
theorem dX5_areTold_68 : decode cX5_areTold 68 = .ok (.iload_n 3, 1) := by decide +kernel
theorem dX5_areTold_69 : decode cX5_areTold 69 = .ok (.iload_n 2, 1) := by decide +kernel
theorem dX5_areTold_70 : decode cX5_areTold 70 = .ok (.iload_n 1, 1) := by decide +kernel
theorem dX5_areTold_71 : decode cX5_areTold 71 = .ok (.invokestatic 53, 3) := by decide +kernel
theorem dX5_areTold_74 : decode cX5_areTold 74 = .ok (.ifCond .eq 12, 3) := by decide +kernel
theorem dX5_areTold_77 : decode cX5_areTold 77 = .ok (.iload 5, 2) := by decide +kernel
theorem dX5_areTold_79 : decode cX5_areTold 79 = .ok (.ifCond .ne 7, 3) := by decide +kernel
theorem dX5_areTold_82 : decode cX5_areTold 82 = .ok (.iconst 1, 1) := by decide +kernel
theorem dX5_areTold_83 : decode cX5_areTold 83 = .ok (.goto 4, 3) := by decide +kernel
theorem dX5_areTold_86 : decode cX5_areTold 86 = .ok (.iconst 0, 1) := by decide +kernel
theorem dX5_areTold_87 : decode cX5_areTold 87 = .ok (.ireturn, 1) := by decide +kernel
theorem dX5_weakest_0 : decode cX5_weakest 0 = .ok (.iconst (-1), 1) := by decide +kernel
theorem dX5_weakest_1 : decode cX5_weakest 1 = .ok (.istore_n 1, 1) := by decide +kernel
theorem dX5_weakest_2 : decode cX5_weakest 2 = .ok (.iconst 0, 1) := by decide +kernel
theorem dX5_weakest_3 : decode cX5_weakest 3 = .ok (.istore_n 2, 1) := by decide +kernel
theorem dX5_weakest_4 : decode cX5_weakest 4 = .ok (.iload_n 2, 1) := by decide +kernel
theorem dX5_weakest_5 : decode cX5_weakest 5 = .ok (.aload_n 0, 1) := by decide +kernel
theorem dX5_weakest_6 : decode cX5_weakest 6 = .ok (.getfield 9, 3) := by decide +kernel
theorem dX5_weakest_9 : decode cX5_weakest 9 = .ok (.iconst 0, 1) := by decide +kernel
theorem dX5_weakest_10 : decode cX5_weakest 10 = .ok (.iaload, 1) := by decide +kernel
theorem dX5_weakest_11 : decode cX5_weakest 11 = .ok (.if_icmp .ge 71, 3) := by decide +kernel
theorem dX5_weakest_14 : decode cX5_weakest 14 = .ok (.aload_n 0, 1) := by decide +kernel
theorem dX5_weakest_15 : decode cX5_weakest 15 = .ok (.getfield 9, 3) := by decide +kernel
theorem dX5_weakest_18 : decode cX5_weakest 18 = .ok (.bipush 50, 2) := by decide +kernel
theorem dX5_weakest_20 : decode cX5_weakest 20 = .ok (.iload_n 2, 1) := by decide +kernel
theorem dX5_weakest_21 : decode cX5_weakest 21 = .ok (.iadd, 1) := by decide +kernel
theorem dX5_weakest_22 : decode cX5_weakest 22 = .ok (.iaload, 1) := by decide +kernel
theorem dX5_weakest_23 : decode cX5_weakest 23 = .ok (.aload_n 0, 1) := by decide +kernel
theorem dX5_weakest_24 : decode cX5_weakest 24 = .ok (.getfield 9, 3) := by decide +kernel
theorem dX5_weakest_27 : decode cX5_weakest 27 = .ok (.bipush 42, 2) := by decide +kernel
theorem dX5_weakest_29 : decode cX5_weakest 29 = .ok (.iload_n 2, 1) := by decide +kernel
theorem dX5_weakest_30 : decode cX5_weakest 30 = .ok (.iadd, 1) := by decide +kernel
theorem dX5_weakest_31 : decode cX5_weakest 31 = .ok (.iaload, 1) := by decide +kernel
theorem dX5_weakest_32 : decode cX5_weakest 32 = .ok (.if_icmp .ge 32, 3) := by decide +kernel
theorem dX5_weakest_35 : decode cX5_weakest 35 = .ok (.iload_n 1, 1) := by decide +kernel
theorem dX5_weakest_36 : decode cX5_weakest 36 = .ok (.ifCond .lt 24, 3) := by decide +kernel
theorem dX5_weakest_39 : decode cX5_weakest 39 = .ok (.aload_n 0, 1) := by decide +kernel
theorem dX5_weakest_40 : decode cX5_weakest 40 = .ok (.getfield 9, 3) := by decide +kernel
theorem dX5_weakest_43 : decode cX5_weakest 43 = .ok (.bipush 34, 2) := by decide +kernel
theorem dX5_weakest_45 : decode cX5_weakest 45 = .ok (.iload_n 2, 1) := by decide +kernel
theorem dX5_weakest_46 : decode cX5_weakest 46 = .ok (.iadd, 1) := by decide +kernel
theorem dX5_weakest_47 : decode cX5_weakest 47 = .ok (.iaload, 1) := by decide +kernel
theorem dX5_weakest_48 : decode cX5_weakest 48 = .ok (.aload_n 0, 1) := by decide +kernel
theorem dX5_weakest_49 : decode cX5_weakest 49 = .ok (.getfield 9, 3) := by decide +kernel
theorem dX5_weakest_52 : decode cX5_weakest 52 = .ok (.bipush 34, 2) := by decide +kernel
theorem dX5_weakest_54 : decode cX5_weakest 54 = .ok (.iload_n 1, 1) := by decide +kernel
theorem dX5_weakest_55 : decode cX5_weakest 55 = .ok (.iadd, 1) := by decide +kernel
theorem dX5_weakest_56 : decode cX5_weakest 56 = .ok (.iaload, 1) := by decide +kernel
theorem dX5_weakest_57 : decode cX5_weakest 57 = .ok (.if_icmp .ge 7, 3) := by decide +kernel
theorem dX5_weakest_60 : decode cX5_weakest 60 = .ok (.iconst 1, 1) := by decide +kernel
theorem dX5_weakest_61 : decode cX5_weakest 61 = .ok (.goto 4, 3) := by decide +kernel
theorem dX5_weakest_64 : decode cX5_weakest 64 = .ok (.iconst 0, 1) := by decide +kernel
theorem dX5_weakest_65 : decode cX5_weakest 65 = .ok (.istore_n 3, 1) := by decide +kernel
theorem dX5_weakest_66 : decode cX5_weakest 66 = .ok (.iload_n 3, 1) := by decide +kernel
theorem dX5_weakest_67 : decode cX5_weakest 67 = .ok (.ifCond .eq 7, 3) := by decide +kernel
theorem dX5_weakest_70 : decode cX5_weakest 70 = .ok (.iload_n 2, 1) := by decide +kernel
theorem dX5_weakest_71 : decode cX5_weakest 71 = .ok (.goto 4, 3) := by decide +kernel
theorem dX5_weakest_74 : decode cX5_weakest 74 = .ok (.iload_n 1, 1) := by decide +kernel
theorem dX5_weakest_75 : decode cX5_weakest 75 = .ok (.istore_n 1, 1) := by decide +kernel
theorem dX5_weakest_76 : decode cX5_weakest 76 = .ok (.iinc 2 1, 3) := by decide +kernel
theorem dX5_weakest_79 : decode cX5_weakest 79 = .ok (.goto (-75), 3) := by decide +kernel
theorem dX5_weakest_82 : decode cX5_weakest 82 = .ok (.iload_n 1, 1) := by decide +kernel
theorem dX5_weakest_83 : decode cX5_weakest 83 = .ok (.ireturn, 1) := by decide +kernel
set_option maxRecDepth 20000 in
theorem ggX5_rejects_X5_isPassing : GoodIn wsX5_rejects wsX5_isPassing := goodIn_r _ [10, 11, 12, 13, 9, 14, 15, 16, 17, 18, 1, 19, 20, 21, 22, 23, 24, 25, 26, 27, 28, 29, 30, 31, 32, 33, 34, 35, 36, 37, 43, 44, 45, 46, 47, 48, 49, 50, 51, 52, 53, 54, 55, 56, 57, 58, 59, 60, 61, 62, 63, 64, 65, 66, 67, 68, 69, 70, 71, 72, 73, 74] (by decide +kernel) (by decide +kernel)
set_option maxRecDepth 20000 in
theorem gX5_rejects_X5_isPassing : GoodIn wsX5_rejects (wsV RX5 85 RX5 yX5_isPassing wsX5_isPassing) := goodIn_app (goodIn_of _ (by decide +kernel)) ggX5_rejects_X5_isPassing
set_option maxRecDepth 20000 in
theorem ggX5_rejects_X5_firstFailing : GoodIn wsX5_rejects wsX5_firstFailing := goodIn_r _ [14, 15, 16, 17, 9, 18, 1, 19, 20, 21, 22, 23, 24, 25, 26, 27, 28, 29, 30, 31, 32, 33, 34, 35, 36, 37, 43, 44, 45, 46, 47, 48, 49, 50, 51, 52, 53, 54, 55, 56, 57, 58, 59, 60, 61, 62, 63, 64, 65, 66, 67, 68, 69, 70, 71, 72, 73, 74] (by decide +kernel) (by decide +kernel)
set_option maxRecDepth 20000 in
theorem gX5_rejects_X5_firstFailing : GoodIn wsX5_rejects (wsV RX5 82 RX5 yX5_firstFailing wsX5_firstFailing) := goodIn_app (goodIn_of _ (by decide +kernel)) ggX5_rejects_X5_firstFailing
set_option maxRecDepth 20000 in
theorem ggX5_rejects_X5_demandOf : GoodIn wsX5_rejects wsX5_demandOf := goodIn_r _ [18, 1, 19, 20, 21, 9, 22, 23, 24, 25, 26, 27, 28, 29, 30, 31, 32, 33, 34, 35, 36, 37, 43, 44, 45, 46, 47, 48, 49, 50, 51, 52, 53, 54, 55, 56, 57, 58, 59, 60, 61, 62, 63, 64, 65, 66, 67, 68, 69, 70, 71, 72, 73, 74] (by decide +kernel) (by decide +kernel)
set_option maxRecDepth 20000 in
theorem gX5_rejects_X5_demandOf : GoodIn wsX5_rejects (wsV RX5 79 RX5 yX5_demandOf wsX5_demandOf) := goodIn_app (goodIn_of _ (by decide +kernel)) ggX5_rejects_X5_demandOf
set_option maxRecDepth 20000 in
theorem ggX5_rejects_X5_goesBack : GoodIn wsX5_rejects wsX5_goesBack := goodIn_r _ [41, 1, 42, 43, 44, 45, 46, 47, 48, 49, 50, 51, 52, 53, 54, 55, 56, 57, 58, 59, 60, 61, 62, 63, 64, 65, 66, 67, 68, 69, 70, 71, 72, 73, 74] (by decide +kernel) (by decide +kernel)
set_option maxRecDepth 20000 in
theorem gX5_rejects_X5_goesBack : GoodIn wsX5_rejects (wsV RX5 100 RX5 yX5_goesBack wsX5_goesBack) := goodIn_app (goodIn_of _ (by decide +kernel)) ggX5_rejects_X5_goesBack
theorem dX5_rejects_0 : decode cX5_rejects 0 = .ok (.aload_n 0, 1) := by decide +kernel
theorem dX5_rejects_1 : decode cX5_rejects 1 = .ok (.getfield 9, 3) := by decide +kernel
theorem dX5_rejects_4 : decode cX5_rejects 4 = .ok (.iconst 1, 1) := by decide +kernel
theorem dX5_rejects_5 : decode cX5_rejects 5 = .ok (.bipush 8, 2) := by decide +kernel
theorem dX5_rejects_7 : decode cX5_rejects 7 = .ok (.iastore, 1) := by decide +kernel
theorem dX5_rejects_8 : decode cX5_rejects 8 = .ok (.aload_n 0, 1) := by decide +kernel
theorem dX5_rejects_9 : decode cX5_rejects 9 = .ok (.iconst 1, 1) := by decide +kernel
theorem dX5_rejects_10 : decode cX5_rejects 10 = .ok (.putfield 88, 3) := by decide +kernel
theorem dX5_rejects_13 : decode cX5_rejects 13 = .ok (.aload_n 0, 1) := by decide +kernel
theorem dX5_rejects_14 : decode cX5_rejects 14 = .ok (.aload_n 0, 1) := by decide +kernel
theorem dX5_rejects_15 : decode cX5_rejects 15 = .ok (.iconst 0, 1) := by decide +kernel
theorem dX5_rejects_16 : decode cX5_rejects 16 = .ok (.invokevirtual 85, 3) := by decide +kernel
theorem dX5_rejects_19 : decode cX5_rejects 19 = .ok (.ifCond .eq 7, 3) := by decide +kernel
theorem dX5_rejects_22 : decode cX5_rejects 22 = .ok (.iconst 1, 1) := by decide +kernel
theorem dX5_rejects_23 : decode cX5_rejects 23 = .ok (.goto 4, 3) := by decide +kernel
theorem dX5_rejects_26 : decode cX5_rejects 26 = .ok (.iconst 0, 1) := by decide +kernel
theorem dX5_rejects_27 : decode cX5_rejects 27 = .ok (.putfield 91, 3) := by decide +kernel
theorem dX5_rejects_30 : decode cX5_rejects 30 = .ok (.aload_n 0, 1) := by decide +kernel
theorem dX5_rejects_31 : decode cX5_rejects 31 = .ok (.aload_n 0, 1) := by decide +kernel
theorem dX5_rejects_32 : decode cX5_rejects 32 = .ok (.aload_n 0, 1) := by decide +kernel
theorem dX5_rejects_33 : decode cX5_rejects 33 = .ok (.getfield 91, 3) := by decide +kernel
theorem dX5_rejects_36 : decode cX5_rejects 36 = .ok (.invokevirtual 82, 3) := by decide +kernel
theorem dX5_rejects_39 : decode cX5_rejects 39 = .ok (.putfield 94, 3) := by decide +kernel
theorem dX5_rejects_42 : decode cX5_rejects 42 = .ok (.aload_n 0, 1) := by decide +kernel
theorem dX5_rejects_43 : decode cX5_rejects 43 = .ok (.aload_n 0, 1) := by decide +kernel
theorem dX5_rejects_44 : decode cX5_rejects 44 = .ok (.aload_n 0, 1) := by decide +kernel
theorem dX5_rejects_45 : decode cX5_rejects 45 = .ok (.getfield 91, 3) := by decide +kernel
theorem dX5_rejects_48 : decode cX5_rejects 48 = .ok (.aload_n 0, 1) := by decide +kernel
theorem dX5_rejects_49 : decode cX5_rejects 49 = .ok (.getfield 94, 3) := by decide +kernel
theorem dX5_rejects_52 : decode cX5_rejects 52 = .ok (.invokevirtual 79, 3) := by decide +kernel
theorem dX5_rejects_55 : decode cX5_rejects 55 = .ok (.putfield 97, 3) := by decide +kernel
theorem dX5_rejects_58 : decode cX5_rejects 58 = .ok (.aload_n 0, 1) := by decide +kernel
theorem dX5_rejects_59 : decode cX5_rejects 59 = .ok (.invokevirtual 100, 3) := by decide +kernel
theorem dX5_rejects_62 : decode cX5_rejects 62 = .ok (.iconst (-1), 1) := by decide +kernel
theorem dX5_rejects_63 : decode cX5_rejects 63 = .ok (.ireturn, 1) := by decide +kernel
set_option maxRecDepth 20000 in
theorem ggX5_propose_X5_areTold : GoodIn wsX5_propose wsX5_areTold := goodIn_r _ [6, 7, 8, 5, 9] (by decide +kernel) (by decide +kernel)
set_option maxRecDepth 20000 in
theorem gX5_propose_X5_areTold : GoodIn wsX5_propose (va_wsS RX5 103 yX5_areTold wsX5_areTold) := goodIn_app (goodIn_of _ (by decide +kernel)) ggX5_propose_X5_areTold
set_option maxRecDepth 20000 in
theorem ggX5_propose_X5_fails : GoodIn wsX5_propose wsX5_fails := goodIn_r _ [13, 1, 74, 75, 76, 77, 78, 79, 80, 81, 82, 83, 84, 85, 86, 87, 88, 89, 90, 91, 92, 93, 94, 95, 96, 97, 98, 99, 100, 101, 102, 103, 104, 105] (by decide +kernel) (by decide +kernel)
set_option maxRecDepth 20000 in
theorem gX5_propose_X5_fails : GoodIn wsX5_propose (wsV RX5 107 RX5 yX5_fails wsX5_fails) := goodIn_app (goodIn_of _ (by decide +kernel)) ggX5_propose_X5_fails
set_option maxRecDepth 20000 in
theorem ggX5_propose_X5_keeps : GoodIn wsX5_propose wsX5_keeps := goodIn_r _ [17, 18, 2, 74, 75, 76, 77, 78, 79, 80, 81, 82, 83, 84, 85, 86, 87, 88, 89, 90, 91, 92, 93, 94, 95, 96, 97, 98, 99, 100, 101, 102, 103, 104, 105] (by decide +kernel) (by decide +kernel)
set_option maxRecDepth 20000 in
theorem gX5_propose_X5_keeps : GoodIn wsX5_propose (wsV RX5 110 RX5 yX5_keeps wsX5_keeps) := goodIn_app (goodIn_of _ (by decide +kernel)) ggX5_propose_X5_keeps
set_option maxRecDepth 20000 in
theorem ggX5_propose_X5_scales : GoodIn wsX5_propose wsX5_scales := goodIn_r _ [22, 2, 23, 24, 25, 5, 26, 27, 28, 29, 30, 31, 32, 33, 34, 35, 36, 37, 38, 39, 40, 41, 42, 43, 44, 45, 46, 47, 48, 49, 50, 7, 8, 9, 74, 75, 76, 77, 78, 79, 80, 81, 82, 83, 84, 85, 86, 87, 88, 89, 90, 91, 92, 93, 94, 95, 96, 97, 98, 99, 100, 101, 102, 103, 104, 105] (by decide +kernel) (by decide +kernel)
set_option maxRecDepth 20000 in
theorem gX5_propose_X5_scales : GoodIn wsX5_propose (wsV RX5 113 RX5 yX5_scales wsX5_scales) := goodIn_app (goodIn_of _ (by decide +kernel)) ggX5_propose_X5_scales
set_option maxRecDepth 20000 in
theorem ggX5_propose_X5_weakest : GoodIn wsX5_propose wsX5_weakest := goodIn_r _ [54, 2, 74, 75, 76, 77, 78, 79, 80, 81, 82, 83, 84, 85, 86, 87, 88, 89, 90, 91, 92, 93, 94, 95, 96, 97, 98, 99, 100, 101, 102, 103, 104, 105] (by decide +kernel) (by decide +kernel)
set_option maxRecDepth 20000 in
theorem gX5_propose_X5_weakest : GoodIn wsX5_propose (wsV RX5 117 RX5 yX5_weakest wsX5_weakest) := goodIn_app (goodIn_of _ (by decide +kernel)) ggX5_propose_X5_weakest
set_option maxRecDepth 20000 in
theorem ggX5_propose_X5_rejects : GoodIn wsX5_propose wsX5_rejects := goodIn_r _ [58, 2, 59, 60, 61, 62, 23, 24, 25, 5, 26, 27, 28, 29, 30, 31, 32, 33, 34, 35, 36, 37, 38, 39, 40, 41, 42, 43, 44, 45, 46, 47, 48, 49, 50, 7, 8, 9, 63, 64, 65, 66, 18, 74, 75, 76, 77, 78, 79, 80, 81, 82, 83, 84, 85, 86, 87, 88, 89, 90, 91, 92, 93, 94, 95, 96, 97, 98, 99, 100, 101, 102, 103, 104, 105] (by decide +kernel) (by decide +kernel)
set_option maxRecDepth 20000 in
theorem gX5_propose_X5_rejects : GoodIn wsX5_propose (wsV RX5 121 RX5 yX5_rejects wsX5_rejects) := goodIn_app (goodIn_of _ (by decide +kernel)) ggX5_propose_X5_rejects
set_option maxRecDepth 20000 in
theorem ggX5_propose_X5_records : GoodIn wsX5_propose wsX5_records := goodIn_r _ [70, 71, 72, 18, 73, 74, 75, 76, 77, 78, 79, 80, 81, 82, 83, 84, 85, 86, 87, 88, 89, 90, 91, 92, 93, 94, 95, 96, 97, 98, 99, 100, 101, 102, 103, 104, 105] (by decide +kernel) (by decide +kernel)
set_option maxRecDepth 20000 in
theorem gX5_propose_X5_records : GoodIn wsX5_propose (wsV RX5 124 RX5 yX5_records wsX5_records) := goodIn_app (goodIn_of _ (by decide +kernel)) ggX5_propose_X5_records
theorem dX5_propose_0 : decode cX5_propose 0 = .ok (.aload_n 0, 1) := by decide +kernel
theorem dX5_propose_1 : decode cX5_propose 1 = .ok (.iconst 0, 1) := by decide +kernel
theorem dX5_propose_2 : decode cX5_propose 2 = .ok (.putfield 50, 3) := by decide +kernel
theorem dX5_propose_5 : decode cX5_propose 5 = .ok (.iload_n 1, 1) := by decide +kernel
theorem dX5_propose_6 : decode cX5_propose 6 = .ok (.iload_n 2, 1) := by decide +kernel
theorem dX5_propose_7 : decode cX5_propose 7 = .ok (.iload_n 3, 1) := by decide +kernel
theorem dX5_propose_8 : decode cX5_propose 8 = .ok (.iload 4, 2) := by decide +kernel
theorem dX5_propose_10 : decode cX5_propose 10 = .ok (.iload 5, 2) := by decide +kernel
theorem dX5_propose_12 : decode cX5_propose 12 = .ok (.iload 6, 2) := by decide +kernel
theorem dX5_propose_14 : decode cX5_propose 14 = .ok (.invokestatic 103, 3) := by decide +kernel
theorem dX5_propose_17 : decode cX5_propose 17 = .ok (.ifCond .ne 9, 3) := by decide +kernel
theorem dX5_propose_20 : decode cX5_propose 20 = .ok (.aload_n 0, 1) := by decide +kernel
theorem dX5_propose_21 : decode cX5_propose 21 = .ok (.iconst 1, 1) := by decide +kernel
theorem dX5_propose_22 : decode cX5_propose 22 = .ok (.invokevirtual 107, 3) := by decide +kernel
theorem dX5_propose_25 : decode cX5_propose 25 = .ok (.ireturn, 1) := by decide +kernel
theorem dX5_propose_26 : decode cX5_propose 26 = .ok (.aload_n 0, 1) := by decide +kernel
theorem dX5_propose_27 : decode cX5_propose 27 = .ok (.getfield 9, 3) := by decide +kernel
theorem dX5_propose_30 : decode cX5_propose 30 = .ok (.iconst 0, 1) := by decide +kernel
theorem dX5_propose_31 : decode cX5_propose 31 = .ok (.iaload, 1) := by decide +kernel
theorem dX5_propose_32 : decode cX5_propose 32 = .ok (.bipush 8, 2) := by decide +kernel
theorem dX5_propose_34 : decode cX5_propose 34 = .ok (.if_icmp .ne 9, 3) := by decide +kernel
theorem dX5_propose_37 : decode cX5_propose 37 = .ok (.aload_n 0, 1) := by decide +kernel
theorem dX5_propose_38 : decode cX5_propose 38 = .ok (.iconst 2, 1) := by decide +kernel
theorem dX5_propose_39 : decode cX5_propose 39 = .ok (.invokevirtual 107, 3) := by decide +kernel
theorem dX5_propose_42 : decode cX5_propose 42 = .ok (.ireturn, 1) := by decide +kernel
theorem dX5_propose_43 : decode cX5_propose 43 = .ok (.aload_n 0, 1) := by decide +kernel
theorem dX5_propose_44 : decode cX5_propose 44 = .ok (.invokevirtual 110, 3) := by decide +kernel
theorem dX5_propose_47 : decode cX5_propose 47 = .ok (.aload_n 0, 1) := by decide +kernel
theorem dX5_propose_48 : decode cX5_propose 48 = .ok (.getfield 9, 3) := by decide +kernel
theorem dX5_propose_51 : decode cX5_propose 51 = .ok (.iconst 0, 1) := by decide +kernel
theorem dX5_propose_52 : decode cX5_propose 52 = .ok (.iaload, 1) := by decide +kernel
theorem dX5_propose_53 : decode cX5_propose 53 = .ok (.istore 7, 2) := by decide +kernel
theorem dX5_propose_55 : decode cX5_propose 55 = .ok (.aload_n 0, 1) := by decide +kernel
theorem dX5_propose_56 : decode cX5_propose 56 = .ok (.getfield 9, 3) := by decide +kernel
theorem dX5_propose_59 : decode cX5_propose 59 = .ok (.iconst 2, 1) := by decide +kernel
theorem dX5_propose_60 : decode cX5_propose 60 = .ok (.iload 7, 2) := by decide +kernel
theorem dX5_propose_62 : decode cX5_propose 62 = .ok (.iadd, 1) := by decide +kernel
theorem dX5_propose_63 : decode cX5_propose 63 = .ok (.iload_n 1, 1) := by decide +kernel
theorem dX5_propose_64 : decode cX5_propose 64 = .ok (.iastore, 1) := by decide +kernel
theorem dX5_propose_65 : decode cX5_propose 65 = .ok (.aload_n 0, 1) := by decide +kernel
theorem dX5_propose_66 : decode cX5_propose 66 = .ok (.getfield 9, 3) := by decide +kernel
theorem dX5_propose_69 : decode cX5_propose 69 = .ok (.bipush 10, 2) := by decide +kernel
theorem dX5_propose_71 : decode cX5_propose 71 = .ok (.iload 7, 2) := by decide +kernel
theorem dX5_propose_73 : decode cX5_propose 73 = .ok (.iadd, 1) := by decide +kernel
theorem dX5_propose_74 : decode cX5_propose 74 = .ok (.iload_n 2, 1) := by decide +kernel
theorem dX5_propose_75 : decode cX5_propose 75 = .ok (.iastore, 1) := by decide +kernel
theorem dX5_propose_76 : decode cX5_propose 76 = .ok (.aload_n 0, 1) := by decide +kernel
theorem dX5_propose_77 : decode cX5_propose 77 = .ok (.getfield 9, 3) := by decide +kernel
theorem dX5_propose_80 : decode cX5_propose 80 = .ok (.bipush 18, 2) := by decide +kernel
theorem dX5_propose_82 : decode cX5_propose 82 = .ok (.iload 7, 2) := by decide +kernel
theorem dX5_propose_84 : decode cX5_propose 84 = .ok (.iadd, 1) := by decide +kernel
theorem dX5_propose_85 : decode cX5_propose 85 = .ok (.iload_n 3, 1) := by decide +kernel
theorem dX5_propose_86 : decode cX5_propose 86 = .ok (.iastore, 1) := by decide +kernel
theorem dX5_propose_87 : decode cX5_propose 87 = .ok (.aload_n 0, 1) := by decide +kernel
theorem dX5_propose_88 : decode cX5_propose 88 = .ok (.getfield 9, 3) := by decide +kernel
theorem dX5_propose_91 : decode cX5_propose 91 = .ok (.bipush 26, 2) := by decide +kernel
theorem dX5_propose_93 : decode cX5_propose 93 = .ok (.iload 7, 2) := by decide +kernel
theorem dX5_propose_95 : decode cX5_propose 95 = .ok (.iadd, 1) := by decide +kernel
theorem dX5_propose_96 : decode cX5_propose 96 = .ok (.iload 4, 2) := by decide +kernel
theorem dX5_propose_98 : decode cX5_propose 98 = .ok (.iastore, 1) := by decide +kernel
theorem dX5_propose_99 : decode cX5_propose 99 = .ok (.aload_n 0, 1) := by decide +kernel
theorem dX5_propose_100 : decode cX5_propose 100 = .ok (.getfield 9, 3) := by decide +kernel
theorem dX5_propose_103 : decode cX5_propose 103 = .ok (.bipush 34, 2) := by decide +kernel
theorem dX5_propose_105 : decode cX5_propose 105 = .ok (.iload 7, 2) := by decide +kernel
theorem dX5_propose_107 : decode cX5_propose 107 = .ok (.iadd, 1) := by decide +kernel
theorem dX5_propose_108 : decode cX5_propose 108 = .ok (.iload 5, 2) := by decide +kernel
theorem dX5_propose_110 : decode cX5_propose 110 = .ok (.iastore, 1) := by decide +kernel
theorem dX5_propose_111 : decode cX5_propose 111 = .ok (.aload_n 0, 1) := by decide +kernel
theorem dX5_propose_112 : decode cX5_propose 112 = .ok (.getfield 9, 3) := by decide +kernel
theorem dX5_propose_115 : decode cX5_propose 115 = .ok (.bipush 42, 2) := by decide +kernel
theorem dX5_propose_117 : decode cX5_propose 117 = .ok (.iload 7, 2) := by decide +kernel
theorem dX5_propose_119 : decode cX5_propose 119 = .ok (.iadd, 1) := by decide +kernel
theorem dX5_propose_120 : decode cX5_propose 120 = .ok (.iload 6, 2) := by decide +kernel
theorem dX5_propose_122 : decode cX5_propose 122 = .ok (.iastore, 1) := by decide +kernel
theorem dX5_propose_123 : decode cX5_propose 123 = .ok (.aload_n 0, 1) := by decide +kernel
theorem dX5_propose_124 : decode cX5_propose 124 = .ok (.getfield 9, 3) := by decide +kernel
theorem dX5_propose_127 : decode cX5_propose 127 = .ok (.bipush 50, 2) := by decide +kernel
theorem dX5_propose_129 : decode cX5_propose 129 = .ok (.iload 7, 2) := by decide +kernel
theorem dX5_propose_131 : decode cX5_propose 131 = .ok (.iadd, 1) := by decide +kernel
theorem dX5_propose_132 : decode cX5_propose 132 = .ok (.iconst 0, 1) := by decide +kernel
theorem dX5_propose_133 : decode cX5_propose 133 = .ok (.iastore, 1) := by decide +kernel
theorem dX5_propose_134 : decode cX5_propose 134 = .ok (.aload_n 0, 1) := by decide +kernel
theorem dX5_propose_135 : decode cX5_propose 135 = .ok (.getfield 9, 3) := by decide +kernel
theorem dX5_propose_138 : decode cX5_propose 138 = .ok (.iconst 0, 1) := by decide +kernel
theorem dX5_propose_139 : decode cX5_propose 139 = .ok (.dup2, 1) := by decide +kernel
theorem dX5_propose_140 : decode cX5_propose 140 = .ok (.iaload, 1) := by decide +kernel
theorem dX5_propose_141 : decode cX5_propose 141 = .ok (.iconst 1, 1) := by decide +kernel
theorem dX5_propose_142 : decode cX5_propose 142 = .ok (.iadd, 1) := by decide +kernel
theorem dX5_propose_143 : decode cX5_propose 143 = .ok (.iastore, 1) := by decide +kernel
theorem dX5_propose_144 : decode cX5_propose 144 = .ok (.aload_n 0, 1) := by decide +kernel
theorem dX5_propose_145 : decode cX5_propose 145 = .ok (.invokevirtual 113, 3) := by decide +kernel
theorem dX5_propose_148 : decode cX5_propose 148 = .ok (.ifCond .ne 36, 3) := by decide +kernel
theorem dX5_propose_151 : decode cX5_propose 151 = .ok (.aload_n 0, 1) := by decide +kernel
theorem dX5_propose_152 : decode cX5_propose 152 = .ok (.invokevirtual 117, 3) := by decide +kernel
theorem dX5_propose_155 : decode cX5_propose 155 = .ok (.istore 8, 2) := by decide +kernel
theorem dX5_propose_157 : decode cX5_propose 157 = .ok (.iload 8, 2) := by decide +kernel
theorem dX5_propose_159 : decode cX5_propose 159 = .ok (.ifCond .ge 8, 3) := by decide +kernel
theorem dX5_propose_162 : decode cX5_propose 162 = .ok (.aload_n 0, 1) := by decide +kernel
theorem dX5_propose_163 : decode cX5_propose 163 = .ok (.invokevirtual 121, 3) := by decide +kernel
theorem dX5_propose_166 : decode cX5_propose 166 = .ok (.ireturn, 1) := by decide +kernel
theorem dX5_propose_167 : decode cX5_propose 167 = .ok (.aload_n 0, 1) := by decide +kernel
theorem dX5_propose_168 : decode cX5_propose 168 = .ok (.getfield 9, 3) := by decide +kernel
theorem dX5_propose_171 : decode cX5_propose 171 = .ok (.bipush 50, 2) := by decide +kernel
theorem dX5_propose_173 : decode cX5_propose 173 = .ok (.iload 8, 2) := by decide +kernel
theorem dX5_propose_175 : decode cX5_propose 175 = .ok (.iadd, 1) := by decide +kernel
theorem dX5_propose_176 : decode cX5_propose 176 = .ok (.dup2, 1) := by decide +kernel
theorem dX5_propose_177 : decode cX5_propose 177 = .ok (.iaload, 1) := by decide +kernel
theorem dX5_propose_178 : decode cX5_propose 178 = .ok (.iconst 1, 1) := by decide +kernel
theorem dX5_propose_179 : decode cX5_propose 179 = .ok (.iadd, 1) := by decide +kernel
theorem dX5_propose_180 : decode cX5_propose 180 = .ok (.iastore, 1) := by decide +kernel
theorem dX5_propose_181 : decode cX5_propose 181 = .ok (.goto (-37), 3) := by decide +kernel
theorem dX5_propose_184 : decode cX5_propose 184 = .ok (.aload_n 0, 1) := by decide +kernel
theorem dX5_propose_185 : decode cX5_propose 185 = .ok (.invokevirtual 124, 3) := by decide +kernel
theorem dX5_propose_188 : decode cX5_propose 188 = .ok (.iload 7, 2) := by decide +kernel
theorem dX5_propose_190 : decode cX5_propose 190 = .ok (.ireturn, 1) := by decide +kernel
theorem dX5_here_0 : decode cX5_here 0 = .ok (.aload_n 0, 1) := by decide +kernel
theorem dX5_here_1 : decode cX5_here 1 = .ok (.getfield 127, 3) := by decide +kernel
theorem dX5_here_4 : decode cX5_here 4 = .ok (.aload_n 0, 1) := by decide +kernel
theorem dX5_here_5 : decode cX5_here 5 = .ok (.getfield 130, 3) := by decide +kernel
theorem dX5_here_8 : decode cX5_here 8 = .ok (.if_icmp .ge 15, 3) := by decide +kernel
theorem dX5_here_11 : decode cX5_here 11 = .ok (.aload_n 0, 1) := by decide +kernel
theorem dX5_here_12 : decode cX5_here 12 = .ok (.getfield 22, 3) := by decide +kernel
theorem dX5_here_15 : decode cX5_here 15 = .ok (.aload_n 0, 1) := by decide +kernel
theorem dX5_here_16 : decode cX5_here 16 = .ok (.getfield 127, 3) := by decide +kernel
theorem dX5_here_19 : decode cX5_here 19 = .ok (.iaload, 1) := by decide +kernel
theorem dX5_here_20 : decode cX5_here 20 = .ok (.goto 4, 3) := by decide +kernel
theorem dX5_here_23 : decode cX5_here 23 = .ok (.iconst (-1), 1) := by decide +kernel
theorem dX5_here_24 : decode cX5_here 24 = .ok (.ireturn, 1) := by decide +kernel
set_option maxRecDepth 20000 in
theorem ggX5_readsNumber_X5_here : GoodIn wsX5_readsNumber wsX5_here := goodIn_r _ [7, 1, 8, 9, 13, 14, 15, 16, 17, 18, 19, 20, 21, 22, 23, 24, 25, 26, 27, 28, 29, 30, 31, 32, 33, 34, 35, 36, 37, 38, 39, 40, 41, 42, 43, 44] (by decide +kernel) (by decide +kernel)
set_option maxRecDepth 20000 in
theorem gX5_readsNumber_X5_here : GoodIn wsX5_readsNumber (wsV RX5 133 RX5 yX5_here wsX5_here) := goodIn_app (goodIn_of _ (by decide +kernel)) ggX5_readsNumber_X5_here
set_option maxRecDepth 20000 in
theorem ggX5_readsNumber_X5_in : GoodIn wsX5_readsNumber wsX5_in := goodIn_r _ [12] (by decide +kernel) (by decide +kernel)
set_option maxRecDepth 20000 in
theorem gX5_readsNumber_X5_in : GoodIn wsX5_readsNumber (va_wsS RX5 53 yX5_in wsX5_in) := goodIn_app (goodIn_of _ (by decide +kernel)) ggX5_readsNumber_X5_in
theorem dX5_readsNumber_0 : decode cX5_readsNumber 0 = .ok (.iconst 0, 1) := by decide +kernel
theorem dX5_readsNumber_1 : decode cX5_readsNumber 1 = .ok (.istore_n 2, 1) := by decide +kernel
theorem dX5_readsNumber_2 : decode cX5_readsNumber 2 = .ok (.iconst 0, 1) := by decide +kernel
theorem dX5_readsNumber_3 : decode cX5_readsNumber 3 = .ok (.istore_n 3, 1) := by decide +kernel
theorem dX5_readsNumber_4 : decode cX5_readsNumber 4 = .ok (.iload_n 3, 1) := by decide +kernel
theorem dX5_readsNumber_5 : decode cX5_readsNumber 5 = .ok (.iconst 2, 1) := by decide +kernel
theorem dX5_readsNumber_6 : decode cX5_readsNumber 6 = .ok (.if_icmp .ge 46, 3) := by decide +kernel
theorem dX5_readsNumber_9 : decode cX5_readsNumber 9 = .ok (.aload_n 0, 1) := by decide +kernel
theorem dX5_readsNumber_10 : decode cX5_readsNumber 10 = .ok (.invokevirtual 133, 3) := by decide +kernel
theorem dX5_readsNumber_13 : decode cX5_readsNumber 13 = .ok (.bipush 48, 2) := by decide +kernel
theorem dX5_readsNumber_15 : decode cX5_readsNumber 15 = .ok (.bipush 57, 2) := by decide +kernel
theorem dX5_readsNumber_17 : decode cX5_readsNumber 17 = .ok (.invokestatic 53, 3) := by decide +kernel
theorem dX5_readsNumber_20 : decode cX5_readsNumber 20 = .ok (.ifCond .eq 32, 3) := by decide +kernel
theorem dX5_readsNumber_23 : decode cX5_readsNumber 23 = .ok (.bipush 10, 2) := by decide +kernel
theorem dX5_readsNumber_25 : decode cX5_readsNumber 25 = .ok (.iload_n 2, 1) := by decide +kernel
theorem dX5_readsNumber_26 : decode cX5_readsNumber 26 = .ok (.imul, 1) := by decide +kernel
theorem dX5_readsNumber_27 : decode cX5_readsNumber 27 = .ok (.aload_n 0, 1) := by decide +kernel
theorem dX5_readsNumber_28 : decode cX5_readsNumber 28 = .ok (.invokevirtual 133, 3) := by decide +kernel
theorem dX5_readsNumber_31 : decode cX5_readsNumber 31 = .ok (.iadd, 1) := by decide +kernel
theorem dX5_readsNumber_32 : decode cX5_readsNumber 32 = .ok (.bipush 48, 2) := by decide +kernel
theorem dX5_readsNumber_34 : decode cX5_readsNumber 34 = .ok (.isub, 1) := by decide +kernel
theorem dX5_readsNumber_35 : decode cX5_readsNumber 35 = .ok (.istore_n 2, 1) := by decide +kernel
theorem dX5_readsNumber_36 : decode cX5_readsNumber 36 = .ok (.iinc 3 1, 3) := by decide +kernel
theorem dX5_readsNumber_39 : decode cX5_readsNumber 39 = .ok (.aload_n 0, 1) := by decide +kernel
theorem dX5_readsNumber_40 : decode cX5_readsNumber 40 = .ok (.dup, 1) := by decide +kernel
theorem dX5_readsNumber_41 : decode cX5_readsNumber 41 = .ok (.getfield 127, 3) := by decide +kernel
theorem dX5_readsNumber_44 : decode cX5_readsNumber 44 = .ok (.iconst 1, 1) := by decide +kernel
theorem dX5_readsNumber_45 : decode cX5_readsNumber 45 = .ok (.iadd, 1) := by decide +kernel
theorem dX5_readsNumber_46 : decode cX5_readsNumber 46 = .ok (.putfield 127, 3) := by decide +kernel
theorem dX5_readsNumber_49 : decode cX5_readsNumber 49 = .ok (.goto (-45), 3) := by decide +kernel
theorem dX5_readsNumber_52 : decode cX5_readsNumber 52 = .ok (.aload_n 0, 1) := by decide +kernel
theorem dX5_readsNumber_53 : decode cX5_readsNumber 53 = .ok (.getfield 32, 3) := by decide +kernel
theorem dX5_readsNumber_56 : decode cX5_readsNumber 56 = .ok (.iload_n 1, 1) := by decide +kernel
theorem dX5_readsNumber_57 : decode cX5_readsNumber 57 = .ok (.iload_n 2, 1) := by decide +kernel
theorem dX5_readsNumber_58 : decode cX5_readsNumber 58 = .ok (.iastore, 1) := by decide +kernel
theorem dX5_readsNumber_59 : decode cX5_readsNumber 59 = .ok (.iload_n 3, 1) := by decide +kernel
theorem dX5_readsNumber_60 : decode cX5_readsNumber 60 = .ok (.ifCond .le 7, 3) := by decide +kernel
theorem dX5_readsNumber_63 : decode cX5_readsNumber 63 = .ok (.iconst 1, 1) := by decide +kernel
theorem dX5_readsNumber_64 : decode cX5_readsNumber 64 = .ok (.goto 4, 3) := by decide +kernel
theorem dX5_readsNumber_67 : decode cX5_readsNumber 67 = .ok (.iconst 0, 1) := by decide +kernel
theorem dX5_readsNumber_68 : decode cX5_readsNumber 68 = .ok (.ireturn, 1) := by decide +kernel
set_option maxRecDepth 20000 in
theorem ggX5_proposeText_X5_readsNumber : GoodIn wsX5_proposeText wsX5_readsNumber := goodIn_r _ [10, 2, 5, 11, 12, 13, 9, 14, 3, 15, 16, 17, 18, 91, 92, 93, 94, 95, 96, 97, 98, 99, 100, 101, 102, 103, 104, 105, 106, 107, 108, 109, 110, 111, 112, 113, 114, 115, 116, 117, 118, 119, 120, 121, 122] (by decide +kernel) (by decide +kernel)
set_option maxRecDepth 20000 in
theorem gX5_proposeText_X5_readsNumber : GoodIn wsX5_proposeText (wsV RX5 136 RX5 yX5_readsNumber wsX5_readsNumber) := goodIn_app (goodIn_of _ (by decide +kernel)) ggX5_proposeText_X5_readsNumber
set_option maxRecDepth 20000 in
theorem ggX5_proposeText_X5_here : GoodIn wsX5_proposeText wsX5_here := goodIn_r _ [14, 2, 3, 15, 91, 92, 93, 94, 95, 96, 97, 98, 99, 100, 101, 102, 103, 104, 105, 106, 107, 108, 109, 110, 111, 112, 113, 114, 115, 116, 117, 118, 119, 120, 121, 122] (by decide +kernel) (by decide +kernel)
set_option maxRecDepth 20000 in
theorem gX5_proposeText_X5_here : GoodIn wsX5_proposeText (wsV RX5 133 RX5 yX5_here wsX5_here) := goodIn_app (goodIn_of _ (by decide +kernel)) ggX5_proposeText_X5_here
set_option maxRecDepth 20000 in
theorem ggX5_proposeText_X5_fails : GoodIn wsX5_proposeText wsX5_fails := goodIn_r _ [22, 1, 91, 92, 93, 94, 95, 96, 97, 98, 99, 100, 101, 102, 103, 104, 105, 106, 107, 108, 109, 110, 111, 112, 113, 114, 115, 116, 117, 118, 119, 120, 121, 122] (by decide +kernel) (by decide +kernel)
set_option maxRecDepth 20000 in
theorem gX5_proposeText_X5_fails : GoodIn wsX5_proposeText (wsV RX5 107 RX5 yX5_fails wsX5_fails) := goodIn_app (goodIn_of _ (by decide +kernel)) ggX5_proposeText_X5_fails
set_option maxRecDepth 20000 in
theorem ggX5_proposeText_X5_propose : GoodIn wsX5_proposeText wsX5_propose := goodIn_r _ [26, 1, 27, 28, 29, 9, 30, 16, 17, 18, 19, 20, 21, 22, 31, 32, 33, 34, 35, 36, 37, 38, 39, 40, 41, 42, 43, 44, 45, 46, 47, 48, 49, 50, 51, 52, 53, 54, 55, 56, 57, 58, 59, 60, 61, 62, 63, 64, 65, 66, 67, 68, 69, 70, 71, 72, 73, 74, 75, 76, 77, 78, 79, 80, 81, 82, 83, 84, 85, 86, 87, 88, 89, 90, 91, 92, 93, 94, 95, 96, 97, 98, 99, 100, 101, 102, 103, 104, 105, 106, 107, 108, 109, 110, 111, 112, 113, 114, 115, 116, 117, 118, 119, 120, 121, 122] (by decide +kernel) (by decide +kernel)
set_option maxRecDepth 20000 in
theorem gX5_proposeText_X5_propose : GoodIn wsX5_proposeText (wsV RX5 139 RX5 yX5_propose wsX5_propose) := goodIn_app (goodIn_of _ (by decide +kernel)) ggX5_proposeText_X5_propose
theorem dX5_proposeText_0 : decode cX5_proposeText 0 = .ok (.aload_n 0, 1) := by decide +kernel
theorem dX5_proposeText_1 : decode cX5_proposeText 1 = .ok (.iconst 0, 1) := by decide +kernel
theorem dX5_proposeText_2 : decode cX5_proposeText 2 = .ok (.putfield 50, 3) := by decide +kernel
theorem dX5_proposeText_5 : decode cX5_proposeText 5 = .ok (.aload_n 0, 1) := by decide +kernel
theorem dX5_proposeText_6 : decode cX5_proposeText 6 = .ok (.iconst 0, 1) := by decide +kernel
theorem dX5_proposeText_7 : decode cX5_proposeText 7 = .ok (.putfield 127, 3) := by decide +kernel
theorem dX5_proposeText_10 : decode cX5_proposeText 10 = .ok (.aload_n 0, 1) := by decide +kernel
theorem dX5_proposeText_11 : decode cX5_proposeText 11 = .ok (.iconst 0, 1) := by decide +kernel
theorem dX5_proposeText_12 : decode cX5_proposeText 12 = .ok (.invokevirtual 136, 3) := by decide +kernel
theorem dX5_proposeText_15 : decode cX5_proposeText 15 = .ok (.istore_n 1, 1) := by decide +kernel
theorem dX5_proposeText_16 : decode cX5_proposeText 16 = .ok (.iconst 1, 1) := by decide +kernel
theorem dX5_proposeText_17 : decode cX5_proposeText 17 = .ok (.istore_n 2, 1) := by decide +kernel
theorem dX5_proposeText_18 : decode cX5_proposeText 18 = .ok (.iload_n 2, 1) := by decide +kernel
theorem dX5_proposeText_19 : decode cX5_proposeText 19 = .ok (.bipush 6, 2) := by decide +kernel
theorem dX5_proposeText_21 : decode cX5_proposeText 21 = .ok (.if_icmp .ge 64, 3) := by decide +kernel
theorem dX5_proposeText_24 : decode cX5_proposeText 24 = .ok (.iload_n 1, 1) := by decide +kernel
theorem dX5_proposeText_25 : decode cX5_proposeText 25 = .ok (.ifCond .eq 60, 3) := by decide +kernel
theorem dX5_proposeText_28 : decode cX5_proposeText 28 = .ok (.aload_n 0, 1) := by decide +kernel
theorem dX5_proposeText_29 : decode cX5_proposeText 29 = .ok (.invokevirtual 133, 3) := by decide +kernel
theorem dX5_proposeText_32 : decode cX5_proposeText 32 = .ok (.bipush 44, 2) := by decide +kernel
theorem dX5_proposeText_34 : decode cX5_proposeText 34 = .ok (.if_icmp .ne 7, 3) := by decide +kernel
theorem dX5_proposeText_37 : decode cX5_proposeText 37 = .ok (.iconst 1, 1) := by decide +kernel
theorem dX5_proposeText_38 : decode cX5_proposeText 38 = .ok (.goto 4, 3) := by decide +kernel
theorem dX5_proposeText_41 : decode cX5_proposeText 41 = .ok (.iconst 0, 1) := by decide +kernel
theorem dX5_proposeText_42 : decode cX5_proposeText 42 = .ok (.istore_n 1, 1) := by decide +kernel
theorem dX5_proposeText_43 : decode cX5_proposeText 43 = .ok (.aload_n 0, 1) := by decide +kernel
theorem dX5_proposeText_44 : decode cX5_proposeText 44 = .ok (.dup, 1) := by decide +kernel
theorem dX5_proposeText_45 : decode cX5_proposeText 45 = .ok (.getfield 127, 3) := by decide +kernel
theorem dX5_proposeText_48 : decode cX5_proposeText 48 = .ok (.iload_n 1, 1) := by decide +kernel
theorem dX5_proposeText_49 : decode cX5_proposeText 49 = .ok (.ifCond .eq 7, 3) := by decide +kernel
theorem dX5_proposeText_52 : decode cX5_proposeText 52 = .ok (.iconst 1, 1) := by decide +kernel
theorem dX5_proposeText_53 : decode cX5_proposeText 53 = .ok (.goto 4, 3) := by decide +kernel
theorem dX5_proposeText_56 : decode cX5_proposeText 56 = .ok (.iconst 0, 1) := by decide +kernel
theorem dX5_proposeText_57 : decode cX5_proposeText 57 = .ok (.iadd, 1) := by decide +kernel
theorem dX5_proposeText_58 : decode cX5_proposeText 58 = .ok (.putfield 127, 3) := by decide +kernel
theorem dX5_proposeText_61 : decode cX5_proposeText 61 = .ok (.iload_n 1, 1) := by decide +kernel
theorem dX5_proposeText_62 : decode cX5_proposeText 62 = .ok (.ifCond .eq 15, 3) := by decide +kernel
theorem dX5_proposeText_65 : decode cX5_proposeText 65 = .ok (.aload_n 0, 1) := by decide +kernel
theorem dX5_proposeText_66 : decode cX5_proposeText 66 = .ok (.iload_n 2, 1) := by decide +kernel
theorem dX5_proposeText_67 : decode cX5_proposeText 67 = .ok (.invokevirtual 136, 3) := by decide +kernel
theorem dX5_proposeText_70 : decode cX5_proposeText 70 = .ok (.ifCond .eq 7, 3) := by decide +kernel
theorem dX5_proposeText_73 : decode cX5_proposeText 73 = .ok (.iconst 1, 1) := by decide +kernel
theorem dX5_proposeText_74 : decode cX5_proposeText 74 = .ok (.goto 4, 3) := by decide +kernel
theorem dX5_proposeText_77 : decode cX5_proposeText 77 = .ok (.iconst 0, 1) := by decide +kernel
theorem dX5_proposeText_78 : decode cX5_proposeText 78 = .ok (.istore_n 1, 1) := by decide +kernel
theorem dX5_proposeText_79 : decode cX5_proposeText 79 = .ok (.iinc 2 1, 3) := by decide +kernel
theorem dX5_proposeText_82 : decode cX5_proposeText 82 = .ok (.goto (-64), 3) := by decide +kernel
theorem dX5_proposeText_85 : decode cX5_proposeText 85 = .ok (.aload_n 0, 1) := by decide +kernel
theorem dX5_proposeText_86 : decode cX5_proposeText 86 = .ok (.iload_n 1, 1) := by decide +kernel
theorem dX5_proposeText_87 : decode cX5_proposeText 87 = .ok (.ifCond .eq 18, 3) := by decide +kernel
theorem dX5_proposeText_90 : decode cX5_proposeText 90 = .ok (.aload_n 0, 1) := by decide +kernel
theorem dX5_proposeText_91 : decode cX5_proposeText 91 = .ok (.getfield 127, 3) := by decide +kernel
theorem dX5_proposeText_94 : decode cX5_proposeText 94 = .ok (.aload_n 0, 1) := by decide +kernel
theorem dX5_proposeText_95 : decode cX5_proposeText 95 = .ok (.getfield 130, 3) := by decide +kernel
theorem dX5_proposeText_98 : decode cX5_proposeText 98 = .ok (.if_icmp .ne 7, 3) := by decide +kernel
theorem dX5_proposeText_101 : decode cX5_proposeText 101 = .ok (.iconst (-1), 1) := by decide +kernel
theorem dX5_proposeText_102 : decode cX5_proposeText 102 = .ok (.goto 7, 3) := by decide +kernel
theorem dX5_proposeText_105 : decode cX5_proposeText 105 = .ok (.aload_n 0, 1) := by decide +kernel
theorem dX5_proposeText_106 : decode cX5_proposeText 106 = .ok (.getfield 127, 3) := by decide +kernel
theorem dX5_proposeText_109 : decode cX5_proposeText 109 = .ok (.putfield 25, 3) := by decide +kernel
theorem dX5_proposeText_112 : decode cX5_proposeText 112 = .ok (.aload_n 0, 1) := by decide +kernel
theorem dX5_proposeText_113 : decode cX5_proposeText 113 = .ok (.iconst 0, 1) := by decide +kernel
theorem dX5_proposeText_114 : decode cX5_proposeText 114 = .ok (.putfield 130, 3) := by decide +kernel
theorem dX5_proposeText_117 : decode cX5_proposeText 117 = .ok (.aload_n 0, 1) := by decide +kernel
theorem dX5_proposeText_118 : decode cX5_proposeText 118 = .ok (.getfield 25, 3) := by decide +kernel
theorem dX5_proposeText_121 : decode cX5_proposeText 121 = .ok (.ifCond .lt 9, 3) := by decide +kernel
theorem dX5_proposeText_124 : decode cX5_proposeText 124 = .ok (.aload_n 0, 1) := by decide +kernel
theorem dX5_proposeText_125 : decode cX5_proposeText 125 = .ok (.iconst 1, 1) := by decide +kernel
theorem dX5_proposeText_126 : decode cX5_proposeText 126 = .ok (.invokevirtual 107, 3) := by decide +kernel
theorem dX5_proposeText_129 : decode cX5_proposeText 129 = .ok (.ireturn, 1) := by decide +kernel
theorem dX5_proposeText_130 : decode cX5_proposeText 130 = .ok (.aload_n 0, 1) := by decide +kernel
theorem dX5_proposeText_131 : decode cX5_proposeText 131 = .ok (.aload_n 0, 1) := by decide +kernel
theorem dX5_proposeText_132 : decode cX5_proposeText 132 = .ok (.getfield 32, 3) := by decide +kernel
theorem dX5_proposeText_135 : decode cX5_proposeText 135 = .ok (.iconst 0, 1) := by decide +kernel
theorem dX5_proposeText_136 : decode cX5_proposeText 136 = .ok (.iaload, 1) := by decide +kernel
theorem dX5_proposeText_137 : decode cX5_proposeText 137 = .ok (.aload_n 0, 1) := by decide +kernel
theorem dX5_proposeText_138 : decode cX5_proposeText 138 = .ok (.getfield 32, 3) := by decide +kernel
theorem dX5_proposeText_141 : decode cX5_proposeText 141 = .ok (.iconst 1, 1) := by decide +kernel
theorem dX5_proposeText_142 : decode cX5_proposeText 142 = .ok (.iaload, 1) := by decide +kernel
theorem dX5_proposeText_143 : decode cX5_proposeText 143 = .ok (.aload_n 0, 1) := by decide +kernel
theorem dX5_proposeText_144 : decode cX5_proposeText 144 = .ok (.getfield 32, 3) := by decide +kernel
theorem dX5_proposeText_147 : decode cX5_proposeText 147 = .ok (.iconst 2, 1) := by decide +kernel
theorem dX5_proposeText_148 : decode cX5_proposeText 148 = .ok (.iaload, 1) := by decide +kernel
theorem dX5_proposeText_149 : decode cX5_proposeText 149 = .ok (.aload_n 0, 1) := by decide +kernel
theorem dX5_proposeText_150 : decode cX5_proposeText 150 = .ok (.getfield 32, 3) := by decide +kernel
theorem dX5_proposeText_153 : decode cX5_proposeText 153 = .ok (.iconst 3, 1) := by decide +kernel
theorem dX5_proposeText_154 : decode cX5_proposeText 154 = .ok (.iaload, 1) := by decide +kernel
theorem dX5_proposeText_155 : decode cX5_proposeText 155 = .ok (.aload_n 0, 1) := by decide +kernel
theorem dX5_proposeText_156 : decode cX5_proposeText 156 = .ok (.getfield 32, 3) := by decide +kernel
theorem dX5_proposeText_159 : decode cX5_proposeText 159 = .ok (.iconst 4, 1) := by decide +kernel
theorem dX5_proposeText_160 : decode cX5_proposeText 160 = .ok (.iaload, 1) := by decide +kernel
theorem dX5_proposeText_161 : decode cX5_proposeText 161 = .ok (.aload_n 0, 1) := by decide +kernel
theorem dX5_proposeText_162 : decode cX5_proposeText 162 = .ok (.getfield 32, 3) := by decide +kernel
theorem dX5_proposeText_165 : decode cX5_proposeText 165 = .ok (.iconst 5, 1) := by decide +kernel
theorem dX5_proposeText_166 : decode cX5_proposeText 166 = .ok (.iaload, 1) := by decide +kernel
theorem dX5_proposeText_167 : decode cX5_proposeText 167 = .ok (.invokevirtual 139, 3) := by decide +kernel
theorem dX5_proposeText_170 : decode cX5_proposeText 170 = .ok (.ireturn, 1) := by decide +kernel
set_option maxRecDepth 20000 in
theorem ggX5_appendCharacter_X5_in : GoodIn wsX5_appendCharacter wsX5_in := goodIn_r _ [7] (by decide +kernel) (by decide +kernel)
set_option maxRecDepth 20000 in
theorem gX5_appendCharacter_X5_in : GoodIn wsX5_appendCharacter (va_wsS RX5 53 yX5_in wsX5_in) := goodIn_app (goodIn_of _ (by decide +kernel)) ggX5_appendCharacter_X5_in
set_option maxRecDepth 20000 in
theorem ggX5_appendCharacter_X5_fails : GoodIn wsX5_appendCharacter wsX5_fails := goodIn_r _ [11, 1, 12, 13, 14, 15, 16, 17, 18, 19, 20, 21, 22, 23, 24, 25, 26, 27, 28, 29, 30, 31, 32, 33, 34, 35, 36, 37, 38, 39, 40, 41, 42, 43] (by decide +kernel) (by decide +kernel)
set_option maxRecDepth 20000 in
theorem gX5_appendCharacter_X5_fails : GoodIn wsX5_appendCharacter (wsV RX5 107 RX5 yX5_fails wsX5_fails) := goodIn_app (goodIn_of _ (by decide +kernel)) ggX5_appendCharacter_X5_fails
theorem dX5_appendCharacter_0 : decode cX5_appendCharacter 0 = .ok (.aload_n 0, 1) := by decide +kernel
theorem dX5_appendCharacter_1 : decode cX5_appendCharacter 1 = .ok (.iconst 0, 1) := by decide +kernel
theorem dX5_appendCharacter_2 : decode cX5_appendCharacter 2 = .ok (.putfield 50, 3) := by decide +kernel
theorem dX5_appendCharacter_5 : decode cX5_appendCharacter 5 = .ok (.iload_n 1, 1) := by decide +kernel
theorem dX5_appendCharacter_6 : decode cX5_appendCharacter 6 = .ok (.bipush 33, 2) := by decide +kernel
theorem dX5_appendCharacter_8 : decode cX5_appendCharacter 8 = .ok (.bipush 126, 2) := by decide +kernel
theorem dX5_appendCharacter_10 : decode cX5_appendCharacter 10 = .ok (.invokestatic 53, 3) := by decide +kernel
theorem dX5_appendCharacter_13 : decode cX5_appendCharacter 13 = .ok (.ifCond .ne 9, 3) := by decide +kernel
theorem dX5_appendCharacter_16 : decode cX5_appendCharacter 16 = .ok (.aload_n 0, 1) := by decide +kernel
theorem dX5_appendCharacter_17 : decode cX5_appendCharacter 17 = .ok (.iconst 1, 1) := by decide +kernel
theorem dX5_appendCharacter_18 : decode cX5_appendCharacter 18 = .ok (.invokevirtual 107, 3) := by decide +kernel
theorem dX5_appendCharacter_21 : decode cX5_appendCharacter 21 = .ok (.ireturn, 1) := by decide +kernel
theorem dX5_appendCharacter_22 : decode cX5_appendCharacter 22 = .ok (.aload_n 0, 1) := by decide +kernel
theorem dX5_appendCharacter_23 : decode cX5_appendCharacter 23 = .ok (.getfield 130, 3) := by decide +kernel
theorem dX5_appendCharacter_26 : decode cX5_appendCharacter 26 = .ok (.bipush 30, 2) := by decide +kernel
theorem dX5_appendCharacter_28 : decode cX5_appendCharacter 28 = .ok (.if_icmp .ne 9, 3) := by decide +kernel
theorem dX5_appendCharacter_31 : decode cX5_appendCharacter 31 = .ok (.aload_n 0, 1) := by decide +kernel
theorem dX5_appendCharacter_32 : decode cX5_appendCharacter 32 = .ok (.iconst 2, 1) := by decide +kernel
theorem dX5_appendCharacter_33 : decode cX5_appendCharacter 33 = .ok (.invokevirtual 107, 3) := by decide +kernel
theorem dX5_appendCharacter_36 : decode cX5_appendCharacter 36 = .ok (.ireturn, 1) := by decide +kernel
theorem dX5_appendCharacter_37 : decode cX5_appendCharacter 37 = .ok (.aload_n 0, 1) := by decide +kernel
theorem dX5_appendCharacter_38 : decode cX5_appendCharacter 38 = .ok (.getfield 22, 3) := by decide +kernel
theorem dX5_appendCharacter_41 : decode cX5_appendCharacter 41 = .ok (.aload_n 0, 1) := by decide +kernel
theorem dX5_appendCharacter_42 : decode cX5_appendCharacter 42 = .ok (.getfield 130, 3) := by decide +kernel
theorem dX5_appendCharacter_45 : decode cX5_appendCharacter 45 = .ok (.iload_n 1, 1) := by decide +kernel
theorem dX5_appendCharacter_46 : decode cX5_appendCharacter 46 = .ok (.iastore, 1) := by decide +kernel
theorem dX5_appendCharacter_47 : decode cX5_appendCharacter 47 = .ok (.aload_n 0, 1) := by decide +kernel
theorem dX5_appendCharacter_48 : decode cX5_appendCharacter 48 = .ok (.dup, 1) := by decide +kernel
theorem dX5_appendCharacter_49 : decode cX5_appendCharacter 49 = .ok (.getfield 130, 3) := by decide +kernel
theorem dX5_appendCharacter_52 : decode cX5_appendCharacter 52 = .ok (.iconst 1, 1) := by decide +kernel
theorem dX5_appendCharacter_53 : decode cX5_appendCharacter 53 = .ok (.iadd, 1) := by decide +kernel
theorem dX5_appendCharacter_54 : decode cX5_appendCharacter 54 = .ok (.putfield 130, 3) := by decide +kernel
theorem dX5_appendCharacter_57 : decode cX5_appendCharacter 57 = .ok (.aload_n 0, 1) := by decide +kernel
theorem dX5_appendCharacter_58 : decode cX5_appendCharacter 58 = .ok (.getfield 130, 3) := by decide +kernel
theorem dX5_appendCharacter_61 : decode cX5_appendCharacter 61 = .ok (.ireturn, 1) := by decide +kernel
theorem dX5_faultPosition_0 : decode cX5_faultPosition 0 = .ok (.aload_n 0, 1) := by decide +kernel
theorem dX5_faultPosition_1 : decode cX5_faultPosition 1 = .ok (.iconst 0, 1) := by decide +kernel
theorem dX5_faultPosition_2 : decode cX5_faultPosition 2 = .ok (.putfield 50, 3) := by decide +kernel
theorem dX5_faultPosition_5 : decode cX5_faultPosition 5 = .ok (.aload_n 0, 1) := by decide +kernel
theorem dX5_faultPosition_6 : decode cX5_faultPosition 6 = .ok (.getfield 25, 3) := by decide +kernel
theorem dX5_faultPosition_9 : decode cX5_faultPosition 9 = .ok (.ireturn, 1) := by decide +kernel
set_option maxRecDepth 20000 in
theorem ggX5_withdraw_X5_isTask : GoodIn wsX5_withdraw wsX5_isTask := goodIn_r _ [7, 2, 8, 9, 6, 10, 59, 60, 61, 62, 63, 64, 65, 66, 67, 68, 69, 70, 71, 72, 73, 74, 75, 76, 77, 78, 79, 80, 81, 82, 83, 84, 85, 86, 87, 88, 89, 90] (by decide +kernel) (by decide +kernel)
set_option maxRecDepth 20000 in
theorem gX5_withdraw_X5_isTask : GoodIn wsX5_withdraw (wsV RX5 143 RX5 yX5_isTask wsX5_isTask) := goodIn_app (goodIn_of _ (by decide +kernel)) ggX5_withdraw_X5_isTask
set_option maxRecDepth 20000 in
theorem ggX5_withdraw_X5_fails : GoodIn wsX5_withdraw wsX5_fails := goodIn_r _ [14, 1, 59, 60, 61, 62, 63, 64, 65, 66, 67, 68, 69, 70, 71, 72, 73, 74, 75, 76, 77, 78, 79, 80, 81, 82, 83, 84, 85, 86, 87, 88, 89, 90] (by decide +kernel) (by decide +kernel)
set_option maxRecDepth 20000 in
theorem gX5_withdraw_X5_fails : GoodIn wsX5_withdraw (wsV RX5 107 RX5 yX5_fails wsX5_fails) := goodIn_app (goodIn_of _ (by decide +kernel)) ggX5_withdraw_X5_fails
set_option maxRecDepth 20000 in
theorem ggX5_withdraw_X5_keeps : GoodIn wsX5_withdraw wsX5_keeps := goodIn_r _ [18, 19, 2, 59, 60, 61, 62, 63, 64, 65, 66, 67, 68, 69, 70, 71, 72, 73, 74, 75, 76, 77, 78, 79, 80, 81, 82, 83, 84, 85, 86, 87, 88, 89, 90] (by decide +kernel) (by decide +kernel)
set_option maxRecDepth 20000 in
theorem gX5_withdraw_X5_keeps : GoodIn wsX5_withdraw (wsV RX5 110 RX5 yX5_keeps wsX5_keeps) := goodIn_app (goodIn_of _ (by decide +kernel)) ggX5_withdraw_X5_keeps
set_option maxRecDepth 20000 in
theorem ggX5_withdraw_X5_scales : GoodIn wsX5_withdraw wsX5_scales := goodIn_r _ [23, 2, 24, 25, 26, 6, 27, 28, 29, 30, 31, 32, 33, 34, 35, 36, 37, 38, 39, 40, 41, 42, 43, 44, 45, 46, 47, 48, 49, 50, 51, 8, 9, 10, 59, 60, 61, 62, 63, 64, 65, 66, 67, 68, 69, 70, 71, 72, 73, 74, 75, 76, 77, 78, 79, 80, 81, 82, 83, 84, 85, 86, 87, 88, 89, 90] (by decide +kernel) (by decide +kernel)
set_option maxRecDepth 20000 in
theorem gX5_withdraw_X5_scales : GoodIn wsX5_withdraw (wsV RX5 113 RX5 yX5_scales wsX5_scales) := goodIn_app (goodIn_of _ (by decide +kernel)) ggX5_withdraw_X5_scales
set_option maxRecDepth 20000 in
theorem ggX5_withdraw_X5_records : GoodIn wsX5_withdraw wsX5_records := goodIn_r _ [55, 56, 57, 19, 58, 59, 60, 61, 62, 63, 64, 65, 66, 67, 68, 69, 70, 71, 72, 73, 74, 75, 76, 77, 78, 79, 80, 81, 82, 83, 84, 85, 86, 87, 88, 89, 90] (by decide +kernel) (by decide +kernel)
set_option maxRecDepth 20000 in
theorem gX5_withdraw_X5_records : GoodIn wsX5_withdraw (wsV RX5 124 RX5 yX5_records wsX5_records) := goodIn_app (goodIn_of _ (by decide +kernel)) ggX5_withdraw_X5_records
theorem dX5_withdraw_0 : decode cX5_withdraw 0 = .ok (.aload_n 0, 1) := by decide +kernel
theorem dX5_withdraw_1 : decode cX5_withdraw 1 = .ok (.iconst 0, 1) := by decide +kernel
theorem dX5_withdraw_2 : decode cX5_withdraw 2 = .ok (.putfield 50, 3) := by decide +kernel
theorem dX5_withdraw_5 : decode cX5_withdraw 5 = .ok (.aload_n 0, 1) := by decide +kernel
theorem dX5_withdraw_6 : decode cX5_withdraw 6 = .ok (.iload_n 1, 1) := by decide +kernel
theorem dX5_withdraw_7 : decode cX5_withdraw 7 = .ok (.invokevirtual 143, 3) := by decide +kernel
theorem dX5_withdraw_10 : decode cX5_withdraw 10 = .ok (.ifCond .ne 9, 3) := by decide +kernel
theorem dX5_withdraw_13 : decode cX5_withdraw 13 = .ok (.aload_n 0, 1) := by decide +kernel
theorem dX5_withdraw_14 : decode cX5_withdraw 14 = .ok (.iconst 1, 1) := by decide +kernel
theorem dX5_withdraw_15 : decode cX5_withdraw 15 = .ok (.invokevirtual 107, 3) := by decide +kernel
theorem dX5_withdraw_18 : decode cX5_withdraw 18 = .ok (.ireturn, 1) := by decide +kernel
theorem dX5_withdraw_19 : decode cX5_withdraw 19 = .ok (.aload_n 0, 1) := by decide +kernel
theorem dX5_withdraw_20 : decode cX5_withdraw 20 = .ok (.invokevirtual 110, 3) := by decide +kernel
theorem dX5_withdraw_23 : decode cX5_withdraw 23 = .ok (.iconst 2, 1) := by decide +kernel
theorem dX5_withdraw_24 : decode cX5_withdraw 24 = .ok (.istore_n 2, 1) := by decide +kernel
theorem dX5_withdraw_25 : decode cX5_withdraw 25 = .ok (.iload_n 2, 1) := by decide +kernel
theorem dX5_withdraw_26 : decode cX5_withdraw 26 = .ok (.bipush 58, 2) := by decide +kernel
theorem dX5_withdraw_28 : decode cX5_withdraw 28 = .ok (.if_icmp .ge 41, 3) := by decide +kernel
theorem dX5_withdraw_31 : decode cX5_withdraw 31 = .ok (.iload_n 1, 1) := by decide +kernel
theorem dX5_withdraw_32 : decode cX5_withdraw 32 = .ok (.istore_n 3, 1) := by decide +kernel
theorem dX5_withdraw_33 : decode cX5_withdraw 33 = .ok (.iload_n 3, 1) := by decide +kernel
theorem dX5_withdraw_34 : decode cX5_withdraw 34 = .ok (.bipush 7, 2) := by decide +kernel
theorem dX5_withdraw_36 : decode cX5_withdraw 36 = .ok (.if_icmp .ge 27, 3) := by decide +kernel
theorem dX5_withdraw_39 : decode cX5_withdraw 39 = .ok (.aload_n 0, 1) := by decide +kernel
theorem dX5_withdraw_40 : decode cX5_withdraw 40 = .ok (.getfield 9, 3) := by decide +kernel
theorem dX5_withdraw_43 : decode cX5_withdraw 43 = .ok (.iload_n 2, 1) := by decide +kernel
theorem dX5_withdraw_44 : decode cX5_withdraw 44 = .ok (.iload_n 3, 1) := by decide +kernel
theorem dX5_withdraw_45 : decode cX5_withdraw 45 = .ok (.iadd, 1) := by decide +kernel
theorem dX5_withdraw_46 : decode cX5_withdraw 46 = .ok (.aload_n 0, 1) := by decide +kernel
theorem dX5_withdraw_47 : decode cX5_withdraw 47 = .ok (.getfield 9, 3) := by decide +kernel
theorem dX5_withdraw_50 : decode cX5_withdraw 50 = .ok (.iload_n 2, 1) := by decide +kernel
theorem dX5_withdraw_51 : decode cX5_withdraw 51 = .ok (.iload_n 3, 1) := by decide +kernel
theorem dX5_withdraw_52 : decode cX5_withdraw 52 = .ok (.iadd, 1) := by decide +kernel
theorem dX5_withdraw_53 : decode cX5_withdraw 53 = .ok (.iconst 1, 1) := by decide +kernel
theorem dX5_withdraw_54 : decode cX5_withdraw 54 = .ok (.iadd, 1) := by decide +kernel
theorem dX5_withdraw_55 : decode cX5_withdraw 55 = .ok (.iaload, 1) := by decide +kernel
theorem dX5_withdraw_56 : decode cX5_withdraw 56 = .ok (.iastore, 1) := by decide +kernel
theorem dX5_withdraw_57 : decode cX5_withdraw 57 = .ok (.iinc 3 1, 3) := by decide +kernel
theorem dX5_withdraw_60 : decode cX5_withdraw 60 = .ok (.goto (-27), 3) := by decide +kernel
theorem dX5_withdraw_63 : decode cX5_withdraw 63 = .ok (.iinc 2 8, 3) := by decide +kernel
theorem dX5_withdraw_66 : decode cX5_withdraw 66 = .ok (.goto (-41), 3) := by decide +kernel
theorem dX5_withdraw_69 : decode cX5_withdraw 69 = .ok (.aload_n 0, 1) := by decide +kernel
theorem dX5_withdraw_70 : decode cX5_withdraw 70 = .ok (.getfield 9, 3) := by decide +kernel
theorem dX5_withdraw_73 : decode cX5_withdraw 73 = .ok (.iconst 0, 1) := by decide +kernel
theorem dX5_withdraw_74 : decode cX5_withdraw 74 = .ok (.dup2, 1) := by decide +kernel
theorem dX5_withdraw_75 : decode cX5_withdraw 75 = .ok (.iaload, 1) := by decide +kernel
theorem dX5_withdraw_76 : decode cX5_withdraw 76 = .ok (.iconst 1, 1) := by decide +kernel
theorem dX5_withdraw_77 : decode cX5_withdraw 77 = .ok (.isub, 1) := by decide +kernel
theorem dX5_withdraw_78 : decode cX5_withdraw 78 = .ok (.iastore, 1) := by decide +kernel
theorem dX5_withdraw_79 : decode cX5_withdraw 79 = .ok (.aload_n 0, 1) := by decide +kernel
theorem dX5_withdraw_80 : decode cX5_withdraw 80 = .ok (.invokevirtual 113, 3) := by decide +kernel
theorem dX5_withdraw_83 : decode cX5_withdraw 83 = .ok (.istore_n 2, 1) := by decide +kernel
theorem dX5_withdraw_84 : decode cX5_withdraw 84 = .ok (.aload_n 0, 1) := by decide +kernel
theorem dX5_withdraw_85 : decode cX5_withdraw 85 = .ok (.invokevirtual 124, 3) := by decide +kernel
theorem dX5_withdraw_88 : decode cX5_withdraw 88 = .ok (.aload_n 0, 1) := by decide +kernel
theorem dX5_withdraw_89 : decode cX5_withdraw 89 = .ok (.getfield 9, 3) := by decide +kernel
theorem dX5_withdraw_92 : decode cX5_withdraw 92 = .ok (.iconst 0, 1) := by decide +kernel
theorem dX5_withdraw_93 : decode cX5_withdraw 93 = .ok (.iaload, 1) := by decide +kernel
theorem dX5_withdraw_94 : decode cX5_withdraw 94 = .ok (.ireturn, 1) := by decide +kernel
set_option maxRecDepth 20000 in
theorem ggX5_upgrade_X5_keeps : GoodIn wsX5_upgrade wsX5_keeps := goodIn_r _ [7, 8, 2, 51, 52, 53, 54, 55, 56, 57, 58, 59, 60, 61, 62, 63, 64, 65, 66, 67, 68, 69, 70, 71, 72, 73, 74, 75, 76, 77, 78, 79, 80, 81, 82] (by decide +kernel) (by decide +kernel)
set_option maxRecDepth 20000 in
theorem gX5_upgrade_X5_keeps : GoodIn wsX5_upgrade (wsV RX5 110 RX5 yX5_keeps wsX5_keeps) := goodIn_app (goodIn_of _ (by decide +kernel)) ggX5_upgrade_X5_keeps
set_option maxRecDepth 20000 in
theorem ggX5_upgrade_X5_scales : GoodIn wsX5_upgrade wsX5_scales := goodIn_r _ [12, 2, 13, 14, 15, 6, 16, 17, 18, 19, 20, 21, 22, 23, 24, 25, 26, 27, 28, 29, 30, 31, 32, 33, 34, 35, 36, 37, 38, 39, 40, 41, 42, 43, 51, 52, 53, 54, 55, 56, 57, 58, 59, 60, 61, 62, 63, 64, 65, 66, 67, 68, 69, 70, 71, 72, 73, 74, 75, 76, 77, 78, 79, 80, 81, 82] (by decide +kernel) (by decide +kernel)
set_option maxRecDepth 20000 in
theorem gX5_upgrade_X5_scales : GoodIn wsX5_upgrade (wsV RX5 113 RX5 yX5_scales wsX5_scales) := goodIn_app (goodIn_of _ (by decide +kernel)) ggX5_upgrade_X5_scales
set_option maxRecDepth 20000 in
theorem ggX5_upgrade_X5_records : GoodIn wsX5_upgrade wsX5_records := goodIn_r _ [47, 48, 49, 8, 50, 51, 52, 53, 54, 55, 56, 57, 58, 59, 60, 61, 62, 63, 64, 65, 66, 67, 68, 69, 70, 71, 72, 73, 74, 75, 76, 77, 78, 79, 80, 81, 82] (by decide +kernel) (by decide +kernel)
set_option maxRecDepth 20000 in
theorem gX5_upgrade_X5_records : GoodIn wsX5_upgrade (wsV RX5 124 RX5 yX5_records wsX5_records) := goodIn_app (goodIn_of _ (by decide +kernel)) ggX5_upgrade_X5_records
theorem dX5_upgrade_0 : decode cX5_upgrade 0 = .ok (.aload_n 0, 1) := by decide +kernel
theorem dX5_upgrade_1 : decode cX5_upgrade 1 = .ok (.iconst 0, 1) := by decide +kernel
theorem dX5_upgrade_2 : decode cX5_upgrade 2 = .ok (.putfield 50, 3) := by decide +kernel
theorem dX5_upgrade_5 : decode cX5_upgrade 5 = .ok (.aload_n 0, 1) := by decide +kernel
theorem dX5_upgrade_6 : decode cX5_upgrade 6 = .ok (.invokevirtual 110, 3) := by decide +kernel
theorem dX5_upgrade_9 : decode cX5_upgrade 9 = .ok (.iconst 0, 1) := by decide +kernel
theorem dX5_upgrade_10 : decode cX5_upgrade 10 = .ok (.istore_n 1, 1) := by decide +kernel
theorem dX5_upgrade_11 : decode cX5_upgrade 11 = .ok (.bipush 9, 2) := by decide +kernel
theorem dX5_upgrade_13 : decode cX5_upgrade 13 = .ok (.istore_n 2, 1) := by decide +kernel
theorem dX5_upgrade_14 : decode cX5_upgrade 14 = .ok (.iload_n 2, 1) := by decide +kernel
theorem dX5_upgrade_15 : decode cX5_upgrade 15 = .ok (.ifCond .lt 121, 3) := by decide +kernel
theorem dX5_upgrade_18 : decode cX5_upgrade 18 = .ok (.iconst 0, 1) := by decide +kernel
theorem dX5_upgrade_19 : decode cX5_upgrade 19 = .ok (.istore_n 3, 1) := by decide +kernel
theorem dX5_upgrade_20 : decode cX5_upgrade 20 = .ok (.iload_n 3, 1) := by decide +kernel
theorem dX5_upgrade_21 : decode cX5_upgrade 21 = .ok (.aload_n 0, 1) := by decide +kernel
theorem dX5_upgrade_22 : decode cX5_upgrade 22 = .ok (.getfield 9, 3) := by decide +kernel
theorem dX5_upgrade_25 : decode cX5_upgrade 25 = .ok (.iconst 0, 1) := by decide +kernel
theorem dX5_upgrade_26 : decode cX5_upgrade 26 = .ok (.iaload, 1) := by decide +kernel
theorem dX5_upgrade_27 : decode cX5_upgrade 27 = .ok (.if_icmp .ge 103, 3) := by decide +kernel
theorem dX5_upgrade_30 : decode cX5_upgrade 30 = .ok (.aload_n 0, 1) := by decide +kernel
theorem dX5_upgrade_31 : decode cX5_upgrade 31 = .ok (.getfield 9, 3) := by decide +kernel
theorem dX5_upgrade_34 : decode cX5_upgrade 34 = .ok (.bipush 34, 2) := by decide +kernel
theorem dX5_upgrade_36 : decode cX5_upgrade 36 = .ok (.iload_n 3, 1) := by decide +kernel
theorem dX5_upgrade_37 : decode cX5_upgrade 37 = .ok (.iadd, 1) := by decide +kernel
theorem dX5_upgrade_38 : decode cX5_upgrade 38 = .ok (.iaload, 1) := by decide +kernel
theorem dX5_upgrade_39 : decode cX5_upgrade 39 = .ok (.iload_n 2, 1) := by decide +kernel
theorem dX5_upgrade_40 : decode cX5_upgrade 40 = .ok (.if_icmp .ne 7, 3) := by decide +kernel
theorem dX5_upgrade_43 : decode cX5_upgrade 43 = .ok (.iconst 1, 1) := by decide +kernel
theorem dX5_upgrade_44 : decode cX5_upgrade 44 = .ok (.goto 4, 3) := by decide +kernel
theorem dX5_upgrade_47 : decode cX5_upgrade 47 = .ok (.iconst 0, 1) := by decide +kernel
theorem dX5_upgrade_48 : decode cX5_upgrade 48 = .ok (.istore 4, 2) := by decide +kernel
theorem dX5_upgrade_50 : decode cX5_upgrade 50 = .ok (.iload 4, 2) := by decide +kernel
theorem dX5_upgrade_52 : decode cX5_upgrade 52 = .ok (.ifCond .eq 72, 3) := by decide +kernel
theorem dX5_upgrade_55 : decode cX5_upgrade 55 = .ok (.aload_n 0, 1) := by decide +kernel
theorem dX5_upgrade_56 : decode cX5_upgrade 56 = .ok (.getfield 9, 3) := by decide +kernel
theorem dX5_upgrade_59 : decode cX5_upgrade 59 = .ok (.bipush 50, 2) := by decide +kernel
theorem dX5_upgrade_61 : decode cX5_upgrade 61 = .ok (.iload_n 3, 1) := by decide +kernel
theorem dX5_upgrade_62 : decode cX5_upgrade 62 = .ok (.iadd, 1) := by decide +kernel
theorem dX5_upgrade_63 : decode cX5_upgrade 63 = .ok (.iaload, 1) := by decide +kernel
theorem dX5_upgrade_64 : decode cX5_upgrade 64 = .ok (.ifCond .le 60, 3) := by decide +kernel
theorem dX5_upgrade_67 : decode cX5_upgrade 67 = .ok (.aload_n 0, 1) := by decide +kernel
theorem dX5_upgrade_68 : decode cX5_upgrade 68 = .ok (.getfield 9, 3) := by decide +kernel
theorem dX5_upgrade_71 : decode cX5_upgrade 71 = .ok (.bipush 50, 2) := by decide +kernel
theorem dX5_upgrade_73 : decode cX5_upgrade 73 = .ok (.iload_n 3, 1) := by decide +kernel
theorem dX5_upgrade_74 : decode cX5_upgrade 74 = .ok (.iadd, 1) := by decide +kernel
theorem dX5_upgrade_75 : decode cX5_upgrade 75 = .ok (.dup2, 1) := by decide +kernel
theorem dX5_upgrade_76 : decode cX5_upgrade 76 = .ok (.iaload, 1) := by decide +kernel
theorem dX5_upgrade_77 : decode cX5_upgrade 77 = .ok (.iconst 1, 1) := by decide +kernel
theorem dX5_upgrade_78 : decode cX5_upgrade 78 = .ok (.isub, 1) := by decide +kernel
theorem dX5_upgrade_79 : decode cX5_upgrade 79 = .ok (.iastore, 1) := by decide +kernel
theorem dX5_upgrade_80 : decode cX5_upgrade 80 = .ok (.aload_n 0, 1) := by decide +kernel
theorem dX5_upgrade_81 : decode cX5_upgrade 81 = .ok (.invokevirtual 113, 3) := by decide +kernel
theorem dX5_upgrade_84 : decode cX5_upgrade 84 = .ok (.istore 4, 2) := by decide +kernel
theorem dX5_upgrade_86 : decode cX5_upgrade 86 = .ok (.aload_n 0, 1) := by decide +kernel
theorem dX5_upgrade_87 : decode cX5_upgrade 87 = .ok (.getfield 9, 3) := by decide +kernel
theorem dX5_upgrade_90 : decode cX5_upgrade 90 = .ok (.bipush 50, 2) := by decide +kernel
theorem dX5_upgrade_92 : decode cX5_upgrade 92 = .ok (.iload_n 3, 1) := by decide +kernel
theorem dX5_upgrade_93 : decode cX5_upgrade 93 = .ok (.iadd, 1) := by decide +kernel
theorem dX5_upgrade_94 : decode cX5_upgrade 94 = .ok (.dup2, 1) := by decide +kernel
theorem dX5_upgrade_95 : decode cX5_upgrade 95 = .ok (.iaload, 1) := by decide +kernel
theorem dX5_upgrade_96 : decode cX5_upgrade 96 = .ok (.iload 4, 2) := by decide +kernel
theorem dX5_upgrade_98 : decode cX5_upgrade 98 = .ok (.ifCond .eq 7, 3) := by decide +kernel
theorem dX5_upgrade_101 : decode cX5_upgrade 101 = .ok (.iconst 0, 1) := by decide +kernel
theorem dX5_upgrade_102 : decode cX5_upgrade 102 = .ok (.goto 4, 3) := by decide +kernel
theorem dX5_upgrade_105 : decode cX5_upgrade 105 = .ok (.iconst 1, 1) := by decide +kernel
theorem dX5_upgrade_106 : decode cX5_upgrade 106 = .ok (.iadd, 1) := by decide +kernel
theorem dX5_upgrade_107 : decode cX5_upgrade 107 = .ok (.iastore, 1) := by decide +kernel
theorem dX5_upgrade_108 : decode cX5_upgrade 108 = .ok (.iload_n 1, 1) := by decide +kernel
theorem dX5_upgrade_109 : decode cX5_upgrade 109 = .ok (.iload 4, 2) := by decide +kernel
theorem dX5_upgrade_111 : decode cX5_upgrade 111 = .ok (.ifCond .eq 7, 3) := by decide +kernel
theorem dX5_upgrade_114 : decode cX5_upgrade 114 = .ok (.iconst 1, 1) := by decide +kernel
theorem dX5_upgrade_115 : decode cX5_upgrade 115 = .ok (.goto 4, 3) := by decide +kernel
theorem dX5_upgrade_118 : decode cX5_upgrade 118 = .ok (.iconst 0, 1) := by decide +kernel
theorem dX5_upgrade_119 : decode cX5_upgrade 119 = .ok (.iadd, 1) := by decide +kernel
theorem dX5_upgrade_120 : decode cX5_upgrade 120 = .ok (.istore_n 1, 1) := by decide +kernel
theorem dX5_upgrade_121 : decode cX5_upgrade 121 = .ok (.goto (-71), 3) := by decide +kernel
theorem dX5_upgrade_124 : decode cX5_upgrade 124 = .ok (.iinc 3 1, 3) := by decide +kernel
theorem dX5_upgrade_127 : decode cX5_upgrade 127 = .ok (.goto (-107), 3) := by decide +kernel
theorem dX5_upgrade_130 : decode cX5_upgrade 130 = .ok (.iinc 2 (-1), 3) := by decide +kernel
theorem dX5_upgrade_133 : decode cX5_upgrade 133 = .ok (.goto (-119), 3) := by decide +kernel
theorem dX5_upgrade_136 : decode cX5_upgrade 136 = .ok (.aload_n 0, 1) := by decide +kernel
theorem dX5_upgrade_137 : decode cX5_upgrade 137 = .ok (.invokevirtual 113, 3) := by decide +kernel
theorem dX5_upgrade_140 : decode cX5_upgrade 140 = .ok (.istore_n 2, 1) := by decide +kernel
theorem dX5_upgrade_141 : decode cX5_upgrade 141 = .ok (.aload_n 0, 1) := by decide +kernel
theorem dX5_upgrade_142 : decode cX5_upgrade 142 = .ok (.invokevirtual 124, 3) := by decide +kernel
theorem dX5_upgrade_145 : decode cX5_upgrade 145 = .ok (.iload_n 1, 1) := by decide +kernel
theorem dX5_upgrade_146 : decode cX5_upgrade 146 = .ok (.ireturn, 1) := by decide +kernel
set_option maxRecDepth 20000 in
theorem ggX5_setLevel_X5_isTask : GoodIn wsX5_setLevel wsX5_isTask := goodIn_r _ [7, 2, 8, 9, 6, 10, 63, 64, 65, 66, 67, 68, 69, 70, 71, 72, 73, 74, 75, 76, 77, 78, 79, 80, 81, 82, 83, 84, 85, 86, 87, 88, 89, 90, 91, 92, 93, 94] (by decide +kernel) (by decide +kernel)
set_option maxRecDepth 20000 in
theorem gX5_setLevel_X5_isTask : GoodIn wsX5_setLevel (wsV RX5 143 RX5 yX5_isTask wsX5_isTask) := goodIn_app (goodIn_of _ (by decide +kernel)) ggX5_setLevel_X5_isTask
set_option maxRecDepth 20000 in
theorem ggX5_setLevel_X5_fails : GoodIn wsX5_setLevel wsX5_fails := goodIn_r _ [14, 1, 63, 64, 65, 66, 67, 68, 69, 70, 71, 72, 73, 74, 75, 76, 77, 78, 79, 80, 81, 82, 83, 84, 85, 86, 87, 88, 89, 90, 91, 92, 93, 94] (by decide +kernel) (by decide +kernel)
set_option maxRecDepth 20000 in
theorem gX5_setLevel_X5_fails : GoodIn wsX5_setLevel (wsV RX5 107 RX5 yX5_fails wsX5_fails) := goodIn_app (goodIn_of _ (by decide +kernel)) ggX5_setLevel_X5_fails
set_option maxRecDepth 20000 in
theorem ggX5_setLevel_X5_in : GoodIn wsX5_setLevel wsX5_in := goodIn_r _ [10] (by decide +kernel) (by decide +kernel)
set_option maxRecDepth 20000 in
theorem gX5_setLevel_X5_in : GoodIn wsX5_setLevel (va_wsS RX5 53 yX5_in wsX5_in) := goodIn_app (goodIn_of _ (by decide +kernel)) ggX5_setLevel_X5_in
set_option maxRecDepth 20000 in
theorem ggX5_setLevel_X5_keeps : GoodIn wsX5_setLevel wsX5_keeps := goodIn_r _ [18, 19, 2, 63, 64, 65, 66, 67, 68, 69, 70, 71, 72, 73, 74, 75, 76, 77, 78, 79, 80, 81, 82, 83, 84, 85, 86, 87, 88, 89, 90, 91, 92, 93, 94] (by decide +kernel) (by decide +kernel)
set_option maxRecDepth 20000 in
theorem gX5_setLevel_X5_keeps : GoodIn wsX5_setLevel (wsV RX5 110 RX5 yX5_keeps wsX5_keeps) := goodIn_app (goodIn_of _ (by decide +kernel)) ggX5_setLevel_X5_keeps
set_option maxRecDepth 20000 in
theorem ggX5_setLevel_X5_scales : GoodIn wsX5_setLevel wsX5_scales := goodIn_r _ [23, 2, 24, 25, 26, 6, 27, 28, 29, 30, 31, 32, 33, 34, 35, 36, 37, 38, 39, 40, 41, 42, 43, 44, 45, 46, 47, 48, 49, 50, 51, 8, 9, 10, 63, 64, 65, 66, 67, 68, 69, 70, 71, 72, 73, 74, 75, 76, 77, 78, 79, 80, 81, 82, 83, 84, 85, 86, 87, 88, 89, 90, 91, 92, 93, 94] (by decide +kernel) (by decide +kernel)
set_option maxRecDepth 20000 in
theorem gX5_setLevel_X5_scales : GoodIn wsX5_setLevel (wsV RX5 113 RX5 yX5_scales wsX5_scales) := goodIn_app (goodIn_of _ (by decide +kernel)) ggX5_setLevel_X5_scales
set_option maxRecDepth 20000 in
theorem ggX5_setLevel_X5_goesBack : GoodIn wsX5_setLevel wsX5_goesBack := goodIn_r _ [55, 2, 19, 63, 64, 65, 66, 67, 68, 69, 70, 71, 72, 73, 74, 75, 76, 77, 78, 79, 80, 81, 82, 83, 84, 85, 86, 87, 88, 89, 90, 91, 92, 93, 94] (by decide +kernel) (by decide +kernel)
set_option maxRecDepth 20000 in
theorem gX5_setLevel_X5_goesBack : GoodIn wsX5_setLevel (wsV RX5 100 RX5 yX5_goesBack wsX5_goesBack) := goodIn_app (goodIn_of _ (by decide +kernel)) ggX5_setLevel_X5_goesBack
set_option maxRecDepth 20000 in
theorem ggX5_setLevel_X5_records : GoodIn wsX5_setLevel wsX5_records := goodIn_r _ [59, 60, 61, 19, 62, 63, 64, 65, 66, 67, 68, 69, 70, 71, 72, 73, 74, 75, 76, 77, 78, 79, 80, 81, 82, 83, 84, 85, 86, 87, 88, 89, 90, 91, 92, 93, 94] (by decide +kernel) (by decide +kernel)
set_option maxRecDepth 20000 in
theorem gX5_setLevel_X5_records : GoodIn wsX5_setLevel (wsV RX5 124 RX5 yX5_records wsX5_records) := goodIn_app (goodIn_of _ (by decide +kernel)) ggX5_setLevel_X5_records
theorem dX5_setLevel_0 : decode cX5_setLevel 0 = .ok (.aload_n 0, 1) := by decide +kernel
theorem dX5_setLevel_1 : decode cX5_setLevel 1 = .ok (.iconst 0, 1) := by decide +kernel
theorem dX5_setLevel_2 : decode cX5_setLevel 2 = .ok (.putfield 50, 3) := by decide +kernel
theorem dX5_setLevel_5 : decode cX5_setLevel 5 = .ok (.aload_n 0, 1) := by decide +kernel
theorem dX5_setLevel_6 : decode cX5_setLevel 6 = .ok (.iload_n 1, 1) := by decide +kernel
theorem dX5_setLevel_7 : decode cX5_setLevel 7 = .ok (.invokevirtual 143, 3) := by decide +kernel
theorem dX5_setLevel_10 : decode cX5_setLevel 10 = .ok (.ifCond .ne 9, 3) := by decide +kernel
theorem dX5_setLevel_13 : decode cX5_setLevel 13 = .ok (.aload_n 0, 1) := by decide +kernel
theorem dX5_setLevel_14 : decode cX5_setLevel 14 = .ok (.iconst 1, 1) := by decide +kernel
theorem dX5_setLevel_15 : decode cX5_setLevel 15 = .ok (.invokevirtual 107, 3) := by decide +kernel
theorem dX5_setLevel_18 : decode cX5_setLevel 18 = .ok (.ireturn, 1) := by decide +kernel
theorem dX5_setLevel_19 : decode cX5_setLevel 19 = .ok (.iload_n 2, 1) := by decide +kernel
theorem dX5_setLevel_20 : decode cX5_setLevel 20 = .ok (.iconst 0, 1) := by decide +kernel
theorem dX5_setLevel_21 : decode cX5_setLevel 21 = .ok (.aload_n 0, 1) := by decide +kernel
theorem dX5_setLevel_22 : decode cX5_setLevel 22 = .ok (.getfield 9, 3) := by decide +kernel
theorem dX5_setLevel_25 : decode cX5_setLevel 25 = .ok (.bipush 42, 2) := by decide +kernel
theorem dX5_setLevel_27 : decode cX5_setLevel 27 = .ok (.iload_n 1, 1) := by decide +kernel
theorem dX5_setLevel_28 : decode cX5_setLevel 28 = .ok (.iadd, 1) := by decide +kernel
theorem dX5_setLevel_29 : decode cX5_setLevel 29 = .ok (.iaload, 1) := by decide +kernel
theorem dX5_setLevel_30 : decode cX5_setLevel 30 = .ok (.invokestatic 53, 3) := by decide +kernel
theorem dX5_setLevel_33 : decode cX5_setLevel 33 = .ok (.ifCond .ne 9, 3) := by decide +kernel
theorem dX5_setLevel_36 : decode cX5_setLevel 36 = .ok (.aload_n 0, 1) := by decide +kernel
theorem dX5_setLevel_37 : decode cX5_setLevel 37 = .ok (.iconst 2, 1) := by decide +kernel
theorem dX5_setLevel_38 : decode cX5_setLevel 38 = .ok (.invokevirtual 107, 3) := by decide +kernel
theorem dX5_setLevel_41 : decode cX5_setLevel 41 = .ok (.ireturn, 1) := by decide +kernel
theorem dX5_setLevel_42 : decode cX5_setLevel 42 = .ok (.aload_n 0, 1) := by decide +kernel
theorem dX5_setLevel_43 : decode cX5_setLevel 43 = .ok (.invokevirtual 110, 3) := by decide +kernel
theorem dX5_setLevel_46 : decode cX5_setLevel 46 = .ok (.aload_n 0, 1) := by decide +kernel
theorem dX5_setLevel_47 : decode cX5_setLevel 47 = .ok (.getfield 9, 3) := by decide +kernel
theorem dX5_setLevel_50 : decode cX5_setLevel 50 = .ok (.bipush 50, 2) := by decide +kernel
theorem dX5_setLevel_52 : decode cX5_setLevel 52 = .ok (.iload_n 1, 1) := by decide +kernel
theorem dX5_setLevel_53 : decode cX5_setLevel 53 = .ok (.iadd, 1) := by decide +kernel
theorem dX5_setLevel_54 : decode cX5_setLevel 54 = .ok (.iaload, 1) := by decide +kernel
theorem dX5_setLevel_55 : decode cX5_setLevel 55 = .ok (.istore_n 3, 1) := by decide +kernel
theorem dX5_setLevel_56 : decode cX5_setLevel 56 = .ok (.aload_n 0, 1) := by decide +kernel
theorem dX5_setLevel_57 : decode cX5_setLevel 57 = .ok (.getfield 9, 3) := by decide +kernel
theorem dX5_setLevel_60 : decode cX5_setLevel 60 = .ok (.bipush 50, 2) := by decide +kernel
theorem dX5_setLevel_62 : decode cX5_setLevel 62 = .ok (.iload_n 1, 1) := by decide +kernel
theorem dX5_setLevel_63 : decode cX5_setLevel 63 = .ok (.iadd, 1) := by decide +kernel
theorem dX5_setLevel_64 : decode cX5_setLevel 64 = .ok (.iload_n 2, 1) := by decide +kernel
theorem dX5_setLevel_65 : decode cX5_setLevel 65 = .ok (.iastore, 1) := by decide +kernel
theorem dX5_setLevel_66 : decode cX5_setLevel 66 = .ok (.aload_n 0, 1) := by decide +kernel
theorem dX5_setLevel_67 : decode cX5_setLevel 67 = .ok (.invokevirtual 113, 3) := by decide +kernel
theorem dX5_setLevel_70 : decode cX5_setLevel 70 = .ok (.ifCond .ne 13, 3) := by decide +kernel
theorem dX5_setLevel_73 : decode cX5_setLevel 73 = .ok (.aload_n 0, 1) := by decide +kernel
theorem dX5_setLevel_74 : decode cX5_setLevel 74 = .ok (.invokevirtual 100, 3) := by decide +kernel
theorem dX5_setLevel_77 : decode cX5_setLevel 77 = .ok (.aload_n 0, 1) := by decide +kernel
theorem dX5_setLevel_78 : decode cX5_setLevel 78 = .ok (.iconst 3, 1) := by decide +kernel
theorem dX5_setLevel_79 : decode cX5_setLevel 79 = .ok (.invokevirtual 107, 3) := by decide +kernel
theorem dX5_setLevel_82 : decode cX5_setLevel 82 = .ok (.ireturn, 1) := by decide +kernel
theorem dX5_setLevel_83 : decode cX5_setLevel 83 = .ok (.aload_n 0, 1) := by decide +kernel
theorem dX5_setLevel_84 : decode cX5_setLevel 84 = .ok (.invokevirtual 124, 3) := by decide +kernel
theorem dX5_setLevel_87 : decode cX5_setLevel 87 = .ok (.iload_n 3, 1) := by decide +kernel
theorem dX5_setLevel_88 : decode cX5_setLevel 88 = .ok (.ireturn, 1) := by decide +kernel
set_option maxRecDepth 20000 in
theorem ggX5_undo_X5_fails : GoodIn wsX5_undo wsX5_fails := goodIn_r _ [10, 1, 11, 12, 13, 14, 15, 16, 17, 18, 19, 20, 21, 22, 23, 24, 25, 26, 27, 28, 29, 30, 31, 32, 33, 34, 35, 36, 37, 38, 39, 40, 41, 42] (by decide +kernel) (by decide +kernel)
set_option maxRecDepth 20000 in
theorem gX5_undo_X5_fails : GoodIn wsX5_undo (wsV RX5 107 RX5 yX5_fails wsX5_fails) := goodIn_app (goodIn_of _ (by decide +kernel)) ggX5_undo_X5_fails
theorem dX5_undo_0 : decode cX5_undo 0 = .ok (.aload_n 0, 1) := by decide +kernel
theorem dX5_undo_1 : decode cX5_undo 1 = .ok (.iconst 0, 1) := by decide +kernel
theorem dX5_undo_2 : decode cX5_undo 2 = .ok (.putfield 50, 3) := by decide +kernel
theorem dX5_undo_5 : decode cX5_undo 5 = .ok (.aload_n 0, 1) := by decide +kernel
theorem dX5_undo_6 : decode cX5_undo 6 = .ok (.getfield 57, 3) := by decide +kernel
theorem dX5_undo_9 : decode cX5_undo 9 = .ok (.ifCond .ne 9, 3) := by decide +kernel
theorem dX5_undo_12 : decode cX5_undo 12 = .ok (.aload_n 0, 1) := by decide +kernel
theorem dX5_undo_13 : decode cX5_undo 13 = .ok (.iconst 1, 1) := by decide +kernel
theorem dX5_undo_14 : decode cX5_undo 14 = .ok (.invokevirtual 107, 3) := by decide +kernel
theorem dX5_undo_17 : decode cX5_undo 17 = .ok (.ireturn, 1) := by decide +kernel
theorem dX5_undo_18 : decode cX5_undo 18 = .ok (.aload_n 0, 1) := by decide +kernel
theorem dX5_undo_19 : decode cX5_undo 19 = .ok (.dup, 1) := by decide +kernel
theorem dX5_undo_20 : decode cX5_undo 20 = .ok (.getfield 57, 3) := by decide +kernel
theorem dX5_undo_23 : decode cX5_undo 23 = .ok (.iconst 1, 1) := by decide +kernel
theorem dX5_undo_24 : decode cX5_undo 24 = .ok (.isub, 1) := by decide +kernel
theorem dX5_undo_25 : decode cX5_undo 25 = .ok (.putfield 57, 3) := by decide +kernel
theorem dX5_undo_28 : decode cX5_undo 28 = .ok (.iconst 0, 1) := by decide +kernel
theorem dX5_undo_29 : decode cX5_undo 29 = .ok (.istore_n 1, 1) := by decide +kernel
theorem dX5_undo_30 : decode cX5_undo 30 = .ok (.iload_n 1, 1) := by decide +kernel
theorem dX5_undo_31 : decode cX5_undo 31 = .ok (.bipush 58, 2) := by decide +kernel
theorem dX5_undo_33 : decode cX5_undo 33 = .ok (.if_icmp .ge 29, 3) := by decide +kernel
theorem dX5_undo_36 : decode cX5_undo 36 = .ok (.aload_n 0, 1) := by decide +kernel
theorem dX5_undo_37 : decode cX5_undo 37 = .ok (.getfield 9, 3) := by decide +kernel
theorem dX5_undo_40 : decode cX5_undo 40 = .ok (.iload_n 1, 1) := by decide +kernel
theorem dX5_undo_41 : decode cX5_undo 41 = .ok (.aload_n 0, 1) := by decide +kernel
theorem dX5_undo_42 : decode cX5_undo 42 = .ok (.getfield 19, 3) := by decide +kernel
theorem dX5_undo_45 : decode cX5_undo 45 = .ok (.bipush 58, 2) := by decide +kernel
theorem dX5_undo_47 : decode cX5_undo 47 = .ok (.aload_n 0, 1) := by decide +kernel
theorem dX5_undo_48 : decode cX5_undo 48 = .ok (.getfield 57, 3) := by decide +kernel
theorem dX5_undo_51 : decode cX5_undo 51 = .ok (.imul, 1) := by decide +kernel
theorem dX5_undo_52 : decode cX5_undo 52 = .ok (.iload_n 1, 1) := by decide +kernel
theorem dX5_undo_53 : decode cX5_undo 53 = .ok (.iadd, 1) := by decide +kernel
theorem dX5_undo_54 : decode cX5_undo 54 = .ok (.iaload, 1) := by decide +kernel
theorem dX5_undo_55 : decode cX5_undo 55 = .ok (.iastore, 1) := by decide +kernel
theorem dX5_undo_56 : decode cX5_undo 56 = .ok (.iinc 1 1, 3) := by decide +kernel
theorem dX5_undo_59 : decode cX5_undo 59 = .ok (.goto (-29), 3) := by decide +kernel
theorem dX5_undo_62 : decode cX5_undo 62 = .ok (.aload_n 0, 1) := by decide +kernel
theorem dX5_undo_63 : decode cX5_undo 63 = .ok (.iconst 0, 1) := by decide +kernel
theorem dX5_undo_64 : decode cX5_undo 64 = .ok (.putfield 60, 3) := by decide +kernel
theorem dX5_undo_67 : decode cX5_undo 67 = .ok (.aload_n 0, 1) := by decide +kernel
theorem dX5_undo_68 : decode cX5_undo 68 = .ok (.getfield 57, 3) := by decide +kernel
theorem dX5_undo_71 : decode cX5_undo 71 = .ok (.ireturn, 1) := by decide +kernel
theorem dX5_taskCount_0 : decode cX5_taskCount 0 = .ok (.aload_n 0, 1) := by decide +kernel
theorem dX5_taskCount_1 : decode cX5_taskCount 1 = .ok (.iconst 0, 1) := by decide +kernel
theorem dX5_taskCount_2 : decode cX5_taskCount 2 = .ok (.putfield 50, 3) := by decide +kernel
theorem dX5_taskCount_5 : decode cX5_taskCount 5 = .ok (.aload_n 0, 1) := by decide +kernel
theorem dX5_taskCount_6 : decode cX5_taskCount 6 = .ok (.getfield 9, 3) := by decide +kernel
theorem dX5_taskCount_9 : decode cX5_taskCount 9 = .ok (.iconst 0, 1) := by decide +kernel
theorem dX5_taskCount_10 : decode cX5_taskCount 10 = .ok (.iaload, 1) := by decide +kernel
theorem dX5_taskCount_11 : decode cX5_taskCount 11 = .ok (.ireturn, 1) := by decide +kernel
theorem dX5_scale_0 : decode cX5_scale 0 = .ok (.aload_n 0, 1) := by decide +kernel
theorem dX5_scale_1 : decode cX5_scale 1 = .ok (.iconst 0, 1) := by decide +kernel
theorem dX5_scale_2 : decode cX5_scale 2 = .ok (.putfield 50, 3) := by decide +kernel
theorem dX5_scale_5 : decode cX5_scale 5 = .ok (.aload_n 0, 1) := by decide +kernel
theorem dX5_scale_6 : decode cX5_scale 6 = .ok (.getfield 9, 3) := by decide +kernel
theorem dX5_scale_9 : decode cX5_scale 9 = .ok (.iconst 1, 1) := by decide +kernel
theorem dX5_scale_10 : decode cX5_scale 10 = .ok (.iaload, 1) := by decide +kernel
theorem dX5_scale_11 : decode cX5_scale 11 = .ok (.ireturn, 1) := by decide +kernel
set_option maxRecDepth 20000 in
theorem ggX5_period_X5_isTask : GoodIn wsX5_period wsX5_isTask := goodIn_r _ [6, 7, 8, 9, 5, 10, 19, 20, 21, 22, 23, 24, 25, 26, 27, 28, 29, 30, 31, 32, 33, 34, 35, 36, 37, 38, 39, 40, 41, 42, 43, 44, 45, 46, 47, 48, 49, 50] (by decide +kernel) (by decide +kernel)
set_option maxRecDepth 20000 in
theorem gX5_period_X5_isTask : GoodIn wsX5_period (wsV RX5 143 RX5 yX5_isTask wsX5_isTask) := goodIn_app (goodIn_of _ (by decide +kernel)) ggX5_period_X5_isTask
set_option maxRecDepth 20000 in
theorem ggX5_period_X5_periodOf : GoodIn wsX5_period wsX5_periodOf := goodIn_r _ [14, 7, 19, 20, 21, 22, 23, 24, 25, 26, 27, 28, 29, 30, 31, 32, 33, 34, 35, 36, 37, 38, 39, 40, 41, 42, 43, 44, 45, 46, 47, 48, 49, 50] (by decide +kernel) (by decide +kernel)
set_option maxRecDepth 20000 in
theorem gX5_period_X5_periodOf : GoodIn wsX5_period (wsV RX5 72 RX5 yX5_periodOf wsX5_periodOf) := goodIn_app (goodIn_of _ (by decide +kernel)) ggX5_period_X5_periodOf
set_option maxRecDepth 20000 in
theorem ggX5_period_X5_fails : GoodIn wsX5_period wsX5_fails := goodIn_r _ [18, 1, 19, 20, 21, 22, 23, 24, 25, 26, 27, 28, 29, 30, 31, 32, 33, 34, 35, 36, 37, 38, 39, 40, 41, 42, 43, 44, 45, 46, 47, 48, 49, 50] (by decide +kernel) (by decide +kernel)
set_option maxRecDepth 20000 in
theorem gX5_period_X5_fails : GoodIn wsX5_period (wsV RX5 107 RX5 yX5_fails wsX5_fails) := goodIn_app (goodIn_of _ (by decide +kernel)) ggX5_period_X5_fails
theorem dX5_period_0 : decode cX5_period 0 = .ok (.aload_n 0, 1) := by decide +kernel
theorem dX5_period_1 : decode cX5_period 1 = .ok (.iconst 0, 1) := by decide +kernel
theorem dX5_period_2 : decode cX5_period 2 = .ok (.putfield 50, 3) := by decide +kernel
theorem dX5_period_5 : decode cX5_period 5 = .ok (.aload_n 0, 1) := by decide +kernel
theorem dX5_period_6 : decode cX5_period 6 = .ok (.iload_n 1, 1) := by decide +kernel
theorem dX5_period_7 : decode cX5_period 7 = .ok (.invokevirtual 143, 3) := by decide +kernel
theorem dX5_period_10 : decode cX5_period 10 = .ok (.ifCond .eq 11, 3) := by decide +kernel
theorem dX5_period_13 : decode cX5_period 13 = .ok (.aload_n 0, 1) := by decide +kernel
theorem dX5_period_14 : decode cX5_period 14 = .ok (.iload_n 1, 1) := by decide +kernel
theorem dX5_period_15 : decode cX5_period 15 = .ok (.invokevirtual 72, 3) := by decide +kernel
theorem dX5_period_18 : decode cX5_period 18 = .ok (.goto 8, 3) := by decide +kernel
theorem dX5_period_21 : decode cX5_period 21 = .ok (.aload_n 0, 1) := by decide +kernel
theorem dX5_period_22 : decode cX5_period 22 = .ok (.iconst 1, 1) := by decide +kernel
theorem dX5_period_23 : decode cX5_period 23 = .ok (.invokevirtual 107, 3) := by decide +kernel
theorem dX5_period_26 : decode cX5_period 26 = .ok (.ireturn, 1) := by decide +kernel
set_option maxRecDepth 20000 in
theorem ggX5_deadline_X5_isTask : GoodIn wsX5_deadline wsX5_isTask := goodIn_r _ [7, 2, 8, 9, 6, 10, 15, 16, 17, 18, 19, 20, 21, 22, 23, 24, 25, 26, 27, 28, 29, 30, 31, 32, 33, 34, 35, 36, 37, 38, 39, 40, 41, 42, 43, 44, 45, 46] (by decide +kernel) (by decide +kernel)
set_option maxRecDepth 20000 in
theorem gX5_deadline_X5_isTask : GoodIn wsX5_deadline (wsV RX5 143 RX5 yX5_isTask wsX5_isTask) := goodIn_app (goodIn_of _ (by decide +kernel)) ggX5_deadline_X5_isTask
set_option maxRecDepth 20000 in
theorem ggX5_deadline_X5_fails : GoodIn wsX5_deadline wsX5_fails := goodIn_r _ [14, 1, 15, 16, 17, 18, 19, 20, 21, 22, 23, 24, 25, 26, 27, 28, 29, 30, 31, 32, 33, 34, 35, 36, 37, 38, 39, 40, 41, 42, 43, 44, 45, 46] (by decide +kernel) (by decide +kernel)
set_option maxRecDepth 20000 in
theorem gX5_deadline_X5_fails : GoodIn wsX5_deadline (wsV RX5 107 RX5 yX5_fails wsX5_fails) := goodIn_app (goodIn_of _ (by decide +kernel)) ggX5_deadline_X5_fails
theorem dX5_deadline_0 : decode cX5_deadline 0 = .ok (.aload_n 0, 1) := by decide +kernel
theorem dX5_deadline_1 : decode cX5_deadline 1 = .ok (.iconst 0, 1) := by decide +kernel
theorem dX5_deadline_2 : decode cX5_deadline 2 = .ok (.putfield 50, 3) := by decide +kernel
theorem dX5_deadline_5 : decode cX5_deadline 5 = .ok (.aload_n 0, 1) := by decide +kernel
theorem dX5_deadline_6 : decode cX5_deadline 6 = .ok (.iload_n 1, 1) := by decide +kernel
theorem dX5_deadline_7 : decode cX5_deadline 7 = .ok (.invokevirtual 143, 3) := by decide +kernel
theorem dX5_deadline_10 : decode cX5_deadline 10 = .ok (.ifCond .eq 15, 3) := by decide +kernel
theorem dX5_deadline_13 : decode cX5_deadline 13 = .ok (.aload_n 0, 1) := by decide +kernel
theorem dX5_deadline_14 : decode cX5_deadline 14 = .ok (.getfield 9, 3) := by decide +kernel
theorem dX5_deadline_17 : decode cX5_deadline 17 = .ok (.bipush 10, 2) := by decide +kernel
theorem dX5_deadline_19 : decode cX5_deadline 19 = .ok (.iload_n 1, 1) := by decide +kernel
theorem dX5_deadline_20 : decode cX5_deadline 20 = .ok (.iadd, 1) := by decide +kernel
theorem dX5_deadline_21 : decode cX5_deadline 21 = .ok (.iaload, 1) := by decide +kernel
theorem dX5_deadline_22 : decode cX5_deadline 22 = .ok (.goto 8, 3) := by decide +kernel
theorem dX5_deadline_25 : decode cX5_deadline 25 = .ok (.aload_n 0, 1) := by decide +kernel
theorem dX5_deadline_26 : decode cX5_deadline 26 = .ok (.iconst 1, 1) := by decide +kernel
theorem dX5_deadline_27 : decode cX5_deadline 27 = .ok (.invokevirtual 107, 3) := by decide +kernel
theorem dX5_deadline_30 : decode cX5_deadline 30 = .ok (.ireturn, 1) := by decide +kernel
set_option maxRecDepth 20000 in
theorem ggX5_virtualDeadline_X5_isTask : GoodIn wsX5_virtualDeadline wsX5_isTask := goodIn_r _ [6, 7, 8, 9, 5, 10, 23, 24, 25, 26, 27, 28, 29, 30, 31, 32, 33, 34, 35, 36, 37, 38, 39, 40, 41, 42, 43, 44, 45, 46, 47, 48, 49, 50, 51, 52, 53, 54] (by decide +kernel) (by decide +kernel)
set_option maxRecDepth 20000 in
theorem gX5_virtualDeadline_X5_isTask : GoodIn wsX5_virtualDeadline (wsV RX5 143 RX5 yX5_isTask wsX5_isTask) := goodIn_app (goodIn_of _ (by decide +kernel)) ggX5_virtualDeadline_X5_isTask
set_option maxRecDepth 20000 in
theorem ggX5_virtualDeadline_X5_virtualOf : GoodIn wsX5_virtualDeadline wsX5_virtualOf := goodIn_r _ [14, 7, 15, 16, 17, 5, 18, 23, 24, 25, 26, 27, 28, 29, 30, 31, 32, 33, 34, 35, 36, 37, 38, 39, 40, 41, 42, 43, 44, 45, 46, 47, 48, 49, 50, 51, 52, 53, 54] (by decide +kernel) (by decide +kernel)
set_option maxRecDepth 20000 in
theorem gX5_virtualDeadline_X5_virtualOf : GoodIn wsX5_virtualDeadline (wsV RX5 68 RX5 yX5_virtualOf wsX5_virtualOf) := goodIn_app (goodIn_of _ (by decide +kernel)) ggX5_virtualDeadline_X5_virtualOf
set_option maxRecDepth 20000 in
theorem ggX5_virtualDeadline_X5_fails : GoodIn wsX5_virtualDeadline wsX5_fails := goodIn_r _ [22, 1, 23, 24, 25, 26, 27, 28, 29, 30, 31, 32, 33, 34, 35, 36, 37, 38, 39, 40, 41, 42, 43, 44, 45, 46, 47, 48, 49, 50, 51, 52, 53, 54] (by decide +kernel) (by decide +kernel)
set_option maxRecDepth 20000 in
theorem gX5_virtualDeadline_X5_fails : GoodIn wsX5_virtualDeadline (wsV RX5 107 RX5 yX5_fails wsX5_fails) := goodIn_app (goodIn_of _ (by decide +kernel)) ggX5_virtualDeadline_X5_fails
theorem dX5_virtualDeadline_0 : decode cX5_virtualDeadline 0 = .ok (.aload_n 0, 1) := by decide +kernel
theorem dX5_virtualDeadline_1 : decode cX5_virtualDeadline 1 = .ok (.iconst 0, 1) := by decide +kernel
theorem dX5_virtualDeadline_2 : decode cX5_virtualDeadline 2 = .ok (.putfield 50, 3) := by decide +kernel
theorem dX5_virtualDeadline_5 : decode cX5_virtualDeadline 5 = .ok (.aload_n 0, 1) := by decide +kernel
theorem dX5_virtualDeadline_6 : decode cX5_virtualDeadline 6 = .ok (.iload_n 1, 1) := by decide +kernel
theorem dX5_virtualDeadline_7 : decode cX5_virtualDeadline 7 = .ok (.invokevirtual 143, 3) := by decide +kernel
theorem dX5_virtualDeadline_10 : decode cX5_virtualDeadline 10 = .ok (.ifCond .eq 11, 3) := by decide +kernel
theorem dX5_virtualDeadline_13 : decode cX5_virtualDeadline 13 = .ok (.aload_n 0, 1) := by decide +kernel
theorem dX5_virtualDeadline_14 : decode cX5_virtualDeadline 14 = .ok (.iload_n 1, 1) := by decide +kernel
theorem dX5_virtualDeadline_15 : decode cX5_virtualDeadline 15 = .ok (.invokevirtual 68, 3) := by decide +kernel
theorem dX5_virtualDeadline_18 : decode cX5_virtualDeadline 18 = .ok (.goto 8, 3) := by decide +kernel
theorem dX5_virtualDeadline_21 : decode cX5_virtualDeadline 21 = .ok (.aload_n 0, 1) := by decide +kernel
theorem dX5_virtualDeadline_22 : decode cX5_virtualDeadline 22 = .ok (.iconst 1, 1) := by decide +kernel
theorem dX5_virtualDeadline_23 : decode cX5_virtualDeadline 23 = .ok (.invokevirtual 107, 3) := by decide +kernel
theorem dX5_virtualDeadline_26 : decode cX5_virtualDeadline 26 = .ok (.ireturn, 1) := by decide +kernel
set_option maxRecDepth 20000 in
theorem ggX5_budget_X5_isTask : GoodIn wsX5_budget wsX5_isTask := goodIn_r _ [7, 2, 8, 9, 6, 10, 19, 20, 21, 22, 23, 24, 25, 26, 27, 28, 29, 30, 31, 32, 33, 34, 35, 36, 37, 38, 39, 40, 41, 42, 43, 44, 45, 46, 47, 48, 49, 50] (by decide +kernel) (by decide +kernel)
set_option maxRecDepth 20000 in
theorem gX5_budget_X5_isTask : GoodIn wsX5_budget (wsV RX5 143 RX5 yX5_isTask wsX5_isTask) := goodIn_app (goodIn_of _ (by decide +kernel)) ggX5_budget_X5_isTask
set_option maxRecDepth 20000 in
theorem ggX5_budget_X5_fails : GoodIn wsX5_budget wsX5_fails := goodIn_r _ [14, 1, 19, 20, 21, 22, 23, 24, 25, 26, 27, 28, 29, 30, 31, 32, 33, 34, 35, 36, 37, 38, 39, 40, 41, 42, 43, 44, 45, 46, 47, 48, 49, 50] (by decide +kernel) (by decide +kernel)
set_option maxRecDepth 20000 in
theorem gX5_budget_X5_fails : GoodIn wsX5_budget (wsV RX5 107 RX5 yX5_fails wsX5_fails) := goodIn_app (goodIn_of _ (by decide +kernel)) ggX5_budget_X5_fails
set_option maxRecDepth 20000 in
theorem ggX5_budget_X5_in : GoodIn wsX5_budget wsX5_in := goodIn_r _ [10] (by decide +kernel) (by decide +kernel)
set_option maxRecDepth 20000 in
theorem gX5_budget_X5_in : GoodIn wsX5_budget (va_wsS RX5 53 yX5_in wsX5_in) := goodIn_app (goodIn_of _ (by decide +kernel)) ggX5_budget_X5_in
set_option maxRecDepth 20000 in
theorem ggX5_budget_X5_isHighTask : GoodIn wsX5_budget wsX5_isHighTask := goodIn_r _ [18, 2, 19, 20, 21, 22, 23, 24, 25, 26, 27, 28, 29, 30, 31, 32, 33, 34, 35, 36, 37, 38, 39, 40, 41, 42, 43, 44, 45, 46, 47, 48, 49, 50] (by decide +kernel) (by decide +kernel)
set_option maxRecDepth 20000 in
theorem gX5_budget_X5_isHighTask : GoodIn wsX5_budget (wsV RX5 64 RX5 yX5_isHighTask wsX5_isHighTask) := goodIn_app (goodIn_of _ (by decide +kernel)) ggX5_budget_X5_isHighTask
theorem dX5_budget_0 : decode cX5_budget 0 = .ok (.aload_n 0, 1) := by decide +kernel
theorem dX5_budget_1 : decode cX5_budget 1 = .ok (.iconst 0, 1) := by decide +kernel
theorem dX5_budget_2 : decode cX5_budget 2 = .ok (.putfield 50, 3) := by decide +kernel
theorem dX5_budget_5 : decode cX5_budget 5 = .ok (.aload_n 0, 1) := by decide +kernel
theorem dX5_budget_6 : decode cX5_budget 6 = .ok (.iload_n 1, 1) := by decide +kernel
theorem dX5_budget_7 : decode cX5_budget 7 = .ok (.invokevirtual 143, 3) := by decide +kernel
theorem dX5_budget_10 : decode cX5_budget 10 = .ok (.ifCond .ne 9, 3) := by decide +kernel
theorem dX5_budget_13 : decode cX5_budget 13 = .ok (.aload_n 0, 1) := by decide +kernel
theorem dX5_budget_14 : decode cX5_budget 14 = .ok (.iconst 1, 1) := by decide +kernel
theorem dX5_budget_15 : decode cX5_budget 15 = .ok (.invokevirtual 107, 3) := by decide +kernel
theorem dX5_budget_18 : decode cX5_budget 18 = .ok (.ireturn, 1) := by decide +kernel
theorem dX5_budget_19 : decode cX5_budget 19 = .ok (.iload_n 2, 1) := by decide +kernel
theorem dX5_budget_20 : decode cX5_budget 20 = .ok (.iconst 0, 1) := by decide +kernel
theorem dX5_budget_21 : decode cX5_budget 21 = .ok (.iconst 1, 1) := by decide +kernel
theorem dX5_budget_22 : decode cX5_budget 22 = .ok (.invokestatic 53, 3) := by decide +kernel
theorem dX5_budget_25 : decode cX5_budget 25 = .ok (.ifCond .ne 9, 3) := by decide +kernel
theorem dX5_budget_28 : decode cX5_budget 28 = .ok (.aload_n 0, 1) := by decide +kernel
theorem dX5_budget_29 : decode cX5_budget 29 = .ok (.iconst 2, 1) := by decide +kernel
theorem dX5_budget_30 : decode cX5_budget 30 = .ok (.invokevirtual 107, 3) := by decide +kernel
theorem dX5_budget_33 : decode cX5_budget 33 = .ok (.ireturn, 1) := by decide +kernel
theorem dX5_budget_34 : decode cX5_budget 34 = .ok (.iload_n 2, 1) := by decide +kernel
theorem dX5_budget_35 : decode cX5_budget 35 = .ok (.iconst 1, 1) := by decide +kernel
theorem dX5_budget_36 : decode cX5_budget 36 = .ok (.if_icmp .ne 17, 3) := by decide +kernel
theorem dX5_budget_39 : decode cX5_budget 39 = .ok (.aload_n 0, 1) := by decide +kernel
theorem dX5_budget_40 : decode cX5_budget 40 = .ok (.iload_n 1, 1) := by decide +kernel
theorem dX5_budget_41 : decode cX5_budget 41 = .ok (.invokevirtual 64, 3) := by decide +kernel
theorem dX5_budget_44 : decode cX5_budget 44 = .ok (.ifCond .ne 9, 3) := by decide +kernel
theorem dX5_budget_47 : decode cX5_budget 47 = .ok (.aload_n 0, 1) := by decide +kernel
theorem dX5_budget_48 : decode cX5_budget 48 = .ok (.iconst 3, 1) := by decide +kernel
theorem dX5_budget_49 : decode cX5_budget 49 = .ok (.invokevirtual 107, 3) := by decide +kernel
theorem dX5_budget_52 : decode cX5_budget 52 = .ok (.ireturn, 1) := by decide +kernel
theorem dX5_budget_53 : decode cX5_budget 53 = .ok (.iload_n 2, 1) := by decide +kernel
theorem dX5_budget_54 : decode cX5_budget 54 = .ok (.ifCond .ne 15, 3) := by decide +kernel
theorem dX5_budget_57 : decode cX5_budget 57 = .ok (.aload_n 0, 1) := by decide +kernel
theorem dX5_budget_58 : decode cX5_budget 58 = .ok (.getfield 9, 3) := by decide +kernel
theorem dX5_budget_61 : decode cX5_budget 61 = .ok (.bipush 18, 2) := by decide +kernel
theorem dX5_budget_63 : decode cX5_budget 63 = .ok (.iload_n 1, 1) := by decide +kernel
theorem dX5_budget_64 : decode cX5_budget 64 = .ok (.iadd, 1) := by decide +kernel
theorem dX5_budget_65 : decode cX5_budget 65 = .ok (.iaload, 1) := by decide +kernel
theorem dX5_budget_66 : decode cX5_budget 66 = .ok (.goto 12, 3) := by decide +kernel
theorem dX5_budget_69 : decode cX5_budget 69 = .ok (.aload_n 0, 1) := by decide +kernel
theorem dX5_budget_70 : decode cX5_budget 70 = .ok (.getfield 9, 3) := by decide +kernel
theorem dX5_budget_73 : decode cX5_budget 73 = .ok (.bipush 26, 2) := by decide +kernel
theorem dX5_budget_75 : decode cX5_budget 75 = .ok (.iload_n 1, 1) := by decide +kernel
theorem dX5_budget_76 : decode cX5_budget 76 = .ok (.iadd, 1) := by decide +kernel
theorem dX5_budget_77 : decode cX5_budget 77 = .ok (.iaload, 1) := by decide +kernel
theorem dX5_budget_78 : decode cX5_budget 78 = .ok (.ireturn, 1) := by decide +kernel
set_option maxRecDepth 20000 in
theorem ggX5_level_X5_isTask : GoodIn wsX5_level wsX5_isTask := goodIn_r _ [7, 2, 8, 9, 6, 10, 15, 16, 17, 18, 19, 20, 21, 22, 23, 24, 25, 26, 27, 28, 29, 30, 31, 32, 33, 34, 35, 36, 37, 38, 39, 40, 41, 42, 43, 44, 45, 46] (by decide +kernel) (by decide +kernel)
set_option maxRecDepth 20000 in
theorem gX5_level_X5_isTask : GoodIn wsX5_level (wsV RX5 143 RX5 yX5_isTask wsX5_isTask) := goodIn_app (goodIn_of _ (by decide +kernel)) ggX5_level_X5_isTask
set_option maxRecDepth 20000 in
theorem ggX5_level_X5_fails : GoodIn wsX5_level wsX5_fails := goodIn_r _ [14, 1, 15, 16, 17, 18, 19, 20, 21, 22, 23, 24, 25, 26, 27, 28, 29, 30, 31, 32, 33, 34, 35, 36, 37, 38, 39, 40, 41, 42, 43, 44, 45, 46] (by decide +kernel) (by decide +kernel)
set_option maxRecDepth 20000 in
theorem gX5_level_X5_fails : GoodIn wsX5_level (wsV RX5 107 RX5 yX5_fails wsX5_fails) := goodIn_app (goodIn_of _ (by decide +kernel)) ggX5_level_X5_fails
theorem dX5_level_0 : decode cX5_level 0 = .ok (.aload_n 0, 1) := by decide +kernel
theorem dX5_level_1 : decode cX5_level 1 = .ok (.iconst 0, 1) := by decide +kernel
theorem dX5_level_2 : decode cX5_level 2 = .ok (.putfield 50, 3) := by decide +kernel
theorem dX5_level_5 : decode cX5_level 5 = .ok (.aload_n 0, 1) := by decide +kernel
theorem dX5_level_6 : decode cX5_level 6 = .ok (.iload_n 1, 1) := by decide +kernel
theorem dX5_level_7 : decode cX5_level 7 = .ok (.invokevirtual 143, 3) := by decide +kernel
theorem dX5_level_10 : decode cX5_level 10 = .ok (.ifCond .eq 15, 3) := by decide +kernel
theorem dX5_level_13 : decode cX5_level 13 = .ok (.aload_n 0, 1) := by decide +kernel
theorem dX5_level_14 : decode cX5_level 14 = .ok (.getfield 9, 3) := by decide +kernel
theorem dX5_level_17 : decode cX5_level 17 = .ok (.bipush 50, 2) := by decide +kernel
theorem dX5_level_19 : decode cX5_level 19 = .ok (.iload_n 1, 1) := by decide +kernel
theorem dX5_level_20 : decode cX5_level 20 = .ok (.iadd, 1) := by decide +kernel
theorem dX5_level_21 : decode cX5_level 21 = .ok (.iaload, 1) := by decide +kernel
theorem dX5_level_22 : decode cX5_level 22 = .ok (.goto 8, 3) := by decide +kernel
theorem dX5_level_25 : decode cX5_level 25 = .ok (.aload_n 0, 1) := by decide +kernel
theorem dX5_level_26 : decode cX5_level 26 = .ok (.iconst 1, 1) := by decide +kernel
theorem dX5_level_27 : decode cX5_level 27 = .ok (.invokevirtual 107, 3) := by decide +kernel
theorem dX5_level_30 : decode cX5_level 30 = .ok (.ireturn, 1) := by decide +kernel
set_option maxRecDepth 20000 in
theorem ggX5_isCritical_X5_isTask : GoodIn wsX5_isCritical wsX5_isTask := goodIn_r _ [6, 7, 8, 9, 5, 10, 15, 16, 17, 18, 19, 20, 21, 22, 23, 24, 25, 26, 27, 28, 29, 30, 31, 32, 33, 34, 35, 36, 37, 38, 39, 40, 41, 42, 43, 44, 45, 46] (by decide +kernel) (by decide +kernel)
set_option maxRecDepth 20000 in
theorem gX5_isCritical_X5_isTask : GoodIn wsX5_isCritical (wsV RX5 143 RX5 yX5_isTask wsX5_isTask) := goodIn_app (goodIn_of _ (by decide +kernel)) ggX5_isCritical_X5_isTask
set_option maxRecDepth 20000 in
theorem ggX5_isCritical_X5_isHighTask : GoodIn wsX5_isCritical wsX5_isHighTask := goodIn_r _ [14, 7, 15, 16, 17, 18, 19, 20, 21, 22, 23, 24, 25, 26, 27, 28, 29, 30, 31, 32, 33, 34, 35, 36, 37, 38, 39, 40, 41, 42, 43, 44, 45, 46] (by decide +kernel) (by decide +kernel)
set_option maxRecDepth 20000 in
theorem gX5_isCritical_X5_isHighTask : GoodIn wsX5_isCritical (wsV RX5 64 RX5 yX5_isHighTask wsX5_isHighTask) := goodIn_app (goodIn_of _ (by decide +kernel)) ggX5_isCritical_X5_isHighTask
theorem dX5_isCritical_0 : decode cX5_isCritical 0 = .ok (.aload_n 0, 1) := by decide +kernel
theorem dX5_isCritical_1 : decode cX5_isCritical 1 = .ok (.aload_n 0, 1) := by decide +kernel
theorem dX5_isCritical_2 : decode cX5_isCritical 2 = .ok (.iload_n 1, 1) := by decide +kernel
theorem dX5_isCritical_3 : decode cX5_isCritical 3 = .ok (.invokevirtual 143, 3) := by decide +kernel
theorem dX5_isCritical_6 : decode cX5_isCritical 6 = .ok (.ifCond .eq 7, 3) := by decide +kernel
theorem dX5_isCritical_9 : decode cX5_isCritical 9 = .ok (.iconst 0, 1) := by decide +kernel
theorem dX5_isCritical_10 : decode cX5_isCritical 10 = .ok (.goto 4, 3) := by decide +kernel
theorem dX5_isCritical_13 : decode cX5_isCritical 13 = .ok (.iconst 1, 1) := by decide +kernel
theorem dX5_isCritical_14 : decode cX5_isCritical 14 = .ok (.putfield 50, 3) := by decide +kernel
theorem dX5_isCritical_17 : decode cX5_isCritical 17 = .ok (.aload_n 0, 1) := by decide +kernel
theorem dX5_isCritical_18 : decode cX5_isCritical 18 = .ok (.iload_n 1, 1) := by decide +kernel
theorem dX5_isCritical_19 : decode cX5_isCritical 19 = .ok (.invokevirtual 143, 3) := by decide +kernel
theorem dX5_isCritical_22 : decode cX5_isCritical 22 = .ok (.ifCond .eq 15, 3) := by decide +kernel
theorem dX5_isCritical_25 : decode cX5_isCritical 25 = .ok (.aload_n 0, 1) := by decide +kernel
theorem dX5_isCritical_26 : decode cX5_isCritical 26 = .ok (.iload_n 1, 1) := by decide +kernel
theorem dX5_isCritical_27 : decode cX5_isCritical 27 = .ok (.invokevirtual 64, 3) := by decide +kernel
theorem dX5_isCritical_30 : decode cX5_isCritical 30 = .ok (.ifCond .eq 7, 3) := by decide +kernel
theorem dX5_isCritical_33 : decode cX5_isCritical 33 = .ok (.iconst 1, 1) := by decide +kernel
theorem dX5_isCritical_34 : decode cX5_isCritical 34 = .ok (.goto 4, 3) := by decide +kernel
theorem dX5_isCritical_37 : decode cX5_isCritical 37 = .ok (.iconst 0, 1) := by decide +kernel
theorem dX5_isCritical_38 : decode cX5_isCritical 38 = .ok (.ireturn, 1) := by decide +kernel
set_option maxRecDepth 20000 in
theorem ggX5_demand_X5_in : GoodIn wsX5_demand wsX5_in := goodIn_r _ [5] (by decide +kernel) (by decide +kernel)
set_option maxRecDepth 20000 in
theorem gX5_demand_X5_in : GoodIn wsX5_demand (va_wsS RX5 53 yX5_in wsX5_in) := goodIn_app (goodIn_of _ (by decide +kernel)) ggX5_demand_X5_in
set_option maxRecDepth 20000 in
theorem ggX5_demand_X5_demandOf : GoodIn wsX5_demand wsX5_demandOf := goodIn_r _ [9, 10, 11, 12, 13, 4, 14, 15, 16, 17, 18, 19, 20, 21, 22, 23, 24, 25, 26, 2, 3, 5, 31, 32, 33, 34, 35, 36, 37, 38, 39, 40, 41, 42, 43, 44, 45, 46, 47, 48, 49, 50, 51, 52, 53, 54, 55, 56, 57, 58, 59, 60, 61, 62] (by decide +kernel) (by decide +kernel)
set_option maxRecDepth 20000 in
theorem gX5_demand_X5_demandOf : GoodIn wsX5_demand (wsV RX5 79 RX5 yX5_demandOf wsX5_demandOf) := goodIn_app (goodIn_of _ (by decide +kernel)) ggX5_demand_X5_demandOf
set_option maxRecDepth 20000 in
theorem ggX5_demand_X5_fails : GoodIn wsX5_demand wsX5_fails := goodIn_r _ [30, 1, 31, 32, 33, 34, 35, 36, 37, 38, 39, 40, 41, 42, 43, 44, 45, 46, 47, 48, 49, 50, 51, 52, 53, 54, 55, 56, 57, 58, 59, 60, 61, 62] (by decide +kernel) (by decide +kernel)
set_option maxRecDepth 20000 in
theorem gX5_demand_X5_fails : GoodIn wsX5_demand (wsV RX5 107 RX5 yX5_fails wsX5_fails) := goodIn_app (goodIn_of _ (by decide +kernel)) ggX5_demand_X5_fails
theorem dX5_demand_0 : decode cX5_demand 0 = .ok (.aload_n 0, 1) := by decide +kernel
theorem dX5_demand_1 : decode cX5_demand 1 = .ok (.iconst 0, 1) := by decide +kernel
theorem dX5_demand_2 : decode cX5_demand 2 = .ok (.putfield 50, 3) := by decide +kernel
theorem dX5_demand_5 : decode cX5_demand 5 = .ok (.iload_n 1, 1) := by decide +kernel
theorem dX5_demand_6 : decode cX5_demand 6 = .ok (.iconst 0, 1) := by decide +kernel
theorem dX5_demand_7 : decode cX5_demand 7 = .ok (.iconst 1, 1) := by decide +kernel
theorem dX5_demand_8 : decode cX5_demand 8 = .ok (.invokestatic 53, 3) := by decide +kernel
theorem dX5_demand_11 : decode cX5_demand 11 = .ok (.ifCond .eq 23, 3) := by decide +kernel
theorem dX5_demand_14 : decode cX5_demand 14 = .ok (.iload_n 2, 1) := by decide +kernel
theorem dX5_demand_15 : decode cX5_demand 15 = .ok (.iconst 0, 1) := by decide +kernel
theorem dX5_demand_16 : decode cX5_demand 16 = .ok (.sipush 200, 3) := by decide +kernel
theorem dX5_demand_19 : decode cX5_demand 19 = .ok (.invokestatic 53, 3) := by decide +kernel
theorem dX5_demand_22 : decode cX5_demand 22 = .ok (.ifCond .eq 12, 3) := by decide +kernel
theorem dX5_demand_25 : decode cX5_demand 25 = .ok (.aload_n 0, 1) := by decide +kernel
theorem dX5_demand_26 : decode cX5_demand 26 = .ok (.iload_n 1, 1) := by decide +kernel
theorem dX5_demand_27 : decode cX5_demand 27 = .ok (.iload_n 2, 1) := by decide +kernel
theorem dX5_demand_28 : decode cX5_demand 28 = .ok (.invokevirtual 79, 3) := by decide +kernel
theorem dX5_demand_31 : decode cX5_demand 31 = .ok (.goto 8, 3) := by decide +kernel
theorem dX5_demand_34 : decode cX5_demand 34 = .ok (.aload_n 0, 1) := by decide +kernel
theorem dX5_demand_35 : decode cX5_demand 35 = .ok (.iconst 1, 1) := by decide +kernel
theorem dX5_demand_36 : decode cX5_demand 36 = .ok (.invokevirtual 107, 3) := by decide +kernel
theorem dX5_demand_39 : decode cX5_demand 39 = .ok (.ireturn, 1) := by decide +kernel
set_option maxRecDepth 20000 in
theorem ggX5_tightestOf_X5_demandOf : GoodIn wsX5_tightestOf wsX5_demandOf := goodIn_r _ [5, 6, 7, 8, 9, 4, 10, 11, 12, 13, 14, 15, 16, 17, 18, 19, 20, 21, 22, 23, 24, 25, 26, 27, 28, 29, 30, 31, 32, 33, 34, 35, 36, 37, 38, 39, 40, 41, 42, 43, 44, 45, 46, 47, 48, 49, 50, 51, 52, 53, 54, 55, 56, 57] (by decide +kernel) (by decide +kernel)
set_option maxRecDepth 20000 in
theorem gX5_tightestOf_X5_demandOf : GoodIn wsX5_tightestOf (wsV RX5 79 RX5 yX5_demandOf wsX5_demandOf) := goodIn_app (goodIn_of _ (by decide +kernel)) ggX5_tightestOf_X5_demandOf
theorem dX5_tightestOf_0 : decode cX5_tightestOf 0 = .ok (.iconst 1, 1) := by decide +kernel
theorem dX5_tightestOf_1 : decode cX5_tightestOf 1 = .ok (.istore_n 2, 1) := by decide +kernel
theorem dX5_tightestOf_2 : decode cX5_tightestOf 2 = .ok (.iconst 1, 1) := by decide +kernel
theorem dX5_tightestOf_3 : decode cX5_tightestOf 3 = .ok (.aload_n 0, 1) := by decide +kernel
theorem dX5_tightestOf_4 : decode cX5_tightestOf 4 = .ok (.iload_n 1, 1) := by decide +kernel
theorem dX5_tightestOf_5 : decode cX5_tightestOf 5 = .ok (.iconst 1, 1) := by decide +kernel
theorem dX5_tightestOf_6 : decode cX5_tightestOf 6 = .ok (.invokevirtual 79, 3) := by decide +kernel
theorem dX5_tightestOf_9 : decode cX5_tightestOf 9 = .ok (.isub, 1) := by decide +kernel
theorem dX5_tightestOf_10 : decode cX5_tightestOf 10 = .ok (.istore_n 3, 1) := by decide +kernel
theorem dX5_tightestOf_11 : decode cX5_tightestOf 11 = .ok (.iconst 2, 1) := by decide +kernel
theorem dX5_tightestOf_12 : decode cX5_tightestOf 12 = .ok (.istore 4, 2) := by decide +kernel
theorem dX5_tightestOf_14 : decode cX5_tightestOf 14 = .ok (.iload 4, 2) := by decide +kernel
theorem dX5_tightestOf_16 : decode cX5_tightestOf 16 = .ok (.sipush 200, 3) := by decide +kernel
theorem dX5_tightestOf_19 : decode cX5_tightestOf 19 = .ok (.if_icmp .gt 47, 3) := by decide +kernel
theorem dX5_tightestOf_22 : decode cX5_tightestOf 22 = .ok (.iload 4, 2) := by decide +kernel
theorem dX5_tightestOf_24 : decode cX5_tightestOf 24 = .ok (.aload_n 0, 1) := by decide +kernel
theorem dX5_tightestOf_25 : decode cX5_tightestOf 25 = .ok (.iload_n 1, 1) := by decide +kernel
theorem dX5_tightestOf_26 : decode cX5_tightestOf 26 = .ok (.iload 4, 2) := by decide +kernel
theorem dX5_tightestOf_28 : decode cX5_tightestOf 28 = .ok (.invokevirtual 79, 3) := by decide +kernel
theorem dX5_tightestOf_31 : decode cX5_tightestOf 31 = .ok (.isub, 1) := by decide +kernel
theorem dX5_tightestOf_32 : decode cX5_tightestOf 32 = .ok (.istore 5, 2) := by decide +kernel
theorem dX5_tightestOf_34 : decode cX5_tightestOf 34 = .ok (.iload 5, 2) := by decide +kernel
theorem dX5_tightestOf_36 : decode cX5_tightestOf 36 = .ok (.iload_n 3, 1) := by decide +kernel
theorem dX5_tightestOf_37 : decode cX5_tightestOf 37 = .ok (.if_icmp .ge 8, 3) := by decide +kernel
theorem dX5_tightestOf_40 : decode cX5_tightestOf 40 = .ok (.iload 4, 2) := by decide +kernel
theorem dX5_tightestOf_42 : decode cX5_tightestOf 42 = .ok (.goto 4, 3) := by decide +kernel
theorem dX5_tightestOf_45 : decode cX5_tightestOf 45 = .ok (.iload_n 2, 1) := by decide +kernel
theorem dX5_tightestOf_46 : decode cX5_tightestOf 46 = .ok (.istore_n 2, 1) := by decide +kernel
theorem dX5_tightestOf_47 : decode cX5_tightestOf 47 = .ok (.iload 5, 2) := by decide +kernel
theorem dX5_tightestOf_49 : decode cX5_tightestOf 49 = .ok (.iload_n 3, 1) := by decide +kernel
theorem dX5_tightestOf_50 : decode cX5_tightestOf 50 = .ok (.if_icmp .ge 8, 3) := by decide +kernel
theorem dX5_tightestOf_53 : decode cX5_tightestOf 53 = .ok (.iload 5, 2) := by decide +kernel
theorem dX5_tightestOf_55 : decode cX5_tightestOf 55 = .ok (.goto 4, 3) := by decide +kernel
theorem dX5_tightestOf_58 : decode cX5_tightestOf 58 = .ok (.iload_n 3, 1) := by decide +kernel
theorem dX5_tightestOf_59 : decode cX5_tightestOf 59 = .ok (.istore_n 3, 1) := by decide +kernel
theorem dX5_tightestOf_60 : decode cX5_tightestOf 60 = .ok (.iinc 4 1, 3) := by decide +kernel
theorem dX5_tightestOf_63 : decode cX5_tightestOf 63 = .ok (.goto (-49), 3) := by decide +kernel
theorem dX5_tightestOf_66 : decode cX5_tightestOf 66 = .ok (.iload_n 2, 1) := by decide +kernel
theorem dX5_tightestOf_67 : decode cX5_tightestOf 67 = .ok (.ireturn, 1) := by decide +kernel
set_option maxRecDepth 20000 in
theorem ggX5_slack_X5_in : GoodIn wsX5_slack wsX5_in := goodIn_r _ [5] (by decide +kernel) (by decide +kernel)
set_option maxRecDepth 20000 in
theorem gX5_slack_X5_in : GoodIn wsX5_slack (va_wsS RX5 53 yX5_in wsX5_in) := goodIn_app (goodIn_of _ (by decide +kernel)) ggX5_slack_X5_in
set_option maxRecDepth 20000 in
theorem ggX5_slack_X5_fails : GoodIn wsX5_slack wsX5_fails := goodIn_r _ [9, 1, 35, 36, 37, 38, 39, 40, 41, 42, 43, 44, 45, 46, 47, 48, 49, 50, 51, 52, 53, 54, 55, 56, 57, 58, 59, 60, 61, 62, 63, 64, 65, 66] (by decide +kernel) (by decide +kernel)
set_option maxRecDepth 20000 in
theorem gX5_slack_X5_fails : GoodIn wsX5_slack (wsV RX5 107 RX5 yX5_fails wsX5_fails) := goodIn_app (goodIn_of _ (by decide +kernel)) ggX5_slack_X5_fails
set_option maxRecDepth 20000 in
theorem ggX5_slack_X5_tightestOf : GoodIn wsX5_slack wsX5_tightestOf := goodIn_r _ [13, 14, 15, 16, 4, 17, 18, 19, 20, 21, 22, 23, 24, 25, 26, 27, 28, 29, 30, 31, 32, 33, 34, 2, 3, 5, 35, 36, 37, 38, 39, 40, 41, 42, 43, 44, 45, 46, 47, 48, 49, 50, 51, 52, 53, 54, 55, 56, 57, 58, 59, 60, 61, 62, 63, 64, 65, 66] (by decide +kernel) (by decide +kernel)
set_option maxRecDepth 20000 in
theorem gX5_slack_X5_tightestOf : GoodIn wsX5_slack (wsV RX5 146 RX5 yX5_tightestOf wsX5_tightestOf) := goodIn_app (goodIn_of _ (by decide +kernel)) ggX5_slack_X5_tightestOf
set_option maxRecDepth 20000 in
theorem ggX5_slack_X5_demandOf : GoodIn wsX5_slack wsX5_demandOf := goodIn_r _ [17, 18, 19, 20, 21, 4, 22, 23, 24, 25, 26, 27, 28, 29, 30, 31, 32, 33, 34, 2, 3, 5, 35, 36, 37, 38, 39, 40, 41, 42, 43, 44, 45, 46, 47, 48, 49, 50, 51, 52, 53, 54, 55, 56, 57, 58, 59, 60, 61, 62, 63, 64, 65, 66] (by decide +kernel) (by decide +kernel)
set_option maxRecDepth 20000 in
theorem gX5_slack_X5_demandOf : GoodIn wsX5_slack (wsV RX5 79 RX5 yX5_demandOf wsX5_demandOf) := goodIn_app (goodIn_of _ (by decide +kernel)) ggX5_slack_X5_demandOf
theorem dX5_slack_0 : decode cX5_slack 0 = .ok (.aload_n 0, 1) := by decide +kernel
theorem dX5_slack_1 : decode cX5_slack 1 = .ok (.iconst 0, 1) := by decide +kernel
theorem dX5_slack_2 : decode cX5_slack 2 = .ok (.putfield 50, 3) := by decide +kernel
theorem dX5_slack_5 : decode cX5_slack 5 = .ok (.iload_n 1, 1) := by decide +kernel
theorem dX5_slack_6 : decode cX5_slack 6 = .ok (.iconst 0, 1) := by decide +kernel
theorem dX5_slack_7 : decode cX5_slack 7 = .ok (.iconst 1, 1) := by decide +kernel
theorem dX5_slack_8 : decode cX5_slack 8 = .ok (.invokestatic 53, 3) := by decide +kernel
theorem dX5_slack_11 : decode cX5_slack 11 = .ok (.ifCond .ne 9, 3) := by decide +kernel
theorem dX5_slack_14 : decode cX5_slack 14 = .ok (.aload_n 0, 1) := by decide +kernel
theorem dX5_slack_15 : decode cX5_slack 15 = .ok (.iconst 1, 1) := by decide +kernel
theorem dX5_slack_16 : decode cX5_slack 16 = .ok (.invokevirtual 107, 3) := by decide +kernel
theorem dX5_slack_19 : decode cX5_slack 19 = .ok (.ireturn, 1) := by decide +kernel
theorem dX5_slack_20 : decode cX5_slack 20 = .ok (.aload_n 0, 1) := by decide +kernel
theorem dX5_slack_21 : decode cX5_slack 21 = .ok (.iload_n 1, 1) := by decide +kernel
theorem dX5_slack_22 : decode cX5_slack 22 = .ok (.invokevirtual 146, 3) := by decide +kernel
theorem dX5_slack_25 : decode cX5_slack 25 = .ok (.istore_n 2, 1) := by decide +kernel
theorem dX5_slack_26 : decode cX5_slack 26 = .ok (.iload_n 2, 1) := by decide +kernel
theorem dX5_slack_27 : decode cX5_slack 27 = .ok (.aload_n 0, 1) := by decide +kernel
theorem dX5_slack_28 : decode cX5_slack 28 = .ok (.iload_n 1, 1) := by decide +kernel
theorem dX5_slack_29 : decode cX5_slack 29 = .ok (.iload_n 2, 1) := by decide +kernel
theorem dX5_slack_30 : decode cX5_slack 30 = .ok (.invokevirtual 79, 3) := by decide +kernel
theorem dX5_slack_33 : decode cX5_slack 33 = .ok (.isub, 1) := by decide +kernel
theorem dX5_slack_34 : decode cX5_slack 34 = .ok (.ireturn, 1) := by decide +kernel
set_option maxRecDepth 20000 in
theorem ggX5_tightest_X5_in : GoodIn wsX5_tightest wsX5_in := goodIn_r _ [5] (by decide +kernel) (by decide +kernel)
set_option maxRecDepth 20000 in
theorem gX5_tightest_X5_in : GoodIn wsX5_tightest (va_wsS RX5 53 yX5_in wsX5_in) := goodIn_app (goodIn_of _ (by decide +kernel)) ggX5_tightest_X5_in
set_option maxRecDepth 20000 in
theorem ggX5_tightest_X5_tightestOf : GoodIn wsX5_tightest wsX5_tightestOf := goodIn_r _ [9, 10, 11, 12, 4, 13, 14, 15, 16, 17, 18, 19, 20, 21, 22, 23, 24, 25, 26, 27, 28, 29, 30, 2, 3, 5, 35, 36, 37, 38, 39, 40, 41, 42, 43, 44, 45, 46, 47, 48, 49, 50, 51, 52, 53, 54, 55, 56, 57, 58, 59, 60, 61, 62, 63, 64, 65, 66] (by decide +kernel) (by decide +kernel)
set_option maxRecDepth 20000 in
theorem gX5_tightest_X5_tightestOf : GoodIn wsX5_tightest (wsV RX5 146 RX5 yX5_tightestOf wsX5_tightestOf) := goodIn_app (goodIn_of _ (by decide +kernel)) ggX5_tightest_X5_tightestOf
set_option maxRecDepth 20000 in
theorem ggX5_tightest_X5_fails : GoodIn wsX5_tightest wsX5_fails := goodIn_r _ [34, 1, 35, 36, 37, 38, 39, 40, 41, 42, 43, 44, 45, 46, 47, 48, 49, 50, 51, 52, 53, 54, 55, 56, 57, 58, 59, 60, 61, 62, 63, 64, 65, 66] (by decide +kernel) (by decide +kernel)
set_option maxRecDepth 20000 in
theorem gX5_tightest_X5_fails : GoodIn wsX5_tightest (wsV RX5 107 RX5 yX5_fails wsX5_fails) := goodIn_app (goodIn_of _ (by decide +kernel)) ggX5_tightest_X5_fails
theorem dX5_tightest_0 : decode cX5_tightest 0 = .ok (.aload_n 0, 1) := by decide +kernel
theorem dX5_tightest_1 : decode cX5_tightest 1 = .ok (.iconst 0, 1) := by decide +kernel
theorem dX5_tightest_2 : decode cX5_tightest 2 = .ok (.putfield 50, 3) := by decide +kernel
theorem dX5_tightest_5 : decode cX5_tightest 5 = .ok (.iload_n 1, 1) := by decide +kernel
theorem dX5_tightest_6 : decode cX5_tightest 6 = .ok (.iconst 0, 1) := by decide +kernel
theorem dX5_tightest_7 : decode cX5_tightest 7 = .ok (.iconst 1, 1) := by decide +kernel
theorem dX5_tightest_8 : decode cX5_tightest 8 = .ok (.invokestatic 53, 3) := by decide +kernel
theorem dX5_tightest_11 : decode cX5_tightest 11 = .ok (.ifCond .eq 11, 3) := by decide +kernel
theorem dX5_tightest_14 : decode cX5_tightest 14 = .ok (.aload_n 0, 1) := by decide +kernel
theorem dX5_tightest_15 : decode cX5_tightest 15 = .ok (.iload_n 1, 1) := by decide +kernel
theorem dX5_tightest_16 : decode cX5_tightest 16 = .ok (.invokevirtual 146, 3) := by decide +kernel
theorem dX5_tightest_19 : decode cX5_tightest 19 = .ok (.goto 8, 3) := by decide +kernel
theorem dX5_tightest_22 : decode cX5_tightest 22 = .ok (.aload_n 0, 1) := by decide +kernel
theorem dX5_tightest_23 : decode cX5_tightest 23 = .ok (.iconst 1, 1) := by decide +kernel
theorem dX5_tightest_24 : decode cX5_tightest 24 = .ok (.invokevirtual 107, 3) := by decide +kernel
theorem dX5_tightest_27 : decode cX5_tightest 27 = .ok (.ireturn, 1) := by decide +kernel
set_option maxRecDepth 20000 in
theorem ggX5_passes_X5_in : GoodIn wsX5_passes wsX5_in := goodIn_r _ [6] (by decide +kernel) (by decide +kernel)
set_option maxRecDepth 20000 in
theorem gX5_passes_X5_in : GoodIn wsX5_passes (va_wsS RX5 53 yX5_in wsX5_in) := goodIn_app (goodIn_of _ (by decide +kernel)) ggX5_passes_X5_in
set_option maxRecDepth 20000 in
theorem ggX5_passes_X5_isPassing : GoodIn wsX5_passes wsX5_isPassing := goodIn_r _ [10, 11, 12, 13, 5, 14, 15, 16, 17, 18, 2, 19, 20, 21, 22, 23, 24, 25, 26, 27, 28, 29, 30, 31, 32, 33, 34, 3, 4, 6, 35, 36, 37, 38, 39, 40, 41, 42, 43, 44, 45, 46, 47, 48, 49, 50, 51, 52, 53, 54, 55, 56, 57, 58, 59, 60, 61, 62, 63, 64, 65, 66] (by decide +kernel) (by decide +kernel)
set_option maxRecDepth 20000 in
theorem gX5_passes_X5_isPassing : GoodIn wsX5_passes (wsV RX5 85 RX5 yX5_isPassing wsX5_isPassing) := goodIn_app (goodIn_of _ (by decide +kernel)) ggX5_passes_X5_isPassing
theorem dX5_passes_0 : decode cX5_passes 0 = .ok (.aload_n 0, 1) := by decide +kernel
theorem dX5_passes_1 : decode cX5_passes 1 = .ok (.iload_n 1, 1) := by decide +kernel
theorem dX5_passes_2 : decode cX5_passes 2 = .ok (.iconst 0, 1) := by decide +kernel
theorem dX5_passes_3 : decode cX5_passes 3 = .ok (.iconst 1, 1) := by decide +kernel
theorem dX5_passes_4 : decode cX5_passes 4 = .ok (.invokestatic 53, 3) := by decide +kernel
theorem dX5_passes_7 : decode cX5_passes 7 = .ok (.ifCond .eq 17, 3) := by decide +kernel
theorem dX5_passes_10 : decode cX5_passes 10 = .ok (.iload_n 2, 1) := by decide +kernel
theorem dX5_passes_11 : decode cX5_passes 11 = .ok (.iconst 1, 1) := by decide +kernel
theorem dX5_passes_12 : decode cX5_passes 12 = .ok (.bipush 8, 2) := by decide +kernel
theorem dX5_passes_14 : decode cX5_passes 14 = .ok (.invokestatic 53, 3) := by decide +kernel
theorem dX5_passes_17 : decode cX5_passes 17 = .ok (.ifCond .eq 7, 3) := by decide +kernel
theorem dX5_passes_20 : decode cX5_passes 20 = .ok (.iconst 0, 1) := by decide +kernel
theorem dX5_passes_21 : decode cX5_passes 21 = .ok (.goto 4, 3) := by decide +kernel
theorem dX5_passes_24 : decode cX5_passes 24 = .ok (.iconst 1, 1) := by decide +kernel
theorem dX5_passes_25 : decode cX5_passes 25 = .ok (.putfield 50, 3) := by decide +kernel
theorem dX5_passes_28 : decode cX5_passes 28 = .ok (.aload_n 0, 1) := by decide +kernel
theorem dX5_passes_29 : decode cX5_passes 29 = .ok (.getfield 50, 3) := by decide +kernel
theorem dX5_passes_32 : decode cX5_passes 32 = .ok (.iconst 1, 1) := by decide +kernel
theorem dX5_passes_33 : decode cX5_passes 33 = .ok (.if_icmp .ne 5, 3) := by decide +kernel
theorem dX5_passes_36 : decode cX5_passes 36 = .ok (.iconst 0, 1) := by decide +kernel
theorem dX5_passes_37 : decode cX5_passes 37 = .ok (.ireturn, 1) := by decide +kernel
theorem dX5_passes_38 : decode cX5_passes 38 = .ok (.aload_n 0, 1) := by decide +kernel
theorem dX5_passes_39 : decode cX5_passes 39 = .ok (.getfield 9, 3) := by decide +kernel
theorem dX5_passes_42 : decode cX5_passes 42 = .ok (.iconst 1, 1) := by decide +kernel
theorem dX5_passes_43 : decode cX5_passes 43 = .ok (.iaload, 1) := by decide +kernel
theorem dX5_passes_44 : decode cX5_passes 44 = .ok (.istore_n 3, 1) := by decide +kernel
theorem dX5_passes_45 : decode cX5_passes 45 = .ok (.aload_n 0, 1) := by decide +kernel
theorem dX5_passes_46 : decode cX5_passes 46 = .ok (.getfield 9, 3) := by decide +kernel
theorem dX5_passes_49 : decode cX5_passes 49 = .ok (.iconst 1, 1) := by decide +kernel
theorem dX5_passes_50 : decode cX5_passes 50 = .ok (.iload_n 2, 1) := by decide +kernel
theorem dX5_passes_51 : decode cX5_passes 51 = .ok (.iastore, 1) := by decide +kernel
theorem dX5_passes_52 : decode cX5_passes 52 = .ok (.aload_n 0, 1) := by decide +kernel
theorem dX5_passes_53 : decode cX5_passes 53 = .ok (.iload_n 1, 1) := by decide +kernel
theorem dX5_passes_54 : decode cX5_passes 54 = .ok (.invokevirtual 85, 3) := by decide +kernel
theorem dX5_passes_57 : decode cX5_passes 57 = .ok (.istore 4, 2) := by decide +kernel
theorem dX5_passes_59 : decode cX5_passes 59 = .ok (.aload_n 0, 1) := by decide +kernel
theorem dX5_passes_60 : decode cX5_passes 60 = .ok (.getfield 9, 3) := by decide +kernel
theorem dX5_passes_63 : decode cX5_passes 63 = .ok (.iconst 1, 1) := by decide +kernel
theorem dX5_passes_64 : decode cX5_passes 64 = .ok (.iload_n 3, 1) := by decide +kernel
theorem dX5_passes_65 : decode cX5_passes 65 = .ok (.iastore, 1) := by decide +kernel
theorem dX5_passes_66 : decode cX5_passes 66 = .ok (.iload 4, 2) := by decide +kernel
theorem dX5_passes_68 : decode cX5_passes 68 = .ok (.ireturn, 1) := by decide +kernel
set_option maxRecDepth 20000 in
theorem ggX5_feasibleScales_X5_isPassing : GoodIn wsX5_feasibleScales wsX5_isPassing := goodIn_r _ [7, 8, 9, 10, 6, 11, 12, 13, 14, 15, 2, 16, 17, 18, 19, 20, 21, 22, 23, 24, 25, 26, 27, 28, 29, 30, 31, 32, 33, 34, 35, 36, 37, 38, 39, 40, 41, 42, 43, 44, 45, 46, 47, 48, 49, 50, 51, 52, 53, 54, 55, 56, 57, 58, 59, 60, 61, 62, 63, 64, 65, 66] (by decide +kernel) (by decide +kernel)
set_option maxRecDepth 20000 in
theorem gX5_feasibleScales_X5_isPassing : GoodIn wsX5_feasibleScales (wsV RX5 85 RX5 yX5_isPassing wsX5_isPassing) := goodIn_app (goodIn_of _ (by decide +kernel)) ggX5_feasibleScales_X5_isPassing
theorem dX5_feasibleScales_0 : decode cX5_feasibleScales 0 = .ok (.aload_n 0, 1) := by decide +kernel
theorem dX5_feasibleScales_1 : decode cX5_feasibleScales 1 = .ok (.iconst 0, 1) := by decide +kernel
theorem dX5_feasibleScales_2 : decode cX5_feasibleScales 2 = .ok (.putfield 50, 3) := by decide +kernel
theorem dX5_feasibleScales_5 : decode cX5_feasibleScales 5 = .ok (.aload_n 0, 1) := by decide +kernel
theorem dX5_feasibleScales_6 : decode cX5_feasibleScales 6 = .ok (.getfield 9, 3) := by decide +kernel
theorem dX5_feasibleScales_9 : decode cX5_feasibleScales 9 = .ok (.iconst 1, 1) := by decide +kernel
theorem dX5_feasibleScales_10 : decode cX5_feasibleScales 10 = .ok (.iaload, 1) := by decide +kernel
theorem dX5_feasibleScales_11 : decode cX5_feasibleScales 11 = .ok (.istore_n 1, 1) := by decide +kernel
theorem dX5_feasibleScales_12 : decode cX5_feasibleScales 12 = .ok (.iconst 0, 1) := by decide +kernel
theorem dX5_feasibleScales_13 : decode cX5_feasibleScales 13 = .ok (.istore_n 2, 1) := by decide +kernel
theorem dX5_feasibleScales_14 : decode cX5_feasibleScales 14 = .ok (.iconst 1, 1) := by decide +kernel
theorem dX5_feasibleScales_15 : decode cX5_feasibleScales 15 = .ok (.istore_n 3, 1) := by decide +kernel
theorem dX5_feasibleScales_16 : decode cX5_feasibleScales 16 = .ok (.iload_n 3, 1) := by decide +kernel
theorem dX5_feasibleScales_17 : decode cX5_feasibleScales 17 = .ok (.bipush 8, 2) := by decide +kernel
theorem dX5_feasibleScales_19 : decode cX5_feasibleScales 19 = .ok (.if_icmp .gt 42, 3) := by decide +kernel
theorem dX5_feasibleScales_22 : decode cX5_feasibleScales 22 = .ok (.aload_n 0, 1) := by decide +kernel
theorem dX5_feasibleScales_23 : decode cX5_feasibleScales 23 = .ok (.getfield 9, 3) := by decide +kernel
theorem dX5_feasibleScales_26 : decode cX5_feasibleScales 26 = .ok (.iconst 1, 1) := by decide +kernel
theorem dX5_feasibleScales_27 : decode cX5_feasibleScales 27 = .ok (.iload_n 3, 1) := by decide +kernel
theorem dX5_feasibleScales_28 : decode cX5_feasibleScales 28 = .ok (.iastore, 1) := by decide +kernel
theorem dX5_feasibleScales_29 : decode cX5_feasibleScales 29 = .ok (.iload_n 2, 1) := by decide +kernel
theorem dX5_feasibleScales_30 : decode cX5_feasibleScales 30 = .ok (.aload_n 0, 1) := by decide +kernel
theorem dX5_feasibleScales_31 : decode cX5_feasibleScales 31 = .ok (.iconst 0, 1) := by decide +kernel
theorem dX5_feasibleScales_32 : decode cX5_feasibleScales 32 = .ok (.invokevirtual 85, 3) := by decide +kernel
theorem dX5_feasibleScales_35 : decode cX5_feasibleScales 35 = .ok (.ifCond .eq 17, 3) := by decide +kernel
theorem dX5_feasibleScales_38 : decode cX5_feasibleScales 38 = .ok (.aload_n 0, 1) := by decide +kernel
theorem dX5_feasibleScales_39 : decode cX5_feasibleScales 39 = .ok (.iconst 1, 1) := by decide +kernel
theorem dX5_feasibleScales_40 : decode cX5_feasibleScales 40 = .ok (.invokevirtual 85, 3) := by decide +kernel
theorem dX5_feasibleScales_43 : decode cX5_feasibleScales 43 = .ok (.ifCond .eq 9, 3) := by decide +kernel
theorem dX5_feasibleScales_46 : decode cX5_feasibleScales 46 = .ok (.iconst 1, 1) := by decide +kernel
theorem dX5_feasibleScales_47 : decode cX5_feasibleScales 47 = .ok (.iload_n 3, 1) := by decide +kernel
theorem dX5_feasibleScales_48 : decode cX5_feasibleScales 48 = .ok (.ishl, 1) := by decide +kernel
theorem dX5_feasibleScales_49 : decode cX5_feasibleScales 49 = .ok (.goto 4, 3) := by decide +kernel
theorem dX5_feasibleScales_52 : decode cX5_feasibleScales 52 = .ok (.iconst 0, 1) := by decide +kernel
theorem dX5_feasibleScales_53 : decode cX5_feasibleScales 53 = .ok (.ior, 1) := by decide +kernel
theorem dX5_feasibleScales_54 : decode cX5_feasibleScales 54 = .ok (.istore_n 2, 1) := by decide +kernel
theorem dX5_feasibleScales_55 : decode cX5_feasibleScales 55 = .ok (.iinc 3 1, 3) := by decide +kernel
theorem dX5_feasibleScales_58 : decode cX5_feasibleScales 58 = .ok (.goto (-42), 3) := by decide +kernel
theorem dX5_feasibleScales_61 : decode cX5_feasibleScales 61 = .ok (.aload_n 0, 1) := by decide +kernel
theorem dX5_feasibleScales_62 : decode cX5_feasibleScales 62 = .ok (.getfield 9, 3) := by decide +kernel
theorem dX5_feasibleScales_65 : decode cX5_feasibleScales 65 = .ok (.iconst 1, 1) := by decide +kernel
theorem dX5_feasibleScales_66 : decode cX5_feasibleScales 66 = .ok (.iload_n 1, 1) := by decide +kernel
theorem dX5_feasibleScales_67 : decode cX5_feasibleScales 67 = .ok (.iastore, 1) := by decide +kernel
theorem dX5_feasibleScales_68 : decode cX5_feasibleScales 68 = .ok (.iload_n 2, 1) := by decide +kernel
theorem dX5_feasibleScales_69 : decode cX5_feasibleScales 69 = .ok (.ireturn, 1) := by decide +kernel
set_option maxRecDepth 20000 in
theorem ggX5_utilizationOf_X5_isHighTask : GoodIn wsX5_utilizationOf wsX5_isHighTask := goodIn_r _ [6, 1, 11, 12, 13, 14, 15, 16, 17, 18, 19, 20, 21, 22, 23, 24, 25, 26, 27, 28, 29, 30, 31, 32, 33, 34, 35, 36, 37, 38, 39, 40, 41, 42] (by decide +kernel) (by decide +kernel)
set_option maxRecDepth 20000 in
theorem gX5_utilizationOf_X5_isHighTask : GoodIn wsX5_utilizationOf (wsV RX5 64 RX5 yX5_isHighTask wsX5_isHighTask) := goodIn_app (goodIn_of _ (by decide +kernel)) ggX5_utilizationOf_X5_isHighTask
set_option maxRecDepth 20000 in
theorem ggX5_utilizationOf_X5_periodOf : GoodIn wsX5_utilizationOf wsX5_periodOf := goodIn_r _ [10, 1, 11, 12, 13, 14, 15, 16, 17, 18, 19, 20, 21, 22, 23, 24, 25, 26, 27, 28, 29, 30, 31, 32, 33, 34, 35, 36, 37, 38, 39, 40, 41, 42] (by decide +kernel) (by decide +kernel)
set_option maxRecDepth 20000 in
theorem gX5_utilizationOf_X5_periodOf : GoodIn wsX5_utilizationOf (wsV RX5 72 RX5 yX5_periodOf wsX5_periodOf) := goodIn_app (goodIn_of _ (by decide +kernel)) ggX5_utilizationOf_X5_periodOf
theorem dX5_utilizationOf_0 : decode cX5_utilizationOf 0 = .ok (.dconst 0, 1) := by decide +kernel
theorem dX5_utilizationOf_1 : decode cX5_utilizationOf 1 = .ok (.dstore_n 2, 1) := by decide +kernel
theorem dX5_utilizationOf_2 : decode cX5_utilizationOf 2 = .ok (.iconst 0, 1) := by decide +kernel
theorem dX5_utilizationOf_3 : decode cX5_utilizationOf 3 = .ok (.istore 4, 2) := by decide +kernel
theorem dX5_utilizationOf_5 : decode cX5_utilizationOf 5 = .ok (.iload 4, 2) := by decide +kernel
theorem dX5_utilizationOf_7 : decode cX5_utilizationOf 7 = .ok (.aload_n 0, 1) := by decide +kernel
theorem dX5_utilizationOf_8 : decode cX5_utilizationOf 8 = .ok (.getfield 9, 3) := by decide +kernel
theorem dX5_utilizationOf_11 : decode cX5_utilizationOf 11 = .ok (.iconst 0, 1) := by decide +kernel
theorem dX5_utilizationOf_12 : decode cX5_utilizationOf 12 = .ok (.iaload, 1) := by decide +kernel
theorem dX5_utilizationOf_13 : decode cX5_utilizationOf 13 = .ok (.if_icmp .ge 61, 3) := by decide +kernel
theorem dX5_utilizationOf_16 : decode cX5_utilizationOf 16 = .ok (.iload_n 1, 1) := by decide +kernel
theorem dX5_utilizationOf_17 : decode cX5_utilizationOf 17 = .ok (.ifCond .eq 12, 3) := by decide +kernel
theorem dX5_utilizationOf_20 : decode cX5_utilizationOf 20 = .ok (.aload_n 0, 1) := by decide +kernel
theorem dX5_utilizationOf_21 : decode cX5_utilizationOf 21 = .ok (.iload 4, 2) := by decide +kernel
theorem dX5_utilizationOf_23 : decode cX5_utilizationOf 23 = .ok (.invokevirtual 64, 3) := by decide +kernel
theorem dX5_utilizationOf_26 : decode cX5_utilizationOf 26 = .ok (.ifCond .eq 42, 3) := by decide +kernel
theorem dX5_utilizationOf_29 : decode cX5_utilizationOf 29 = .ok (.dload_n 2, 1) := by decide +kernel
theorem dX5_utilizationOf_30 : decode cX5_utilizationOf 30 = .ok (.iload_n 1, 1) := by decide +kernel
theorem dX5_utilizationOf_31 : decode cX5_utilizationOf 31 = .ok (.ifCond .ne 16, 3) := by decide +kernel
theorem dX5_utilizationOf_34 : decode cX5_utilizationOf 34 = .ok (.aload_n 0, 1) := by decide +kernel
theorem dX5_utilizationOf_35 : decode cX5_utilizationOf 35 = .ok (.getfield 9, 3) := by decide +kernel
theorem dX5_utilizationOf_38 : decode cX5_utilizationOf 38 = .ok (.bipush 18, 2) := by decide +kernel
theorem dX5_utilizationOf_40 : decode cX5_utilizationOf 40 = .ok (.iload 4, 2) := by decide +kernel
theorem dX5_utilizationOf_42 : decode cX5_utilizationOf 42 = .ok (.iadd, 1) := by decide +kernel
theorem dX5_utilizationOf_43 : decode cX5_utilizationOf 43 = .ok (.iaload, 1) := by decide +kernel
theorem dX5_utilizationOf_44 : decode cX5_utilizationOf 44 = .ok (.goto 13, 3) := by decide +kernel
theorem dX5_utilizationOf_47 : decode cX5_utilizationOf 47 = .ok (.aload_n 0, 1) := by decide +kernel
theorem dX5_utilizationOf_48 : decode cX5_utilizationOf 48 = .ok (.getfield 9, 3) := by decide +kernel
theorem dX5_utilizationOf_51 : decode cX5_utilizationOf 51 = .ok (.bipush 26, 2) := by decide +kernel
theorem dX5_utilizationOf_53 : decode cX5_utilizationOf 53 = .ok (.iload 4, 2) := by decide +kernel
theorem dX5_utilizationOf_55 : decode cX5_utilizationOf 55 = .ok (.iadd, 1) := by decide +kernel
theorem dX5_utilizationOf_56 : decode cX5_utilizationOf 56 = .ok (.iaload, 1) := by decide +kernel
theorem dX5_utilizationOf_57 : decode cX5_utilizationOf 57 = .ok (.i2d, 1) := by decide +kernel
theorem dX5_utilizationOf_58 : decode cX5_utilizationOf 58 = .ok (.aload_n 0, 1) := by decide +kernel
theorem dX5_utilizationOf_59 : decode cX5_utilizationOf 59 = .ok (.iload 4, 2) := by decide +kernel
theorem dX5_utilizationOf_61 : decode cX5_utilizationOf 61 = .ok (.invokevirtual 72, 3) := by decide +kernel
theorem dX5_utilizationOf_64 : decode cX5_utilizationOf 64 = .ok (.i2d, 1) := by decide +kernel
theorem dX5_utilizationOf_65 : decode cX5_utilizationOf 65 = .ok (.ddiv, 1) := by decide +kernel
theorem dX5_utilizationOf_66 : decode cX5_utilizationOf 66 = .ok (.dadd, 1) := by decide +kernel
theorem dX5_utilizationOf_67 : decode cX5_utilizationOf 67 = .ok (.dstore_n 2, 1) := by decide +kernel
theorem dX5_utilizationOf_68 : decode cX5_utilizationOf 68 = .ok (.iinc 4 1, 3) := by decide +kernel
theorem dX5_utilizationOf_71 : decode cX5_utilizationOf 71 = .ok (.goto (-66), 3) := by decide +kernel
theorem dX5_utilizationOf_74 : decode cX5_utilizationOf 74 = .ok (.dload_n 2, 1) := by decide +kernel
theorem dX5_utilizationOf_75 : decode cX5_utilizationOf 75 = .ok (.dreturn, 1) := by decide +kernel
set_option maxRecDepth 20000 in
theorem ggX5_utilization_X5_in : GoodIn wsX5_utilization wsX5_in := goodIn_r _ [5] (by decide +kernel) (by decide +kernel)
set_option maxRecDepth 20000 in
theorem gX5_utilization_X5_in : GoodIn wsX5_utilization (va_wsS RX5 53 yX5_in wsX5_in) := goodIn_app (goodIn_of _ (by decide +kernel)) ggX5_utilization_X5_in
set_option maxRecDepth 20000 in
theorem ggX5_utilization_X5_utilizationOf : GoodIn wsX5_utilization wsX5_utilizationOf := goodIn_r _ [9, 10, 11, 12, 13, 4, 14, 15, 16, 17, 18, 19, 20, 21, 22, 23, 24, 25, 26, 27, 28, 29, 30, 31, 32, 33, 34, 35, 36, 37, 38, 39, 40, 41, 42, 43, 44, 45, 46, 47, 48, 49, 50] (by decide +kernel) (by decide +kernel)
set_option maxRecDepth 20000 in
theorem gX5_utilization_X5_utilizationOf : GoodIn wsX5_utilization (wsV RX5 149 RX5 yX5_utilizationOf wsX5_utilizationOf) := goodIn_app (goodIn_of _ (by decide +kernel)) ggX5_utilization_X5_utilizationOf
theorem dX5_utilization_0 : decode cX5_utilization 0 = .ok (.aload_n 0, 1) := by decide +kernel
theorem dX5_utilization_1 : decode cX5_utilization 1 = .ok (.iload_n 1, 1) := by decide +kernel
theorem dX5_utilization_2 : decode cX5_utilization 2 = .ok (.iconst 0, 1) := by decide +kernel
theorem dX5_utilization_3 : decode cX5_utilization 3 = .ok (.iconst 1, 1) := by decide +kernel
theorem dX5_utilization_4 : decode cX5_utilization 4 = .ok (.invokestatic 53, 3) := by decide +kernel
theorem dX5_utilization_7 : decode cX5_utilization 7 = .ok (.ifCond .eq 7, 3) := by decide +kernel
theorem dX5_utilization_10 : decode cX5_utilization 10 = .ok (.iconst 0, 1) := by decide +kernel
theorem dX5_utilization_11 : decode cX5_utilization 11 = .ok (.goto 4, 3) := by decide +kernel
theorem dX5_utilization_14 : decode cX5_utilization 14 = .ok (.iconst 1, 1) := by decide +kernel
theorem dX5_utilization_15 : decode cX5_utilization 15 = .ok (.putfield 50, 3) := by decide +kernel
theorem dX5_utilization_18 : decode cX5_utilization 18 = .ok (.aload_n 0, 1) := by decide +kernel
theorem dX5_utilization_19 : decode cX5_utilization 19 = .ok (.getfield 50, 3) := by decide +kernel
theorem dX5_utilization_22 : decode cX5_utilization 22 = .ok (.ifCond .ne 11, 3) := by decide +kernel
theorem dX5_utilization_25 : decode cX5_utilization 25 = .ok (.aload_n 0, 1) := by decide +kernel
theorem dX5_utilization_26 : decode cX5_utilization 26 = .ok (.iload_n 1, 1) := by decide +kernel
theorem dX5_utilization_27 : decode cX5_utilization 27 = .ok (.invokevirtual 149, 3) := by decide +kernel
theorem dX5_utilization_30 : decode cX5_utilization 30 = .ok (.goto 4, 3) := by decide +kernel
theorem dX5_utilization_33 : decode cX5_utilization 33 = .ok (.dconst 0, 1) := by decide +kernel
theorem dX5_utilization_34 : decode cX5_utilization 34 = .ok (.dreturn, 1) := by decide +kernel
set_option maxRecDepth 20000 in
theorem ggX5_utilizationBits_X5_in : GoodIn wsX5_utilizationBits wsX5_in := goodIn_r _ [5] (by decide +kernel) (by decide +kernel)
set_option maxRecDepth 20000 in
theorem gX5_utilizationBits_X5_in : GoodIn wsX5_utilizationBits (va_wsS RX5 53 yX5_in wsX5_in) := goodIn_app (goodIn_of _ (by decide +kernel)) ggX5_utilizationBits_X5_in
set_option maxRecDepth 20000 in
theorem ggX5_utilizationBits_X5_utilizationOf : GoodIn wsX5_utilizationBits wsX5_utilizationOf := goodIn_r _ [9, 10, 11, 12, 13, 4, 14, 15, 16, 17, 18, 31, 32, 33, 34, 35, 36, 37, 38, 39, 40, 41, 42, 43, 44, 45, 46, 47, 48, 49, 50, 51, 52, 53, 54, 55, 56, 57, 58, 59, 60, 61, 62] (by decide +kernel) (by decide +kernel)
set_option maxRecDepth 20000 in
theorem gX5_utilizationBits_X5_utilizationOf : GoodIn wsX5_utilizationBits (wsV RX5 149 RX5 yX5_utilizationOf wsX5_utilizationOf) := goodIn_app (goodIn_of _ (by decide +kernel)) ggX5_utilizationBits_X5_utilizationOf
set_option maxRecDepth 20000 in
theorem ggX5_utilizationBits_Jxe99ae_doubleToLongBits_ccdee : GoodIn wsX5_utilizationBits wsJxe99ae_doubleToLongBits_ccdee := goodIn_r _ [22, 23, 24, 25, 26, 27, 28, 29, 21, 30] (by decide +kernel) (by decide +kernel)
set_option maxRecDepth 20000 in
theorem gX5_utilizationBits_Jxe99ae_doubleToLongBits_ccdee : GoodIn wsX5_utilizationBits (va_wsS RX5 153 yJxe99ae_doubleToLongBits_ccdee wsJxe99ae_doubleToLongBits_ccdee) := goodIn_app (goodIn_of _ (by decide +kernel)) ggX5_utilizationBits_Jxe99ae_doubleToLongBits_ccdee
theorem dX5_utilizationBits_0 : decode cX5_utilizationBits 0 = .ok (.aload_n 0, 1) := by decide +kernel
theorem dX5_utilizationBits_1 : decode cX5_utilizationBits 1 = .ok (.iload_n 1, 1) := by decide +kernel
theorem dX5_utilizationBits_2 : decode cX5_utilizationBits 2 = .ok (.iconst 0, 1) := by decide +kernel
theorem dX5_utilizationBits_3 : decode cX5_utilizationBits 3 = .ok (.iconst 1, 1) := by decide +kernel
theorem dX5_utilizationBits_4 : decode cX5_utilizationBits 4 = .ok (.invokestatic 53, 3) := by decide +kernel
theorem dX5_utilizationBits_7 : decode cX5_utilizationBits 7 = .ok (.ifCond .eq 7, 3) := by decide +kernel
theorem dX5_utilizationBits_10 : decode cX5_utilizationBits 10 = .ok (.iconst 0, 1) := by decide +kernel
theorem dX5_utilizationBits_11 : decode cX5_utilizationBits 11 = .ok (.goto 4, 3) := by decide +kernel
theorem dX5_utilizationBits_14 : decode cX5_utilizationBits 14 = .ok (.iconst 1, 1) := by decide +kernel
theorem dX5_utilizationBits_15 : decode cX5_utilizationBits 15 = .ok (.putfield 50, 3) := by decide +kernel
theorem dX5_utilizationBits_18 : decode cX5_utilizationBits 18 = .ok (.aload_n 0, 1) := by decide +kernel
theorem dX5_utilizationBits_19 : decode cX5_utilizationBits 19 = .ok (.getfield 50, 3) := by decide +kernel
theorem dX5_utilizationBits_22 : decode cX5_utilizationBits 22 = .ok (.ifCond .ne 14, 3) := by decide +kernel
theorem dX5_utilizationBits_25 : decode cX5_utilizationBits 25 = .ok (.aload_n 0, 1) := by decide +kernel
theorem dX5_utilizationBits_26 : decode cX5_utilizationBits 26 = .ok (.iload_n 1, 1) := by decide +kernel
theorem dX5_utilizationBits_27 : decode cX5_utilizationBits 27 = .ok (.invokevirtual 149, 3) := by decide +kernel
theorem dX5_utilizationBits_30 : decode cX5_utilizationBits 30 = .ok (.invokestatic 153, 3) := by decide +kernel
theorem dX5_utilizationBits_33 : decode cX5_utilizationBits 33 = .ok (.goto 4, 3) := by decide +kernel
theorem dX5_utilizationBits_36 : decode cX5_utilizationBits 36 = .ok (.lconst 0, 1) := by decide +kernel
theorem dX5_utilizationBits_37 : decode cX5_utilizationBits 37 = .ok (.lreturn, 1) := by decide +kernel
set_option maxRecDepth 20000 in
theorem ggX5_loadOf_X5_demandOf : GoodIn wsX5_loadOf wsX5_demandOf := goodIn_r _ [5, 6, 7, 8, 9, 4, 10, 11, 12, 13, 14, 15, 16, 17, 18, 19, 20, 21, 22, 23, 24, 25, 26, 27, 28, 29, 30, 31, 32, 33, 34, 35, 36, 37, 38, 39, 40, 41, 42, 43, 44, 45, 46, 47, 48, 49, 50, 51, 52, 53, 54, 55, 56, 57] (by decide +kernel) (by decide +kernel)
set_option maxRecDepth 20000 in
theorem gX5_loadOf_X5_demandOf : GoodIn wsX5_loadOf (wsV RX5 79 RX5 yX5_demandOf wsX5_demandOf) := goodIn_app (goodIn_of _ (by decide +kernel)) ggX5_loadOf_X5_demandOf
theorem dX5_loadOf_0 : decode cX5_loadOf 0 = .ok (.fconst 0, 1) := by decide +kernel
theorem dX5_loadOf_1 : decode cX5_loadOf 1 = .ok (.fstore_n 2, 1) := by decide +kernel
theorem dX5_loadOf_2 : decode cX5_loadOf 2 = .ok (.iconst 1, 1) := by decide +kernel
theorem dX5_loadOf_3 : decode cX5_loadOf 3 = .ok (.istore_n 3, 1) := by decide +kernel
theorem dX5_loadOf_4 : decode cX5_loadOf 4 = .ok (.iload_n 3, 1) := by decide +kernel
theorem dX5_loadOf_5 : decode cX5_loadOf 5 = .ok (.sipush 200, 3) := by decide +kernel
theorem dX5_loadOf_8 : decode cX5_loadOf 8 = .ok (.if_icmp .gt 35, 3) := by decide +kernel
theorem dX5_loadOf_11 : decode cX5_loadOf 11 = .ok (.aload_n 0, 1) := by decide +kernel
theorem dX5_loadOf_12 : decode cX5_loadOf 12 = .ok (.iload_n 1, 1) := by decide +kernel
theorem dX5_loadOf_13 : decode cX5_loadOf 13 = .ok (.iload_n 3, 1) := by decide +kernel
theorem dX5_loadOf_14 : decode cX5_loadOf 14 = .ok (.invokevirtual 79, 3) := by decide +kernel
theorem dX5_loadOf_17 : decode cX5_loadOf 17 = .ok (.i2f, 1) := by decide +kernel
theorem dX5_loadOf_18 : decode cX5_loadOf 18 = .ok (.iload_n 3, 1) := by decide +kernel
theorem dX5_loadOf_19 : decode cX5_loadOf 19 = .ok (.i2f, 1) := by decide +kernel
theorem dX5_loadOf_20 : decode cX5_loadOf 20 = .ok (.fdiv, 1) := by decide +kernel
theorem dX5_loadOf_21 : decode cX5_loadOf 21 = .ok (.fstore 4, 2) := by decide +kernel
theorem dX5_loadOf_23 : decode cX5_loadOf 23 = .ok (.fload 4, 2) := by decide +kernel
theorem dX5_loadOf_25 : decode cX5_loadOf 25 = .ok (.fload_n 2, 1) := by decide +kernel
theorem dX5_loadOf_26 : decode cX5_loadOf 26 = .ok (.fcmp .l, 1) := by decide +kernel
theorem dX5_loadOf_27 : decode cX5_loadOf 27 = .ok (.ifCond .le 8, 3) := by decide +kernel
theorem dX5_loadOf_30 : decode cX5_loadOf 30 = .ok (.fload 4, 2) := by decide +kernel
theorem dX5_loadOf_32 : decode cX5_loadOf 32 = .ok (.goto 4, 3) := by decide +kernel
theorem dX5_loadOf_35 : decode cX5_loadOf 35 = .ok (.fload_n 2, 1) := by decide +kernel
theorem dX5_loadOf_36 : decode cX5_loadOf 36 = .ok (.fstore_n 2, 1) := by decide +kernel
theorem dX5_loadOf_37 : decode cX5_loadOf 37 = .ok (.iinc 3 1, 3) := by decide +kernel
theorem dX5_loadOf_40 : decode cX5_loadOf 40 = .ok (.goto (-36), 3) := by decide +kernel
theorem dX5_loadOf_43 : decode cX5_loadOf 43 = .ok (.fload_n 2, 1) := by decide +kernel
theorem dX5_loadOf_44 : decode cX5_loadOf 44 = .ok (.freturn, 1) := by decide +kernel
set_option maxRecDepth 20000 in
theorem ggX5_load_X5_in : GoodIn wsX5_load wsX5_in := goodIn_r _ [5] (by decide +kernel) (by decide +kernel)
set_option maxRecDepth 20000 in
theorem gX5_load_X5_in : GoodIn wsX5_load (va_wsS RX5 53 yX5_in wsX5_in) := goodIn_app (goodIn_of _ (by decide +kernel)) ggX5_load_X5_in
set_option maxRecDepth 20000 in
theorem ggX5_load_X5_loadOf : GoodIn wsX5_load wsX5_loadOf := goodIn_r _ [9, 10, 11, 12, 4, 13, 14, 15, 16, 17, 18, 19, 20, 21, 22, 23, 24, 25, 26, 27, 28, 29, 30, 2, 3, 5, 31, 32, 33, 34, 35, 36, 37, 38, 39, 40, 41, 42, 43, 44, 45, 46, 47, 48, 49, 50, 51, 52, 53, 54, 55, 56, 57, 58, 59, 60, 61, 62] (by decide +kernel) (by decide +kernel)
set_option maxRecDepth 20000 in
theorem gX5_load_X5_loadOf : GoodIn wsX5_load (wsV RX5 159 RX5 yX5_loadOf wsX5_loadOf) := goodIn_app (goodIn_of _ (by decide +kernel)) ggX5_load_X5_loadOf
theorem dX5_load_0 : decode cX5_load 0 = .ok (.aload_n 0, 1) := by decide +kernel
theorem dX5_load_1 : decode cX5_load 1 = .ok (.iload_n 1, 1) := by decide +kernel
theorem dX5_load_2 : decode cX5_load 2 = .ok (.iconst 0, 1) := by decide +kernel
theorem dX5_load_3 : decode cX5_load 3 = .ok (.iconst 1, 1) := by decide +kernel
theorem dX5_load_4 : decode cX5_load 4 = .ok (.invokestatic 53, 3) := by decide +kernel
theorem dX5_load_7 : decode cX5_load 7 = .ok (.ifCond .eq 7, 3) := by decide +kernel
theorem dX5_load_10 : decode cX5_load 10 = .ok (.iconst 0, 1) := by decide +kernel
theorem dX5_load_11 : decode cX5_load 11 = .ok (.goto 4, 3) := by decide +kernel
theorem dX5_load_14 : decode cX5_load 14 = .ok (.iconst 1, 1) := by decide +kernel
theorem dX5_load_15 : decode cX5_load 15 = .ok (.putfield 50, 3) := by decide +kernel
theorem dX5_load_18 : decode cX5_load 18 = .ok (.aload_n 0, 1) := by decide +kernel
theorem dX5_load_19 : decode cX5_load 19 = .ok (.getfield 50, 3) := by decide +kernel
theorem dX5_load_22 : decode cX5_load 22 = .ok (.ifCond .ne 11, 3) := by decide +kernel
theorem dX5_load_25 : decode cX5_load 25 = .ok (.aload_n 0, 1) := by decide +kernel
theorem dX5_load_26 : decode cX5_load 26 = .ok (.iload_n 1, 1) := by decide +kernel
theorem dX5_load_27 : decode cX5_load 27 = .ok (.invokevirtual 159, 3) := by decide +kernel
theorem dX5_load_30 : decode cX5_load 30 = .ok (.goto 4, 3) := by decide +kernel
theorem dX5_load_33 : decode cX5_load 33 = .ok (.fconst 0, 1) := by decide +kernel
theorem dX5_load_34 : decode cX5_load 34 = .ok (.freturn, 1) := by decide +kernel
set_option maxRecDepth 20000 in
theorem ggX5_loadBits_X5_in : GoodIn wsX5_loadBits wsX5_in := goodIn_r _ [5] (by decide +kernel) (by decide +kernel)
set_option maxRecDepth 20000 in
theorem gX5_loadBits_X5_in : GoodIn wsX5_loadBits (va_wsS RX5 53 yX5_in wsX5_in) := goodIn_app (goodIn_of _ (by decide +kernel)) ggX5_loadBits_X5_in
set_option maxRecDepth 20000 in
theorem ggX5_loadBits_X5_loadOf : GoodIn wsX5_loadBits wsX5_loadOf := goodIn_r _ [9, 10, 11, 12, 4, 13, 14, 15, 16, 17, 18, 19, 20, 21, 22, 23, 24, 25, 26, 27, 28, 29, 30, 2, 3, 5, 43, 44, 45, 46, 47, 48, 49, 50, 51, 52, 53, 54, 55, 56, 57, 58, 59, 60, 61, 62, 63, 64, 65, 66, 67, 68, 69, 70, 71, 72, 73, 74] (by decide +kernel) (by decide +kernel)
set_option maxRecDepth 20000 in
theorem gX5_loadBits_X5_loadOf : GoodIn wsX5_loadBits (wsV RX5 159 RX5 yX5_loadOf wsX5_loadOf) := goodIn_app (goodIn_of _ (by decide +kernel)) ggX5_loadBits_X5_loadOf
set_option maxRecDepth 20000 in
theorem ggX5_loadBits_Jxf58ca_floatToIntBits_5c35a : GoodIn wsX5_loadBits wsJxf58ca_floatToIntBits_5c35a := goodIn_r _ [34, 35, 36, 37, 38, 39, 40, 41, 33, 42] (by decide +kernel) (by decide +kernel)
set_option maxRecDepth 20000 in
theorem gX5_loadBits_Jxf58ca_floatToIntBits_5c35a : GoodIn wsX5_loadBits (va_wsS RX5 163 yJxf58ca_floatToIntBits_5c35a wsJxf58ca_floatToIntBits_5c35a) := goodIn_app (goodIn_of _ (by decide +kernel)) ggX5_loadBits_Jxf58ca_floatToIntBits_5c35a
theorem dX5_loadBits_0 : decode cX5_loadBits 0 = .ok (.aload_n 0, 1) := by decide +kernel
theorem dX5_loadBits_1 : decode cX5_loadBits 1 = .ok (.iload_n 1, 1) := by decide +kernel
theorem dX5_loadBits_2 : decode cX5_loadBits 2 = .ok (.iconst 0, 1) := by decide +kernel
theorem dX5_loadBits_3 : decode cX5_loadBits 3 = .ok (.iconst 1, 1) := by decide +kernel
theorem dX5_loadBits_4 : decode cX5_loadBits 4 = .ok (.invokestatic 53, 3) := by decide +kernel
theorem dX5_loadBits_7 : decode cX5_loadBits 7 = .ok (.ifCond .eq 7, 3) := by decide +kernel
theorem dX5_loadBits_10 : decode cX5_loadBits 10 = .ok (.iconst 0, 1) := by decide +kernel
theorem dX5_loadBits_11 : decode cX5_loadBits 11 = .ok (.goto 4, 3) := by decide +kernel
theorem dX5_loadBits_14 : decode cX5_loadBits 14 = .ok (.iconst 1, 1) := by decide +kernel
theorem dX5_loadBits_15 : decode cX5_loadBits 15 = .ok (.putfield 50, 3) := by decide +kernel
theorem dX5_loadBits_18 : decode cX5_loadBits 18 = .ok (.aload_n 0, 1) := by decide +kernel
theorem dX5_loadBits_19 : decode cX5_loadBits 19 = .ok (.getfield 50, 3) := by decide +kernel
theorem dX5_loadBits_22 : decode cX5_loadBits 22 = .ok (.ifCond .ne 14, 3) := by decide +kernel
theorem dX5_loadBits_25 : decode cX5_loadBits 25 = .ok (.aload_n 0, 1) := by decide +kernel
theorem dX5_loadBits_26 : decode cX5_loadBits 26 = .ok (.iload_n 1, 1) := by decide +kernel
theorem dX5_loadBits_27 : decode cX5_loadBits 27 = .ok (.invokevirtual 159, 3) := by decide +kernel
theorem dX5_loadBits_30 : decode cX5_loadBits 30 = .ok (.invokestatic 163, 3) := by decide +kernel
theorem dX5_loadBits_33 : decode cX5_loadBits 33 = .ok (.goto 4, 3) := by decide +kernel
theorem dX5_loadBits_36 : decode cX5_loadBits 36 = .ok (.iconst 0, 1) := by decide +kernel
theorem dX5_loadBits_37 : decode cX5_loadBits 37 = .ok (.ireturn, 1) := by decide +kernel
set_option maxRecDepth 20000 in
theorem ggX5_isReleasePoint_X5_virtualOf : GoodIn wsX5_isReleasePoint wsX5_virtualOf := goodIn_r _ [6, 1, 7, 8, 9, 5, 10, 15, 16, 17, 18, 19, 20, 21, 22, 23, 24, 25, 26, 27, 28, 29, 30, 31, 32, 33, 34, 35, 36, 37, 38, 39, 40, 41, 42, 43, 44, 45, 46] (by decide +kernel) (by decide +kernel)
set_option maxRecDepth 20000 in
theorem gX5_isReleasePoint_X5_virtualOf : GoodIn wsX5_isReleasePoint (wsV RX5 68 RX5 yX5_virtualOf wsX5_virtualOf) := goodIn_app (goodIn_of _ (by decide +kernel)) ggX5_isReleasePoint_X5_virtualOf
set_option maxRecDepth 20000 in
theorem ggX5_isReleasePoint_X5_periodOf : GoodIn wsX5_isReleasePoint wsX5_periodOf := goodIn_r _ [14, 1, 15, 16, 17, 18, 19, 20, 21, 22, 23, 24, 25, 26, 27, 28, 29, 30, 31, 32, 33, 34, 35, 36, 37, 38, 39, 40, 41, 42, 43, 44, 45, 46] (by decide +kernel) (by decide +kernel)
set_option maxRecDepth 20000 in
theorem gX5_isReleasePoint_X5_periodOf : GoodIn wsX5_isReleasePoint (wsV RX5 72 RX5 yX5_periodOf wsX5_periodOf) := goodIn_app (goodIn_of _ (by decide +kernel)) ggX5_isReleasePoint_X5_periodOf
theorem dX5_isReleasePoint_0 : decode cX5_isReleasePoint 0 = .ok (.iconst 0, 1) := by decide +kernel
theorem dX5_isReleasePoint_1 : decode cX5_isReleasePoint 1 = .ok (.istore_n 2, 1) := by decide +kernel
theorem dX5_isReleasePoint_2 : decode cX5_isReleasePoint 2 = .ok (.iconst 0, 1) := by decide +kernel
theorem dX5_isReleasePoint_3 : decode cX5_isReleasePoint 3 = .ok (.istore_n 3, 1) := by decide +kernel
theorem dX5_isReleasePoint_4 : decode cX5_isReleasePoint 4 = .ok (.iload_n 3, 1) := by decide +kernel
theorem dX5_isReleasePoint_5 : decode cX5_isReleasePoint 5 = .ok (.aload_n 0, 1) := by decide +kernel
theorem dX5_isReleasePoint_6 : decode cX5_isReleasePoint 6 = .ok (.getfield 9, 3) := by decide +kernel
theorem dX5_isReleasePoint_9 : decode cX5_isReleasePoint 9 = .ok (.iconst 0, 1) := by decide +kernel
theorem dX5_isReleasePoint_10 : decode cX5_isReleasePoint 10 = .ok (.iaload, 1) := by decide +kernel
theorem dX5_isReleasePoint_11 : decode cX5_isReleasePoint 11 = .ok (.if_icmp .ge 44, 3) := by decide +kernel
theorem dX5_isReleasePoint_14 : decode cX5_isReleasePoint 14 = .ok (.iload_n 2, 1) := by decide +kernel
theorem dX5_isReleasePoint_15 : decode cX5_isReleasePoint 15 = .ok (.ifCond .ne 28, 3) := by decide +kernel
theorem dX5_isReleasePoint_18 : decode cX5_isReleasePoint 18 = .ok (.iload_n 1, 1) := by decide +kernel
theorem dX5_isReleasePoint_19 : decode cX5_isReleasePoint 19 = .ok (.aload_n 0, 1) := by decide +kernel
theorem dX5_isReleasePoint_20 : decode cX5_isReleasePoint 20 = .ok (.iload_n 3, 1) := by decide +kernel
theorem dX5_isReleasePoint_21 : decode cX5_isReleasePoint 21 = .ok (.invokevirtual 68, 3) := by decide +kernel
theorem dX5_isReleasePoint_24 : decode cX5_isReleasePoint 24 = .ok (.if_icmp .lt 23, 3) := by decide +kernel
theorem dX5_isReleasePoint_27 : decode cX5_isReleasePoint 27 = .ok (.iload_n 1, 1) := by decide +kernel
theorem dX5_isReleasePoint_28 : decode cX5_isReleasePoint 28 = .ok (.aload_n 0, 1) := by decide +kernel
theorem dX5_isReleasePoint_29 : decode cX5_isReleasePoint 29 = .ok (.iload_n 3, 1) := by decide +kernel
theorem dX5_isReleasePoint_30 : decode cX5_isReleasePoint 30 = .ok (.invokevirtual 68, 3) := by decide +kernel
theorem dX5_isReleasePoint_33 : decode cX5_isReleasePoint 33 = .ok (.isub, 1) := by decide +kernel
theorem dX5_isReleasePoint_34 : decode cX5_isReleasePoint 34 = .ok (.aload_n 0, 1) := by decide +kernel
theorem dX5_isReleasePoint_35 : decode cX5_isReleasePoint 35 = .ok (.iload_n 3, 1) := by decide +kernel
theorem dX5_isReleasePoint_36 : decode cX5_isReleasePoint 36 = .ok (.invokevirtual 72, 3) := by decide +kernel
theorem dX5_isReleasePoint_39 : decode cX5_isReleasePoint 39 = .ok (.irem, 1) := by decide +kernel
theorem dX5_isReleasePoint_40 : decode cX5_isReleasePoint 40 = .ok (.ifCond .ne 7, 3) := by decide +kernel
theorem dX5_isReleasePoint_43 : decode cX5_isReleasePoint 43 = .ok (.iconst 1, 1) := by decide +kernel
theorem dX5_isReleasePoint_44 : decode cX5_isReleasePoint 44 = .ok (.goto 4, 3) := by decide +kernel
theorem dX5_isReleasePoint_47 : decode cX5_isReleasePoint 47 = .ok (.iconst 0, 1) := by decide +kernel
theorem dX5_isReleasePoint_48 : decode cX5_isReleasePoint 48 = .ok (.istore_n 2, 1) := by decide +kernel
theorem dX5_isReleasePoint_49 : decode cX5_isReleasePoint 49 = .ok (.iinc 3 1, 3) := by decide +kernel
theorem dX5_isReleasePoint_52 : decode cX5_isReleasePoint 52 = .ok (.goto (-48), 3) := by decide +kernel
theorem dX5_isReleasePoint_55 : decode cX5_isReleasePoint 55 = .ok (.iload_n 2, 1) := by decide +kernel
theorem dX5_isReleasePoint_56 : decode cX5_isReleasePoint 56 = .ok (.ireturn, 1) := by decide +kernel
set_option maxRecDepth 20000 in
theorem ggX5_pointBelow_X5_isReleasePoint : GoodIn wsX5_pointBelow wsX5_isReleasePoint := goodIn_r _ [5, 6, 7, 8, 9, 4, 10, 11, 12, 13, 14, 15, 16, 17, 18, 19, 20, 21, 22, 23, 24, 25, 26, 27, 28, 29, 30, 31, 32, 33, 34, 35, 36, 37, 38, 39, 40, 41, 42, 43, 44, 45, 46, 47, 48, 49, 50] (by decide +kernel) (by decide +kernel)
set_option maxRecDepth 20000 in
theorem gX5_pointBelow_X5_isReleasePoint : GoodIn wsX5_pointBelow (wsV RX5 169 RX5 yX5_isReleasePoint wsX5_isReleasePoint) := goodIn_app (goodIn_of _ (by decide +kernel)) ggX5_pointBelow_X5_isReleasePoint
theorem dX5_pointBelow_0 : decode cX5_pointBelow 0 = .ok (.iload_n 1, 1) := by decide +kernel
theorem dX5_pointBelow_1 : decode cX5_pointBelow 1 = .ok (.iconst 1, 1) := by decide +kernel
theorem dX5_pointBelow_2 : decode cX5_pointBelow 2 = .ok (.isub, 1) := by decide +kernel
theorem dX5_pointBelow_3 : decode cX5_pointBelow 3 = .ok (.istore_n 2, 1) := by decide +kernel
theorem dX5_pointBelow_4 : decode cX5_pointBelow 4 = .ok (.iload_n 2, 1) := by decide +kernel
theorem dX5_pointBelow_5 : decode cX5_pointBelow 5 = .ok (.ifCond .le 17, 3) := by decide +kernel
theorem dX5_pointBelow_8 : decode cX5_pointBelow 8 = .ok (.aload_n 0, 1) := by decide +kernel
theorem dX5_pointBelow_9 : decode cX5_pointBelow 9 = .ok (.iload_n 2, 1) := by decide +kernel
theorem dX5_pointBelow_10 : decode cX5_pointBelow 10 = .ok (.invokevirtual 169, 3) := by decide +kernel
theorem dX5_pointBelow_13 : decode cX5_pointBelow 13 = .ok (.ifCond .ne 9, 3) := by decide +kernel
theorem dX5_pointBelow_16 : decode cX5_pointBelow 16 = .ok (.iinc 2 (-1), 3) := by decide +kernel
theorem dX5_pointBelow_19 : decode cX5_pointBelow 19 = .ok (.goto (-15), 3) := by decide +kernel
theorem dX5_pointBelow_22 : decode cX5_pointBelow 22 = .ok (.iload_n 2, 1) := by decide +kernel
theorem dX5_pointBelow_23 : decode cX5_pointBelow 23 = .ok (.ireturn, 1) := by decide +kernel
set_option maxRecDepth 20000 in
theorem ggX5_descends_X5_isReleasePoint : GoodIn wsX5_descends wsX5_isReleasePoint := goodIn_r _ [8, 2, 9, 10, 11, 7, 12, 13, 14, 15, 16, 17, 18, 19, 20, 36, 37, 38, 39, 40, 41, 42, 43, 44, 45, 46, 47, 48, 49, 50, 51, 52, 53, 54, 55, 56, 57, 58, 59, 60, 61, 62, 63, 64, 65, 66, 67] (by decide +kernel) (by decide +kernel)
set_option maxRecDepth 20000 in
theorem gX5_descends_X5_isReleasePoint : GoodIn wsX5_descends (wsV RX5 169 RX5 yX5_isReleasePoint wsX5_isReleasePoint) := goodIn_app (goodIn_of _ (by decide +kernel)) ggX5_descends_X5_isReleasePoint
set_option maxRecDepth 20000 in
theorem ggX5_descends_X5_pointBelow : GoodIn wsX5_descends wsX5_pointBelow := goodIn_r _ [24, 4, 5, 6, 7, 8, 2, 9, 10, 11, 12, 13, 14, 15, 16, 17, 18, 19, 20, 36, 37, 38, 39, 40, 41, 42, 43, 44, 45, 46, 47, 48, 49, 50, 51, 52, 53, 54, 55, 56, 57, 58, 59, 60, 61, 62, 63, 64, 65, 66, 67] (by decide +kernel) (by decide +kernel)
set_option maxRecDepth 20000 in
theorem gX5_descends_X5_pointBelow : GoodIn wsX5_descends (wsV RX5 175 RX5 yX5_pointBelow wsX5_pointBelow) := goodIn_app (goodIn_of _ (by decide +kernel)) ggX5_descends_X5_pointBelow
set_option maxRecDepth 20000 in
theorem ggX5_descends_X5_demandOf : GoodIn wsX5_descends wsX5_demandOf := goodIn_r _ [28, 2, 9, 10, 11, 7, 12, 13, 14, 15, 16, 29, 30, 31, 32, 17, 18, 19, 20, 33, 34, 35, 36, 37, 38, 39, 40, 41, 42, 43, 44, 45, 46, 47, 48, 49, 50, 51, 52, 53, 54, 55, 56, 57, 58, 59, 60, 61, 62, 63, 64, 65, 66, 67] (by decide +kernel) (by decide +kernel)
set_option maxRecDepth 20000 in
theorem gX5_descends_X5_demandOf : GoodIn wsX5_descends (wsV RX5 79 RX5 yX5_demandOf wsX5_demandOf) := goodIn_app (goodIn_of _ (by decide +kernel)) ggX5_descends_X5_demandOf
theorem dX5_descends_0 : decode cX5_descends 0 = .ok (.aload_n 0, 1) := by decide +kernel
theorem dX5_descends_1 : decode cX5_descends 1 = .ok (.iconst 0, 1) := by decide +kernel
theorem dX5_descends_2 : decode cX5_descends 2 = .ok (.putfield 172, 3) := by decide +kernel
theorem dX5_descends_5 : decode cX5_descends 5 = .ok (.iconst 1, 1) := by decide +kernel
theorem dX5_descends_6 : decode cX5_descends 6 = .ok (.istore_n 1, 1) := by decide +kernel
theorem dX5_descends_7 : decode cX5_descends 7 = .ok (.aload_n 0, 1) := by decide +kernel
theorem dX5_descends_8 : decode cX5_descends 8 = .ok (.getfield 9, 3) := by decide +kernel
theorem dX5_descends_11 : decode cX5_descends 11 = .ok (.iconst 0, 1) := by decide +kernel
theorem dX5_descends_12 : decode cX5_descends 12 = .ok (.iaload, 1) := by decide +kernel
theorem dX5_descends_13 : decode cX5_descends 13 = .ok (.ifCond .le 17, 3) := by decide +kernel
theorem dX5_descends_16 : decode cX5_descends 16 = .ok (.aload_n 0, 1) := by decide +kernel
theorem dX5_descends_17 : decode cX5_descends 17 = .ok (.iload_n 1, 1) := by decide +kernel
theorem dX5_descends_18 : decode cX5_descends 18 = .ok (.invokevirtual 169, 3) := by decide +kernel
theorem dX5_descends_21 : decode cX5_descends 21 = .ok (.ifCond .ne 9, 3) := by decide +kernel
theorem dX5_descends_24 : decode cX5_descends 24 = .ok (.iinc 1 1, 3) := by decide +kernel
theorem dX5_descends_27 : decode cX5_descends 27 = .ok (.goto (-20), 3) := by decide +kernel
theorem dX5_descends_30 : decode cX5_descends 30 = .ok (.aload_n 0, 1) := by decide +kernel
theorem dX5_descends_31 : decode cX5_descends 31 = .ok (.getfield 9, 3) := by decide +kernel
theorem dX5_descends_34 : decode cX5_descends 34 = .ok (.iconst 0, 1) := by decide +kernel
theorem dX5_descends_35 : decode cX5_descends 35 = .ok (.iaload, 1) := by decide +kernel
theorem dX5_descends_36 : decode cX5_descends 36 = .ok (.ifCond .ne 7, 3) := by decide +kernel
theorem dX5_descends_39 : decode cX5_descends 39 = .ok (.iconst 0, 1) := by decide +kernel
theorem dX5_descends_40 : decode cX5_descends 40 = .ok (.goto 10, 3) := by decide +kernel
theorem dX5_descends_43 : decode cX5_descends 43 = .ok (.aload_n 0, 1) := by decide +kernel
theorem dX5_descends_44 : decode cX5_descends 44 = .ok (.sipush 201, 3) := by decide +kernel
theorem dX5_descends_47 : decode cX5_descends 47 = .ok (.invokevirtual 175, 3) := by decide +kernel
theorem dX5_descends_50 : decode cX5_descends 50 = .ok (.istore_n 2, 1) := by decide +kernel
theorem dX5_descends_51 : decode cX5_descends 51 = .ok (.iload_n 2, 1) := by decide +kernel
theorem dX5_descends_52 : decode cX5_descends 52 = .ok (.ifCond .le 62, 3) := by decide +kernel
theorem dX5_descends_55 : decode cX5_descends 55 = .ok (.aload_n 0, 1) := by decide +kernel
theorem dX5_descends_56 : decode cX5_descends 56 = .ok (.getfield 35, 3) := by decide +kernel
theorem dX5_descends_59 : decode cX5_descends 59 = .ok (.aload_n 0, 1) := by decide +kernel
theorem dX5_descends_60 : decode cX5_descends 60 = .ok (.getfield 172, 3) := by decide +kernel
theorem dX5_descends_63 : decode cX5_descends 63 = .ok (.iload_n 2, 1) := by decide +kernel
theorem dX5_descends_64 : decode cX5_descends 64 = .ok (.iastore, 1) := by decide +kernel
theorem dX5_descends_65 : decode cX5_descends 65 = .ok (.aload_n 0, 1) := by decide +kernel
theorem dX5_descends_66 : decode cX5_descends 66 = .ok (.dup, 1) := by decide +kernel
theorem dX5_descends_67 : decode cX5_descends 67 = .ok (.getfield 172, 3) := by decide +kernel
theorem dX5_descends_70 : decode cX5_descends 70 = .ok (.iconst 1, 1) := by decide +kernel
theorem dX5_descends_71 : decode cX5_descends 71 = .ok (.iadd, 1) := by decide +kernel
theorem dX5_descends_72 : decode cX5_descends 72 = .ok (.putfield 172, 3) := by decide +kernel
theorem dX5_descends_75 : decode cX5_descends 75 = .ok (.aload_n 0, 1) := by decide +kernel
theorem dX5_descends_76 : decode cX5_descends 76 = .ok (.iconst 0, 1) := by decide +kernel
theorem dX5_descends_77 : decode cX5_descends 77 = .ok (.iload_n 2, 1) := by decide +kernel
theorem dX5_descends_78 : decode cX5_descends 78 = .ok (.invokevirtual 79, 3) := by decide +kernel
theorem dX5_descends_81 : decode cX5_descends 81 = .ok (.istore_n 3, 1) := by decide +kernel
theorem dX5_descends_82 : decode cX5_descends 82 = .ok (.iload_n 3, 1) := by decide +kernel
theorem dX5_descends_83 : decode cX5_descends 83 = .ok (.iload_n 2, 1) := by decide +kernel
theorem dX5_descends_84 : decode cX5_descends 84 = .ok (.if_icmp .gt 8, 3) := by decide +kernel
theorem dX5_descends_87 : decode cX5_descends 87 = .ok (.iload_n 3, 1) := by decide +kernel
theorem dX5_descends_88 : decode cX5_descends 88 = .ok (.iload_n 1, 1) := by decide +kernel
theorem dX5_descends_89 : decode cX5_descends 89 = .ok (.if_icmp .gt 7, 3) := by decide +kernel
theorem dX5_descends_92 : decode cX5_descends 92 = .ok (.iconst 0, 1) := by decide +kernel
theorem dX5_descends_93 : decode cX5_descends 93 = .ok (.goto 17, 3) := by decide +kernel
theorem dX5_descends_96 : decode cX5_descends 96 = .ok (.iload_n 3, 1) := by decide +kernel
theorem dX5_descends_97 : decode cX5_descends 97 = .ok (.iload_n 2, 1) := by decide +kernel
theorem dX5_descends_98 : decode cX5_descends 98 = .ok (.if_icmp .ge 7, 3) := by decide +kernel
theorem dX5_descends_101 : decode cX5_descends 101 = .ok (.iload_n 3, 1) := by decide +kernel
theorem dX5_descends_102 : decode cX5_descends 102 = .ok (.goto 8, 3) := by decide +kernel
theorem dX5_descends_105 : decode cX5_descends 105 = .ok (.aload_n 0, 1) := by decide +kernel
theorem dX5_descends_106 : decode cX5_descends 106 = .ok (.iload_n 2, 1) := by decide +kernel
theorem dX5_descends_107 : decode cX5_descends 107 = .ok (.invokevirtual 175, 3) := by decide +kernel
theorem dX5_descends_110 : decode cX5_descends 110 = .ok (.istore_n 2, 1) := by decide +kernel
theorem dX5_descends_111 : decode cX5_descends 111 = .ok (.goto (-60), 3) := by decide +kernel
theorem dX5_descends_114 : decode cX5_descends 114 = .ok (.return_, 1) := by decide +kernel
set_option maxRecDepth 20000 in
theorem ggX5_descentLength_X5_descends : GoodIn wsX5_descentLength wsX5_descends := goodIn_r _ [7, 2, 8, 9, 10, 11, 12, 6, 13, 14, 15, 16, 17, 18, 19, 20, 21, 22, 23, 24, 25, 26, 27, 28, 29, 30, 31, 32, 33, 34, 35, 36, 37, 38, 39, 40, 41, 42, 43, 44, 45, 46, 47, 48, 49, 50, 51, 52, 53, 54, 55, 56, 57, 58, 59, 60, 61, 62, 63, 64, 65, 66, 67, 68, 69, 70, 71, 72] (by decide +kernel) (by decide +kernel)
set_option maxRecDepth 20000 in
theorem gX5_descentLength_X5_descends : GoodIn wsX5_descentLength (wsV RX5 178 RX5 yX5_descends wsX5_descends) := goodIn_app (goodIn_of _ (by decide +kernel)) ggX5_descentLength_X5_descends
theorem dX5_descentLength_0 : decode cX5_descentLength 0 = .ok (.aload_n 0, 1) := by decide +kernel
theorem dX5_descentLength_1 : decode cX5_descentLength 1 = .ok (.iconst 0, 1) := by decide +kernel
theorem dX5_descentLength_2 : decode cX5_descentLength 2 = .ok (.putfield 50, 3) := by decide +kernel
theorem dX5_descentLength_5 : decode cX5_descentLength 5 = .ok (.aload_n 0, 1) := by decide +kernel
theorem dX5_descentLength_6 : decode cX5_descentLength 6 = .ok (.invokevirtual 178, 3) := by decide +kernel
theorem dX5_descentLength_9 : decode cX5_descentLength 9 = .ok (.aload_n 0, 1) := by decide +kernel
theorem dX5_descentLength_10 : decode cX5_descentLength 10 = .ok (.getfield 172, 3) := by decide +kernel
theorem dX5_descentLength_13 : decode cX5_descentLength 13 = .ok (.ireturn, 1) := by decide +kernel
set_option maxRecDepth 20000 in
theorem ggX5_descentPoint_X5_descends : GoodIn wsX5_descentPoint wsX5_descends := goodIn_r _ [8, 2, 9, 3, 10, 11, 12, 7, 13, 14, 15, 16, 17, 18, 19, 20, 21, 22, 23, 24, 25, 26, 27, 28, 29, 30, 31, 32, 33, 34, 35, 36, 37, 38, 39, 40, 45, 46, 47, 48, 49, 50, 51, 52, 53, 54, 55, 56, 57, 58, 59, 60, 61, 62, 63, 64, 65, 66, 67, 68, 69, 70, 71, 72, 73, 74, 75, 76] (by decide +kernel) (by decide +kernel)
set_option maxRecDepth 20000 in
theorem gX5_descentPoint_X5_descends : GoodIn wsX5_descentPoint (wsV RX5 178 RX5 yX5_descends wsX5_descends) := goodIn_app (goodIn_of _ (by decide +kernel)) ggX5_descentPoint_X5_descends
set_option maxRecDepth 20000 in
theorem ggX5_descentPoint_X5_in : GoodIn wsX5_descentPoint wsX5_in := goodIn_r _ [40] (by decide +kernel) (by decide +kernel)
set_option maxRecDepth 20000 in
theorem gX5_descentPoint_X5_in : GoodIn wsX5_descentPoint (va_wsS RX5 53 yX5_in wsX5_in) := goodIn_app (goodIn_of _ (by decide +kernel)) ggX5_descentPoint_X5_in
set_option maxRecDepth 20000 in
theorem ggX5_descentPoint_X5_fails : GoodIn wsX5_descentPoint wsX5_fails := goodIn_r _ [44, 1, 45, 46, 47, 48, 49, 50, 51, 52, 53, 54, 55, 56, 57, 58, 59, 60, 61, 62, 63, 64, 65, 66, 67, 68, 69, 70, 71, 72, 73, 74, 75, 76] (by decide +kernel) (by decide +kernel)
set_option maxRecDepth 20000 in
theorem gX5_descentPoint_X5_fails : GoodIn wsX5_descentPoint (wsV RX5 107 RX5 yX5_fails wsX5_fails) := goodIn_app (goodIn_of _ (by decide +kernel)) ggX5_descentPoint_X5_fails
theorem dX5_descentPoint_0 : decode cX5_descentPoint 0 = .ok (.aload_n 0, 1) := by decide +kernel
theorem dX5_descentPoint_1 : decode cX5_descentPoint 1 = .ok (.iconst 0, 1) := by decide +kernel
theorem dX5_descentPoint_2 : decode cX5_descentPoint 2 = .ok (.putfield 50, 3) := by decide +kernel
theorem dX5_descentPoint_5 : decode cX5_descentPoint 5 = .ok (.aload_n 0, 1) := by decide +kernel
theorem dX5_descentPoint_6 : decode cX5_descentPoint 6 = .ok (.invokevirtual 178, 3) := by decide +kernel
theorem dX5_descentPoint_9 : decode cX5_descentPoint 9 = .ok (.iload_n 1, 1) := by decide +kernel
theorem dX5_descentPoint_10 : decode cX5_descentPoint 10 = .ok (.iconst 0, 1) := by decide +kernel
theorem dX5_descentPoint_11 : decode cX5_descentPoint 11 = .ok (.aload_n 0, 1) := by decide +kernel
theorem dX5_descentPoint_12 : decode cX5_descentPoint 12 = .ok (.getfield 172, 3) := by decide +kernel
theorem dX5_descentPoint_15 : decode cX5_descentPoint 15 = .ok (.iconst 1, 1) := by decide +kernel
theorem dX5_descentPoint_16 : decode cX5_descentPoint 16 = .ok (.isub, 1) := by decide +kernel
theorem dX5_descentPoint_17 : decode cX5_descentPoint 17 = .ok (.invokestatic 53, 3) := by decide +kernel
theorem dX5_descentPoint_20 : decode cX5_descentPoint 20 = .ok (.ifCond .eq 12, 3) := by decide +kernel
theorem dX5_descentPoint_23 : decode cX5_descentPoint 23 = .ok (.aload_n 0, 1) := by decide +kernel
theorem dX5_descentPoint_24 : decode cX5_descentPoint 24 = .ok (.getfield 35, 3) := by decide +kernel
theorem dX5_descentPoint_27 : decode cX5_descentPoint 27 = .ok (.iload_n 1, 1) := by decide +kernel
theorem dX5_descentPoint_28 : decode cX5_descentPoint 28 = .ok (.iaload, 1) := by decide +kernel
theorem dX5_descentPoint_29 : decode cX5_descentPoint 29 = .ok (.goto 8, 3) := by decide +kernel
theorem dX5_descentPoint_32 : decode cX5_descentPoint 32 = .ok (.aload_n 0, 1) := by decide +kernel
theorem dX5_descentPoint_33 : decode cX5_descentPoint 33 = .ok (.iconst 1, 1) := by decide +kernel
theorem dX5_descentPoint_34 : decode cX5_descentPoint 34 = .ok (.invokevirtual 107, 3) := by decide +kernel
theorem dX5_descentPoint_37 : decode cX5_descentPoint 37 = .ok (.ireturn, 1) := by decide +kernel
theorem dX5_ofRejection_0 : decode cX5_ofRejection 0 = .ok (.aload_n 0, 1) := by decide +kernel
theorem dX5_ofRejection_1 : decode cX5_ofRejection 1 = .ok (.aload_n 0, 1) := by decide +kernel
theorem dX5_ofRejection_2 : decode cX5_ofRejection 2 = .ok (.getfield 88, 3) := by decide +kernel
theorem dX5_ofRejection_5 : decode cX5_ofRejection 5 = .ok (.ifCond .eq 7, 3) := by decide +kernel
theorem dX5_ofRejection_8 : decode cX5_ofRejection 8 = .ok (.iconst 0, 1) := by decide +kernel
theorem dX5_ofRejection_9 : decode cX5_ofRejection 9 = .ok (.goto 4, 3) := by decide +kernel
theorem dX5_ofRejection_12 : decode cX5_ofRejection 12 = .ok (.iconst 1, 1) := by decide +kernel
theorem dX5_ofRejection_13 : decode cX5_ofRejection 13 = .ok (.putfield 50, 3) := by decide +kernel
theorem dX5_ofRejection_16 : decode cX5_ofRejection 16 = .ok (.aload_n 0, 1) := by decide +kernel
theorem dX5_ofRejection_17 : decode cX5_ofRejection 17 = .ok (.getfield 88, 3) := by decide +kernel
theorem dX5_ofRejection_20 : decode cX5_ofRejection 20 = .ok (.ifCond .eq 7, 3) := by decide +kernel
theorem dX5_ofRejection_23 : decode cX5_ofRejection 23 = .ok (.iload_n 1, 1) := by decide +kernel
theorem dX5_ofRejection_24 : decode cX5_ofRejection 24 = .ok (.goto 4, 3) := by decide +kernel
theorem dX5_ofRejection_27 : decode cX5_ofRejection 27 = .ok (.iconst 0, 1) := by decide +kernel
theorem dX5_ofRejection_28 : decode cX5_ofRejection 28 = .ok (.ireturn, 1) := by decide +kernel
set_option maxRecDepth 20000 in
theorem ggX5_rejectionMode_X5_ofRejection : GoodIn wsX5_rejectionMode wsX5_ofRejection := goodIn_r _ [6, 7, 8, 9, 10, 11, 12, 13, 14, 15, 16, 17, 18, 19, 20, 21, 22, 23, 24, 25, 26, 27, 28, 29, 30, 31, 32, 33, 34, 35, 36, 37, 38, 39, 40] (by decide +kernel) (by decide +kernel)
set_option maxRecDepth 20000 in
theorem gX5_rejectionMode_X5_ofRejection : GoodIn wsX5_rejectionMode (wsV RX5 181 RX5 yX5_ofRejection wsX5_ofRejection) := goodIn_app (goodIn_of _ (by decide +kernel)) ggX5_rejectionMode_X5_ofRejection
theorem dX5_rejectionMode_0 : decode cX5_rejectionMode 0 = .ok (.aload_n 0, 1) := by decide +kernel
theorem dX5_rejectionMode_1 : decode cX5_rejectionMode 1 = .ok (.aload_n 0, 1) := by decide +kernel
theorem dX5_rejectionMode_2 : decode cX5_rejectionMode 2 = .ok (.getfield 91, 3) := by decide +kernel
theorem dX5_rejectionMode_5 : decode cX5_rejectionMode 5 = .ok (.invokevirtual 181, 3) := by decide +kernel
theorem dX5_rejectionMode_8 : decode cX5_rejectionMode 8 = .ok (.ireturn, 1) := by decide +kernel
set_option maxRecDepth 20000 in
theorem ggX5_rejectionLength_X5_ofRejection : GoodIn wsX5_rejectionLength wsX5_ofRejection := goodIn_r _ [6, 7, 8, 9, 10, 11, 12, 13, 14, 15, 16, 17, 18, 19, 20, 21, 22, 23, 24, 25, 26, 27, 28, 29, 30, 31, 32, 33, 34, 35, 36, 37, 38, 39, 40] (by decide +kernel) (by decide +kernel)
set_option maxRecDepth 20000 in
theorem gX5_rejectionLength_X5_ofRejection : GoodIn wsX5_rejectionLength (wsV RX5 181 RX5 yX5_ofRejection wsX5_ofRejection) := goodIn_app (goodIn_of _ (by decide +kernel)) ggX5_rejectionLength_X5_ofRejection
theorem dX5_rejectionLength_0 : decode cX5_rejectionLength 0 = .ok (.aload_n 0, 1) := by decide +kernel
theorem dX5_rejectionLength_1 : decode cX5_rejectionLength 1 = .ok (.aload_n 0, 1) := by decide +kernel
theorem dX5_rejectionLength_2 : decode cX5_rejectionLength 2 = .ok (.getfield 94, 3) := by decide +kernel
theorem dX5_rejectionLength_5 : decode cX5_rejectionLength 5 = .ok (.invokevirtual 181, 3) := by decide +kernel
theorem dX5_rejectionLength_8 : decode cX5_rejectionLength 8 = .ok (.ireturn, 1) := by decide +kernel
set_option maxRecDepth 20000 in
theorem ggX5_rejectionDemand_X5_ofRejection : GoodIn wsX5_rejectionDemand wsX5_ofRejection := goodIn_r _ [6, 7, 8, 9, 10, 11, 12, 13, 14, 15, 16, 17, 18, 19, 20, 21, 22, 23, 24, 25, 26, 27, 28, 29, 30, 31, 32, 33, 34, 35, 36, 37, 38, 39, 40] (by decide +kernel) (by decide +kernel)
set_option maxRecDepth 20000 in
theorem gX5_rejectionDemand_X5_ofRejection : GoodIn wsX5_rejectionDemand (wsV RX5 181 RX5 yX5_ofRejection wsX5_ofRejection) := goodIn_app (goodIn_of _ (by decide +kernel)) ggX5_rejectionDemand_X5_ofRejection
theorem dX5_rejectionDemand_0 : decode cX5_rejectionDemand 0 = .ok (.aload_n 0, 1) := by decide +kernel
theorem dX5_rejectionDemand_1 : decode cX5_rejectionDemand 1 = .ok (.aload_n 0, 1) := by decide +kernel
theorem dX5_rejectionDemand_2 : decode cX5_rejectionDemand 2 = .ok (.getfield 97, 3) := by decide +kernel
theorem dX5_rejectionDemand_5 : decode cX5_rejectionDemand 5 = .ok (.invokevirtual 181, 3) := by decide +kernel
theorem dX5_rejectionDemand_8 : decode cX5_rejectionDemand 8 = .ok (.ireturn, 1) := by decide +kernel
set_option maxRecDepth 20000 in
theorem ggX5_releases_X5_periodOf : GoodIn wsX5_releases wsX5_periodOf := goodIn_r _ [8, 1, 24, 25, 26, 27, 28, 29, 30, 31, 32, 33, 34, 35, 36, 37, 38, 39, 40, 41, 42, 43, 44, 45, 46, 47, 48, 49, 50, 51, 52, 53, 54, 55] (by decide +kernel) (by decide +kernel)
set_option maxRecDepth 20000 in
theorem gX5_releases_X5_periodOf : GoodIn wsX5_releases (wsV RX5 72 RX5 yX5_periodOf wsX5_periodOf) := goodIn_app (goodIn_of _ (by decide +kernel)) ggX5_releases_X5_periodOf
set_option maxRecDepth 20000 in
theorem ggX5_releases_X5_isHighTask : GoodIn wsX5_releases wsX5_isHighTask := goodIn_r _ [12, 1, 24, 25, 26, 27, 28, 29, 30, 31, 32, 33, 34, 35, 36, 37, 38, 39, 40, 41, 42, 43, 44, 45, 46, 47, 48, 49, 50, 51, 52, 53, 54, 55] (by decide +kernel) (by decide +kernel)
set_option maxRecDepth 20000 in
theorem gX5_releases_X5_isHighTask : GoodIn wsX5_releases (wsV RX5 64 RX5 yX5_isHighTask wsX5_isHighTask) := goodIn_app (goodIn_of _ (by decide +kernel)) ggX5_releases_X5_isHighTask
set_option maxRecDepth 20000 in
theorem ggX5_releases_X5_adds : GoodIn wsX5_releases wsX5_adds := goodIn_r _ [16, 17, 18, 19, 20, 21, 1, 22, 23, 9, 10, 11, 7, 12, 24, 25, 26, 27, 28, 29, 30, 31, 32, 33, 34, 35, 36, 37, 38, 39, 40, 41, 42, 43, 44, 45, 46, 47, 48, 49, 50, 51, 52, 53, 54, 55] (by decide +kernel) (by decide +kernel)
set_option maxRecDepth 20000 in
theorem gX5_releases_X5_adds : GoodIn wsX5_releases (wsV RX5 190 RX5 yX5_adds wsX5_adds) := goodIn_app (goodIn_of _ (by decide +kernel)) ggX5_releases_X5_adds
theorem dX5_releases_0 : decode cX5_releases 0 = .ok (.iconst 0, 1) := by decide +kernel
theorem dX5_releases_1 : decode cX5_releases 1 = .ok (.istore_n 3, 1) := by decide +kernel
theorem dX5_releases_2 : decode cX5_releases 2 = .ok (.iload_n 3, 1) := by decide +kernel
theorem dX5_releases_3 : decode cX5_releases 3 = .ok (.aload_n 0, 1) := by decide +kernel
theorem dX5_releases_4 : decode cX5_releases 4 = .ok (.getfield 9, 3) := by decide +kernel
theorem dX5_releases_7 : decode cX5_releases 7 = .ok (.iconst 0, 1) := by decide +kernel
theorem dX5_releases_8 : decode cX5_releases 8 = .ok (.iaload, 1) := by decide +kernel
theorem dX5_releases_9 : decode cX5_releases 9 = .ok (.if_icmp .ge 55, 3) := by decide +kernel
theorem dX5_releases_12 : decode cX5_releases 12 = .ok (.iload_n 1, 1) := by decide +kernel
theorem dX5_releases_13 : decode cX5_releases 13 = .ok (.aload_n 0, 1) := by decide +kernel
theorem dX5_releases_14 : decode cX5_releases 14 = .ok (.iload_n 3, 1) := by decide +kernel
theorem dX5_releases_15 : decode cX5_releases 15 = .ok (.invokevirtual 72, 3) := by decide +kernel
theorem dX5_releases_18 : decode cX5_releases 18 = .ok (.irem, 1) := by decide +kernel
theorem dX5_releases_19 : decode cX5_releases 19 = .ok (.ifCond .ne 39, 3) := by decide +kernel
theorem dX5_releases_22 : decode cX5_releases 22 = .ok (.aload_n 0, 1) := by decide +kernel
theorem dX5_releases_23 : decode cX5_releases 23 = .ok (.getfield 184, 3) := by decide +kernel
theorem dX5_releases_26 : decode cX5_releases 26 = .ok (.iconst 1, 1) := by decide +kernel
theorem dX5_releases_27 : decode cX5_releases 27 = .ok (.if_icmp .ne 24, 3) := by decide +kernel
theorem dX5_releases_30 : decode cX5_releases 30 = .ok (.aload_n 0, 1) := by decide +kernel
theorem dX5_releases_31 : decode cX5_releases 31 = .ok (.iload_n 3, 1) := by decide +kernel
theorem dX5_releases_32 : decode cX5_releases 32 = .ok (.invokevirtual 64, 3) := by decide +kernel
theorem dX5_releases_35 : decode cX5_releases 35 = .ok (.ifCond .ne 16, 3) := by decide +kernel
theorem dX5_releases_38 : decode cX5_releases 38 = .ok (.aload_n 0, 1) := by decide +kernel
theorem dX5_releases_39 : decode cX5_releases 39 = .ok (.dup, 1) := by decide +kernel
theorem dX5_releases_40 : decode cX5_releases 40 = .ok (.getfield 187, 3) := by decide +kernel
theorem dX5_releases_43 : decode cX5_releases 43 = .ok (.iconst 1, 1) := by decide +kernel
theorem dX5_releases_44 : decode cX5_releases 44 = .ok (.iadd, 1) := by decide +kernel
theorem dX5_releases_45 : decode cX5_releases 45 = .ok (.putfield 187, 3) := by decide +kernel
theorem dX5_releases_48 : decode cX5_releases 48 = .ok (.goto 10, 3) := by decide +kernel
theorem dX5_releases_51 : decode cX5_releases 51 = .ok (.aload_n 0, 1) := by decide +kernel
theorem dX5_releases_52 : decode cX5_releases 52 = .ok (.iload_n 3, 1) := by decide +kernel
theorem dX5_releases_53 : decode cX5_releases 53 = .ok (.iload_n 1, 1) := by decide +kernel
theorem dX5_releases_54 : decode cX5_releases 54 = .ok (.iload_n 2, 1) := by decide +kernel
theorem dX5_releases_55 : decode cX5_releases 55 = .ok (.invokevirtual 190, 3) := by decide +kernel
theorem dX5_releases_58 : decode cX5_releases 58 = .ok (.iinc 3 1, 3) := by decide +kernel
theorem dX5_releases_61 : decode cX5_releases 61 = .ok (.goto (-59), 3) := by decide +kernel
theorem dX5_releases_64 : decode cX5_releases 64 = .ok (.return_, 1) := by decide +kernel
set_option maxRecDepth 20000 in
theorem ggX5_adds_X5_isHighTask : GoodIn wsX5_adds wsX5_isHighTask := goodIn_r _ [13, 6, 14, 15, 16, 17, 18, 19, 20, 21, 22, 23, 24, 25, 26, 27, 28, 29, 30, 31, 32, 33, 34, 35, 36, 37, 38, 39, 40, 41, 42, 43, 44, 45] (by decide +kernel) (by decide +kernel)
set_option maxRecDepth 20000 in
theorem gX5_adds_X5_isHighTask : GoodIn wsX5_adds (wsV RX5 64 RX5 yX5_isHighTask wsX5_isHighTask) := goodIn_app (goodIn_of _ (by decide +kernel)) ggX5_adds_X5_isHighTask
theorem dX5_adds_0 : decode cX5_adds 0 = .ok (.aload_n 0, 1) := by decide +kernel
theorem dX5_adds_1 : decode cX5_adds 1 = .ok (.getfield 38, 3) := by decide +kernel
theorem dX5_adds_4 : decode cX5_adds 4 = .ok (.aload_n 0, 1) := by decide +kernel
theorem dX5_adds_5 : decode cX5_adds 5 = .ok (.getfield 194, 3) := by decide +kernel
theorem dX5_adds_8 : decode cX5_adds 8 = .ok (.iload_n 1, 1) := by decide +kernel
theorem dX5_adds_9 : decode cX5_adds 9 = .ok (.iastore, 1) := by decide +kernel
theorem dX5_adds_10 : decode cX5_adds 10 = .ok (.aload_n 0, 1) := by decide +kernel
theorem dX5_adds_11 : decode cX5_adds 11 = .ok (.getfield 41, 3) := by decide +kernel
theorem dX5_adds_14 : decode cX5_adds 14 = .ok (.aload_n 0, 1) := by decide +kernel
theorem dX5_adds_15 : decode cX5_adds 15 = .ok (.getfield 194, 3) := by decide +kernel
theorem dX5_adds_18 : decode cX5_adds 18 = .ok (.iload_n 2, 1) := by decide +kernel
theorem dX5_adds_19 : decode cX5_adds 19 = .ok (.iastore, 1) := by decide +kernel
theorem dX5_adds_20 : decode cX5_adds 20 = .ok (.aload_n 0, 1) := by decide +kernel
theorem dX5_adds_21 : decode cX5_adds 21 = .ok (.getfield 44, 3) := by decide +kernel
theorem dX5_adds_24 : decode cX5_adds 24 = .ok (.aload_n 0, 1) := by decide +kernel
theorem dX5_adds_25 : decode cX5_adds 25 = .ok (.getfield 194, 3) := by decide +kernel
theorem dX5_adds_28 : decode cX5_adds 28 = .ok (.iconst 0, 1) := by decide +kernel
theorem dX5_adds_29 : decode cX5_adds 29 = .ok (.iastore, 1) := by decide +kernel
theorem dX5_adds_30 : decode cX5_adds 30 = .ok (.aload_n 0, 1) := by decide +kernel
theorem dX5_adds_31 : decode cX5_adds 31 = .ok (.getfield 47, 3) := by decide +kernel
theorem dX5_adds_34 : decode cX5_adds 34 = .ok (.aload_n 0, 1) := by decide +kernel
theorem dX5_adds_35 : decode cX5_adds 35 = .ok (.getfield 194, 3) := by decide +kernel
theorem dX5_adds_38 : decode cX5_adds 38 = .ok (.aload_n 0, 1) := by decide +kernel
theorem dX5_adds_39 : decode cX5_adds 39 = .ok (.getfield 9, 3) := by decide +kernel
theorem dX5_adds_42 : decode cX5_adds 42 = .ok (.bipush 18, 2) := by decide +kernel
theorem dX5_adds_44 : decode cX5_adds 44 = .ok (.iload_n 1, 1) := by decide +kernel
theorem dX5_adds_45 : decode cX5_adds 45 = .ok (.iadd, 1) := by decide +kernel
theorem dX5_adds_46 : decode cX5_adds 46 = .ok (.iaload, 1) := by decide +kernel
theorem dX5_adds_47 : decode cX5_adds 47 = .ok (.iastore, 1) := by decide +kernel
theorem dX5_adds_48 : decode cX5_adds 48 = .ok (.aload_n 0, 1) := by decide +kernel
theorem dX5_adds_49 : decode cX5_adds 49 = .ok (.iload_n 1, 1) := by decide +kernel
theorem dX5_adds_50 : decode cX5_adds 50 = .ok (.invokevirtual 64, 3) := by decide +kernel
theorem dX5_adds_53 : decode cX5_adds 53 = .ok (.ifCond .eq 62, 3) := by decide +kernel
theorem dX5_adds_56 : decode cX5_adds 56 = .ok (.aload_n 0, 1) := by decide +kernel
theorem dX5_adds_57 : decode cX5_adds 57 = .ok (.aload_n 0, 1) := by decide +kernel
theorem dX5_adds_58 : decode cX5_adds 58 = .ok (.getfield 197, 3) := by decide +kernel
theorem dX5_adds_61 : decode cX5_adds 61 = .ok (.ldc 200, 2) := by decide +kernel
theorem dX5_adds_63 : decode cX5_adds 63 = .ok (.imul, 1) := by decide +kernel
theorem dX5_adds_64 : decode cX5_adds 64 = .ok (.sipush 12345, 3) := by decide +kernel
theorem dX5_adds_67 : decode cX5_adds 67 = .ok (.iadd, 1) := by decide +kernel
theorem dX5_adds_68 : decode cX5_adds 68 = .ok (.putfield 197, 3) := by decide +kernel
theorem dX5_adds_71 : decode cX5_adds 71 = .ok (.aload_n 0, 1) := by decide +kernel
theorem dX5_adds_72 : decode cX5_adds 72 = .ok (.getfield 47, 3) := by decide +kernel
theorem dX5_adds_75 : decode cX5_adds 75 = .ok (.aload_n 0, 1) := by decide +kernel
theorem dX5_adds_76 : decode cX5_adds 76 = .ok (.getfield 194, 3) := by decide +kernel
theorem dX5_adds_79 : decode cX5_adds 79 = .ok (.aload_n 0, 1) := by decide +kernel
theorem dX5_adds_80 : decode cX5_adds 80 = .ok (.getfield 197, 3) := by decide +kernel
theorem dX5_adds_83 : decode cX5_adds 83 = .ok (.bipush 16, 2) := by decide +kernel
theorem dX5_adds_85 : decode cX5_adds 85 = .ok (.iushr, 1) := by decide +kernel
theorem dX5_adds_86 : decode cX5_adds 86 = .ok (.bipush 100, 2) := by decide +kernel
theorem dX5_adds_88 : decode cX5_adds 88 = .ok (.irem, 1) := by decide +kernel
theorem dX5_adds_89 : decode cX5_adds 89 = .ok (.iload_n 3, 1) := by decide +kernel
theorem dX5_adds_90 : decode cX5_adds 90 = .ok (.if_icmp .ge 15, 3) := by decide +kernel
theorem dX5_adds_93 : decode cX5_adds 93 = .ok (.aload_n 0, 1) := by decide +kernel
theorem dX5_adds_94 : decode cX5_adds 94 = .ok (.getfield 9, 3) := by decide +kernel
theorem dX5_adds_97 : decode cX5_adds 97 = .ok (.bipush 26, 2) := by decide +kernel
theorem dX5_adds_99 : decode cX5_adds 99 = .ok (.iload_n 1, 1) := by decide +kernel
theorem dX5_adds_100 : decode cX5_adds 100 = .ok (.iadd, 1) := by decide +kernel
theorem dX5_adds_101 : decode cX5_adds 101 = .ok (.iaload, 1) := by decide +kernel
theorem dX5_adds_102 : decode cX5_adds 102 = .ok (.goto 12, 3) := by decide +kernel
theorem dX5_adds_105 : decode cX5_adds 105 = .ok (.aload_n 0, 1) := by decide +kernel
theorem dX5_adds_106 : decode cX5_adds 106 = .ok (.getfield 9, 3) := by decide +kernel
theorem dX5_adds_109 : decode cX5_adds 109 = .ok (.bipush 18, 2) := by decide +kernel
theorem dX5_adds_111 : decode cX5_adds 111 = .ok (.iload_n 1, 1) := by decide +kernel
theorem dX5_adds_112 : decode cX5_adds 112 = .ok (.iadd, 1) := by decide +kernel
theorem dX5_adds_113 : decode cX5_adds 113 = .ok (.iaload, 1) := by decide +kernel
theorem dX5_adds_114 : decode cX5_adds 114 = .ok (.iastore, 1) := by decide +kernel
theorem dX5_adds_115 : decode cX5_adds 115 = .ok (.aload_n 0, 1) := by decide +kernel
theorem dX5_adds_116 : decode cX5_adds 116 = .ok (.dup, 1) := by decide +kernel
theorem dX5_adds_117 : decode cX5_adds 117 = .ok (.getfield 194, 3) := by decide +kernel
theorem dX5_adds_120 : decode cX5_adds 120 = .ok (.iconst 1, 1) := by decide +kernel
theorem dX5_adds_121 : decode cX5_adds 121 = .ok (.iadd, 1) := by decide +kernel
theorem dX5_adds_122 : decode cX5_adds 122 = .ok (.putfield 194, 3) := by decide +kernel
theorem dX5_adds_125 : decode cX5_adds 125 = .ok (.return_, 1) := by decide +kernel
set_option maxRecDepth 20000 in
theorem ggX5_deadlineOf_X5_virtualOf : GoodIn wsX5_deadlineOf wsX5_virtualOf := goodIn_r _ [9, 3, 10, 11, 12, 8, 13, 14, 15, 16, 17, 18, 19, 20, 21, 22, 23, 24, 25, 26, 27, 28, 29, 30, 31, 32, 33, 34, 35, 36, 37, 38, 39, 40, 41, 42, 43, 44, 45] (by decide +kernel) (by decide +kernel)
set_option maxRecDepth 20000 in
theorem gX5_deadlineOf_X5_virtualOf : GoodIn wsX5_deadlineOf (wsV RX5 68 RX5 yX5_virtualOf wsX5_virtualOf) := goodIn_app (goodIn_of _ (by decide +kernel)) ggX5_deadlineOf_X5_virtualOf
theorem dX5_deadlineOf_0 : decode cX5_deadlineOf 0 = .ok (.aload_n 0, 1) := by decide +kernel
theorem dX5_deadlineOf_1 : decode cX5_deadlineOf 1 = .ok (.getfield 41, 3) := by decide +kernel
theorem dX5_deadlineOf_4 : decode cX5_deadlineOf 4 = .ok (.iload_n 1, 1) := by decide +kernel
theorem dX5_deadlineOf_5 : decode cX5_deadlineOf 5 = .ok (.iaload, 1) := by decide +kernel
theorem dX5_deadlineOf_6 : decode cX5_deadlineOf 6 = .ok (.aload_n 0, 1) := by decide +kernel
theorem dX5_deadlineOf_7 : decode cX5_deadlineOf 7 = .ok (.getfield 184, 3) := by decide +kernel
theorem dX5_deadlineOf_10 : decode cX5_deadlineOf 10 = .ok (.iconst 1, 1) := by decide +kernel
theorem dX5_deadlineOf_11 : decode cX5_deadlineOf 11 = .ok (.if_icmp .ne 20, 3) := by decide +kernel
theorem dX5_deadlineOf_14 : decode cX5_deadlineOf 14 = .ok (.aload_n 0, 1) := by decide +kernel
theorem dX5_deadlineOf_15 : decode cX5_deadlineOf 15 = .ok (.getfield 9, 3) := by decide +kernel
theorem dX5_deadlineOf_18 : decode cX5_deadlineOf 18 = .ok (.bipush 10, 2) := by decide +kernel
theorem dX5_deadlineOf_20 : decode cX5_deadlineOf 20 = .ok (.aload_n 0, 1) := by decide +kernel
theorem dX5_deadlineOf_21 : decode cX5_deadlineOf 21 = .ok (.getfield 38, 3) := by decide +kernel
theorem dX5_deadlineOf_24 : decode cX5_deadlineOf 24 = .ok (.iload_n 1, 1) := by decide +kernel
theorem dX5_deadlineOf_25 : decode cX5_deadlineOf 25 = .ok (.iaload, 1) := by decide +kernel
theorem dX5_deadlineOf_26 : decode cX5_deadlineOf 26 = .ok (.iadd, 1) := by decide +kernel
theorem dX5_deadlineOf_27 : decode cX5_deadlineOf 27 = .ok (.iaload, 1) := by decide +kernel
theorem dX5_deadlineOf_28 : decode cX5_deadlineOf 28 = .ok (.goto 13, 3) := by decide +kernel
theorem dX5_deadlineOf_31 : decode cX5_deadlineOf 31 = .ok (.aload_n 0, 1) := by decide +kernel
theorem dX5_deadlineOf_32 : decode cX5_deadlineOf 32 = .ok (.aload_n 0, 1) := by decide +kernel
theorem dX5_deadlineOf_33 : decode cX5_deadlineOf 33 = .ok (.getfield 38, 3) := by decide +kernel
theorem dX5_deadlineOf_36 : decode cX5_deadlineOf 36 = .ok (.iload_n 1, 1) := by decide +kernel
theorem dX5_deadlineOf_37 : decode cX5_deadlineOf 37 = .ok (.iaload, 1) := by decide +kernel
theorem dX5_deadlineOf_38 : decode cX5_deadlineOf 38 = .ok (.invokevirtual 68, 3) := by decide +kernel
theorem dX5_deadlineOf_41 : decode cX5_deadlineOf 41 = .ok (.iadd, 1) := by decide +kernel
theorem dX5_deadlineOf_42 : decode cX5_deadlineOf 42 = .ok (.ireturn, 1) := by decide +kernel
set_option maxRecDepth 20000 in
theorem ggX5_earliest_X5_deadlineOf : GoodIn wsX5_earliest wsX5_deadlineOf := goodIn_r _ [7, 8, 9, 10, 2, 11, 12, 13, 6, 14, 15, 16, 17, 18, 19, 20, 21, 22, 23, 24, 25, 26, 27, 28, 29, 30, 31, 32, 33, 34, 35, 36, 37, 38, 39, 40, 41, 42, 43, 44, 45, 46, 47, 48, 49, 50] (by decide +kernel) (by decide +kernel)
set_option maxRecDepth 20000 in
theorem gX5_earliest_X5_deadlineOf : GoodIn wsX5_earliest (wsV RX5 201 RX5 yX5_deadlineOf wsX5_deadlineOf) := goodIn_app (goodIn_of _ (by decide +kernel)) ggX5_earliest_X5_deadlineOf
theorem dX5_earliest_0 : decode cX5_earliest 0 = .ok (.iconst 0, 1) := by decide +kernel
theorem dX5_earliest_1 : decode cX5_earliest 1 = .ok (.istore_n 1, 1) := by decide +kernel
theorem dX5_earliest_2 : decode cX5_earliest 2 = .ok (.iconst 1, 1) := by decide +kernel
theorem dX5_earliest_3 : decode cX5_earliest 3 = .ok (.istore_n 2, 1) := by decide +kernel
theorem dX5_earliest_4 : decode cX5_earliest 4 = .ok (.iload_n 2, 1) := by decide +kernel
theorem dX5_earliest_5 : decode cX5_earliest 5 = .ok (.aload_n 0, 1) := by decide +kernel
theorem dX5_earliest_6 : decode cX5_earliest 6 = .ok (.getfield 194, 3) := by decide +kernel
theorem dX5_earliest_9 : decode cX5_earliest 9 = .ok (.if_icmp .ge 50, 3) := by decide +kernel
theorem dX5_earliest_12 : decode cX5_earliest 12 = .ok (.aload_n 0, 1) := by decide +kernel
theorem dX5_earliest_13 : decode cX5_earliest 13 = .ok (.iload_n 2, 1) := by decide +kernel
theorem dX5_earliest_14 : decode cX5_earliest 14 = .ok (.invokevirtual 201, 3) := by decide +kernel
theorem dX5_earliest_17 : decode cX5_earliest 17 = .ok (.aload_n 0, 1) := by decide +kernel
theorem dX5_earliest_18 : decode cX5_earliest 18 = .ok (.iload_n 1, 1) := by decide +kernel
theorem dX5_earliest_19 : decode cX5_earliest 19 = .ok (.invokevirtual 201, 3) := by decide +kernel
theorem dX5_earliest_22 : decode cX5_earliest 22 = .ok (.isub, 1) := by decide +kernel
theorem dX5_earliest_23 : decode cX5_earliest 23 = .ok (.istore_n 3, 1) := by decide +kernel
theorem dX5_earliest_24 : decode cX5_earliest 24 = .ok (.iload_n 3, 1) := by decide +kernel
theorem dX5_earliest_25 : decode cX5_earliest 25 = .ok (.ifCond .lt 22, 3) := by decide +kernel
theorem dX5_earliest_28 : decode cX5_earliest 28 = .ok (.iload_n 3, 1) := by decide +kernel
theorem dX5_earliest_29 : decode cX5_earliest 29 = .ok (.ifCond .ne 22, 3) := by decide +kernel
theorem dX5_earliest_32 : decode cX5_earliest 32 = .ok (.aload_n 0, 1) := by decide +kernel
theorem dX5_earliest_33 : decode cX5_earliest 33 = .ok (.getfield 38, 3) := by decide +kernel
theorem dX5_earliest_36 : decode cX5_earliest 36 = .ok (.iload_n 2, 1) := by decide +kernel
theorem dX5_earliest_37 : decode cX5_earliest 37 = .ok (.iaload, 1) := by decide +kernel
theorem dX5_earliest_38 : decode cX5_earliest 38 = .ok (.aload_n 0, 1) := by decide +kernel
theorem dX5_earliest_39 : decode cX5_earliest 39 = .ok (.getfield 38, 3) := by decide +kernel
theorem dX5_earliest_42 : decode cX5_earliest 42 = .ok (.iload_n 1, 1) := by decide +kernel
theorem dX5_earliest_43 : decode cX5_earliest 43 = .ok (.iaload, 1) := by decide +kernel
theorem dX5_earliest_44 : decode cX5_earliest 44 = .ok (.if_icmp .ge 7, 3) := by decide +kernel
theorem dX5_earliest_47 : decode cX5_earliest 47 = .ok (.iload_n 2, 1) := by decide +kernel
theorem dX5_earliest_48 : decode cX5_earliest 48 = .ok (.goto 4, 3) := by decide +kernel
theorem dX5_earliest_51 : decode cX5_earliest 51 = .ok (.iload_n 1, 1) := by decide +kernel
theorem dX5_earliest_52 : decode cX5_earliest 52 = .ok (.istore_n 1, 1) := by decide +kernel
theorem dX5_earliest_53 : decode cX5_earliest 53 = .ok (.iinc 2 1, 3) := by decide +kernel
theorem dX5_earliest_56 : decode cX5_earliest 56 = .ok (.goto (-52), 3) := by decide +kernel
theorem dX5_earliest_59 : decode cX5_earliest 59 = .ok (.iload_n 1, 1) := by decide +kernel
theorem dX5_earliest_60 : decode cX5_earliest 60 = .ok (.ireturn, 1) := by decide +kernel
theorem dX5_forgets_0 : decode cX5_forgets 0 = .ok (.iload_n 1, 1) := by decide +kernel
theorem dX5_forgets_1 : decode cX5_forgets 1 = .ok (.istore_n 2, 1) := by decide +kernel
theorem dX5_forgets_2 : decode cX5_forgets 2 = .ok (.iload_n 2, 1) := by decide +kernel
theorem dX5_forgets_3 : decode cX5_forgets 3 = .ok (.aload_n 0, 1) := by decide +kernel
theorem dX5_forgets_4 : decode cX5_forgets 4 = .ok (.getfield 194, 3) := by decide +kernel
theorem dX5_forgets_7 : decode cX5_forgets 7 = .ok (.iconst 1, 1) := by decide +kernel
theorem dX5_forgets_8 : decode cX5_forgets 8 = .ok (.isub, 1) := by decide +kernel
theorem dX5_forgets_9 : decode cX5_forgets 9 = .ok (.if_icmp .ge 65, 3) := by decide +kernel
theorem dX5_forgets_12 : decode cX5_forgets 12 = .ok (.aload_n 0, 1) := by decide +kernel
theorem dX5_forgets_13 : decode cX5_forgets 13 = .ok (.getfield 38, 3) := by decide +kernel
theorem dX5_forgets_16 : decode cX5_forgets 16 = .ok (.iload_n 2, 1) := by decide +kernel
theorem dX5_forgets_17 : decode cX5_forgets 17 = .ok (.aload_n 0, 1) := by decide +kernel
theorem dX5_forgets_18 : decode cX5_forgets 18 = .ok (.getfield 38, 3) := by decide +kernel
theorem dX5_forgets_21 : decode cX5_forgets 21 = .ok (.iload_n 2, 1) := by decide +kernel
theorem dX5_forgets_22 : decode cX5_forgets 22 = .ok (.iconst 1, 1) := by decide +kernel
theorem dX5_forgets_23 : decode cX5_forgets 23 = .ok (.iadd, 1) := by decide +kernel
theorem dX5_forgets_24 : decode cX5_forgets 24 = .ok (.iaload, 1) := by decide +kernel
theorem dX5_forgets_25 : decode cX5_forgets 25 = .ok (.iastore, 1) := by decide +kernel
theorem dX5_forgets_26 : decode cX5_forgets 26 = .ok (.aload_n 0, 1) := by decide +kernel
theorem dX5_forgets_27 : decode cX5_forgets 27 = .ok (.getfield 41, 3) := by decide +kernel
theorem dX5_forgets_30 : decode cX5_forgets 30 = .ok (.iload_n 2, 1) := by decide +kernel
theorem dX5_forgets_31 : decode cX5_forgets 31 = .ok (.aload_n 0, 1) := by decide +kernel
theorem dX5_forgets_32 : decode cX5_forgets 32 = .ok (.getfield 41, 3) := by decide +kernel
theorem dX5_forgets_35 : decode cX5_forgets 35 = .ok (.iload_n 2, 1) := by decide +kernel
theorem dX5_forgets_36 : decode cX5_forgets 36 = .ok (.iconst 1, 1) := by decide +kernel
theorem dX5_forgets_37 : decode cX5_forgets 37 = .ok (.iadd, 1) := by decide +kernel
theorem dX5_forgets_38 : decode cX5_forgets 38 = .ok (.iaload, 1) := by decide +kernel
theorem dX5_forgets_39 : decode cX5_forgets 39 = .ok (.iastore, 1) := by decide +kernel
theorem dX5_forgets_40 : decode cX5_forgets 40 = .ok (.aload_n 0, 1) := by decide +kernel
theorem dX5_forgets_41 : decode cX5_forgets 41 = .ok (.getfield 44, 3) := by decide +kernel
theorem dX5_forgets_44 : decode cX5_forgets 44 = .ok (.iload_n 2, 1) := by decide +kernel
theorem dX5_forgets_45 : decode cX5_forgets 45 = .ok (.aload_n 0, 1) := by decide +kernel
theorem dX5_forgets_46 : decode cX5_forgets 46 = .ok (.getfield 44, 3) := by decide +kernel
theorem dX5_forgets_49 : decode cX5_forgets 49 = .ok (.iload_n 2, 1) := by decide +kernel
theorem dX5_forgets_50 : decode cX5_forgets 50 = .ok (.iconst 1, 1) := by decide +kernel
theorem dX5_forgets_51 : decode cX5_forgets 51 = .ok (.iadd, 1) := by decide +kernel
theorem dX5_forgets_52 : decode cX5_forgets 52 = .ok (.iaload, 1) := by decide +kernel
theorem dX5_forgets_53 : decode cX5_forgets 53 = .ok (.iastore, 1) := by decide +kernel
theorem dX5_forgets_54 : decode cX5_forgets 54 = .ok (.aload_n 0, 1) := by decide +kernel
theorem dX5_forgets_55 : decode cX5_forgets 55 = .ok (.getfield 47, 3) := by decide +kernel
theorem dX5_forgets_58 : decode cX5_forgets 58 = .ok (.iload_n 2, 1) := by decide +kernel
theorem dX5_forgets_59 : decode cX5_forgets 59 = .ok (.aload_n 0, 1) := by decide +kernel
theorem dX5_forgets_60 : decode cX5_forgets 60 = .ok (.getfield 47, 3) := by decide +kernel
theorem dX5_forgets_63 : decode cX5_forgets 63 = .ok (.iload_n 2, 1) := by decide +kernel
theorem dX5_forgets_64 : decode cX5_forgets 64 = .ok (.iconst 1, 1) := by decide +kernel
theorem dX5_forgets_65 : decode cX5_forgets 65 = .ok (.iadd, 1) := by decide +kernel
theorem dX5_forgets_66 : decode cX5_forgets 66 = .ok (.iaload, 1) := by decide +kernel
theorem dX5_forgets_67 : decode cX5_forgets 67 = .ok (.iastore, 1) := by decide +kernel
theorem dX5_forgets_68 : decode cX5_forgets 68 = .ok (.iinc 2 1, 3) := by decide +kernel
theorem dX5_forgets_71 : decode cX5_forgets 71 = .ok (.goto (-69), 3) := by decide +kernel
theorem dX5_forgets_74 : decode cX5_forgets 74 = .ok (.aload_n 0, 1) := by decide +kernel
theorem dX5_forgets_75 : decode cX5_forgets 75 = .ok (.dup, 1) := by decide +kernel
theorem dX5_forgets_76 : decode cX5_forgets 76 = .ok (.getfield 194, 3) := by decide +kernel
theorem dX5_forgets_79 : decode cX5_forgets 79 = .ok (.iconst 1, 1) := by decide +kernel
theorem dX5_forgets_80 : decode cX5_forgets 80 = .ok (.isub, 1) := by decide +kernel
theorem dX5_forgets_81 : decode cX5_forgets 81 = .ok (.putfield 194, 3) := by decide +kernel
theorem dX5_forgets_84 : decode cX5_forgets 84 = .ok (.return_, 1) := by decide +kernel
set_option maxRecDepth 20000 in
theorem ggX5_ends_X5_forgets : GoodIn wsX5_ends wsX5_forgets := goodIn_r _ [11, 12, 1, 2, 13, 14, 15, 16, 17, 18, 19, 20, 21, 22, 23, 24, 25, 26, 27, 28, 29, 30, 31, 32, 33, 34, 35, 36, 37, 38, 39, 40, 41, 42, 43, 44, 45, 46] (by decide +kernel) (by decide +kernel)
set_option maxRecDepth 20000 in
theorem gX5_ends_X5_forgets : GoodIn wsX5_ends (wsV RX5 210 RX5 yX5_forgets wsX5_forgets) := goodIn_app (goodIn_of _ (by decide +kernel)) ggX5_ends_X5_forgets
theorem dX5_ends_0 : decode cX5_ends 0 = .ok (.aload_n 0, 1) := by decide +kernel
theorem dX5_ends_1 : decode cX5_ends 1 = .ok (.getfield 38, 3) := by decide +kernel
theorem dX5_ends_4 : decode cX5_ends 4 = .ok (.iload_n 1, 1) := by decide +kernel
theorem dX5_ends_5 : decode cX5_ends 5 = .ok (.iaload, 1) := by decide +kernel
theorem dX5_ends_6 : decode cX5_ends 6 = .ok (.istore 4, 2) := by decide +kernel
theorem dX5_ends_8 : decode cX5_ends 8 = .ok (.iload_n 2, 1) := by decide +kernel
theorem dX5_ends_9 : decode cX5_ends 9 = .ok (.aload_n 0, 1) := by decide +kernel
theorem dX5_ends_10 : decode cX5_ends 10 = .ok (.getfield 41, 3) := by decide +kernel
theorem dX5_ends_13 : decode cX5_ends 13 = .ok (.iload_n 1, 1) := by decide +kernel
theorem dX5_ends_14 : decode cX5_ends 14 = .ok (.iaload, 1) := by decide +kernel
theorem dX5_ends_15 : decode cX5_ends 15 = .ok (.isub, 1) := by decide +kernel
theorem dX5_ends_16 : decode cX5_ends 16 = .ok (.istore 5, 2) := by decide +kernel
theorem dX5_ends_18 : decode cX5_ends 18 = .ok (.aload_n 0, 1) := by decide +kernel
theorem dX5_ends_19 : decode cX5_ends 19 = .ok (.dup, 1) := by decide +kernel
theorem dX5_ends_20 : decode cX5_ends 20 = .ok (.getfield 204, 3) := by decide +kernel
theorem dX5_ends_23 : decode cX5_ends 23 = .ok (.iconst 1, 1) := by decide +kernel
theorem dX5_ends_24 : decode cX5_ends 24 = .ok (.iadd, 1) := by decide +kernel
theorem dX5_ends_25 : decode cX5_ends 25 = .ok (.putfield 204, 3) := by decide +kernel
theorem dX5_ends_28 : decode cX5_ends 28 = .ok (.aload_n 0, 1) := by decide +kernel
theorem dX5_ends_29 : decode cX5_ends 29 = .ok (.getfield 29, 3) := by decide +kernel
theorem dX5_ends_32 : decode cX5_ends 32 = .ok (.iload 4, 2) := by decide +kernel
theorem dX5_ends_34 : decode cX5_ends 34 = .ok (.iload 5, 2) := by decide +kernel
theorem dX5_ends_36 : decode cX5_ends 36 = .ok (.aload_n 0, 1) := by decide +kernel
theorem dX5_ends_37 : decode cX5_ends 37 = .ok (.getfield 29, 3) := by decide +kernel
theorem dX5_ends_40 : decode cX5_ends 40 = .ok (.iload 4, 2) := by decide +kernel
theorem dX5_ends_42 : decode cX5_ends 42 = .ok (.iaload, 1) := by decide +kernel
theorem dX5_ends_43 : decode cX5_ends 43 = .ok (.if_icmp .le 8, 3) := by decide +kernel
theorem dX5_ends_46 : decode cX5_ends 46 = .ok (.iload 5, 2) := by decide +kernel
theorem dX5_ends_48 : decode cX5_ends 48 = .ok (.goto 10, 3) := by decide +kernel
theorem dX5_ends_51 : decode cX5_ends 51 = .ok (.aload_n 0, 1) := by decide +kernel
theorem dX5_ends_52 : decode cX5_ends 52 = .ok (.getfield 29, 3) := by decide +kernel
theorem dX5_ends_55 : decode cX5_ends 55 = .ok (.iload 4, 2) := by decide +kernel
theorem dX5_ends_57 : decode cX5_ends 57 = .ok (.iaload, 1) := by decide +kernel
theorem dX5_ends_58 : decode cX5_ends 58 = .ok (.iastore, 1) := by decide +kernel
theorem dX5_ends_59 : decode cX5_ends 59 = .ok (.aload_n 0, 1) := by decide +kernel
theorem dX5_ends_60 : decode cX5_ends 60 = .ok (.dup, 1) := by decide +kernel
theorem dX5_ends_61 : decode cX5_ends 61 = .ok (.getfield 207, 3) := by decide +kernel
theorem dX5_ends_64 : decode cX5_ends 64 = .ok (.iload 5, 2) := by decide +kernel
theorem dX5_ends_66 : decode cX5_ends 66 = .ok (.aload_n 0, 1) := by decide +kernel
theorem dX5_ends_67 : decode cX5_ends 67 = .ok (.getfield 9, 3) := by decide +kernel
theorem dX5_ends_70 : decode cX5_ends 70 = .ok (.bipush 10, 2) := by decide +kernel
theorem dX5_ends_72 : decode cX5_ends 72 = .ok (.iload 4, 2) := by decide +kernel
theorem dX5_ends_74 : decode cX5_ends 74 = .ok (.iadd, 1) := by decide +kernel
theorem dX5_ends_75 : decode cX5_ends 75 = .ok (.iaload, 1) := by decide +kernel
theorem dX5_ends_76 : decode cX5_ends 76 = .ok (.if_icmp .le 28, 3) := by decide +kernel
theorem dX5_ends_79 : decode cX5_ends 79 = .ok (.aload_n 0, 1) := by decide +kernel
theorem dX5_ends_80 : decode cX5_ends 80 = .ok (.getfield 41, 3) := by decide +kernel
theorem dX5_ends_83 : decode cX5_ends 83 = .ok (.iload_n 1, 1) := by decide +kernel
theorem dX5_ends_84 : decode cX5_ends 84 = .ok (.iaload, 1) := by decide +kernel
theorem dX5_ends_85 : decode cX5_ends 85 = .ok (.aload_n 0, 1) := by decide +kernel
theorem dX5_ends_86 : decode cX5_ends 86 = .ok (.getfield 9, 3) := by decide +kernel
theorem dX5_ends_89 : decode cX5_ends 89 = .ok (.bipush 10, 2) := by decide +kernel
theorem dX5_ends_91 : decode cX5_ends 91 = .ok (.iload 4, 2) := by decide +kernel
theorem dX5_ends_93 : decode cX5_ends 93 = .ok (.iadd, 1) := by decide +kernel
theorem dX5_ends_94 : decode cX5_ends 94 = .ok (.iaload, 1) := by decide +kernel
theorem dX5_ends_95 : decode cX5_ends 95 = .ok (.iadd, 1) := by decide +kernel
theorem dX5_ends_96 : decode cX5_ends 96 = .ok (.iload_n 3, 1) := by decide +kernel
theorem dX5_ends_97 : decode cX5_ends 97 = .ok (.if_icmp .gt 7, 3) := by decide +kernel
theorem dX5_ends_100 : decode cX5_ends 100 = .ok (.iconst 1, 1) := by decide +kernel
theorem dX5_ends_101 : decode cX5_ends 101 = .ok (.goto 4, 3) := by decide +kernel
theorem dX5_ends_104 : decode cX5_ends 104 = .ok (.iconst 0, 1) := by decide +kernel
theorem dX5_ends_105 : decode cX5_ends 105 = .ok (.iadd, 1) := by decide +kernel
theorem dX5_ends_106 : decode cX5_ends 106 = .ok (.putfield 207, 3) := by decide +kernel
theorem dX5_ends_109 : decode cX5_ends 109 = .ok (.aload_n 0, 1) := by decide +kernel
theorem dX5_ends_110 : decode cX5_ends 110 = .ok (.iload_n 1, 1) := by decide +kernel
theorem dX5_ends_111 : decode cX5_ends 111 = .ok (.invokevirtual 210, 3) := by decide +kernel
theorem dX5_ends_114 : decode cX5_ends 114 = .ok (.return_, 1) := by decide +kernel
set_option maxRecDepth 20000 in
theorem ggX5_becomesHigh_X5_isHighTask : GoodIn wsX5_becomesHigh wsX5_isHighTask := goodIn_r _ [10, 11, 19, 20, 21, 22, 23, 24, 25, 26, 27, 28, 29, 30, 31, 32, 33, 34, 35, 36, 37, 38, 39, 40, 41, 42, 43, 44, 45, 46, 47, 48, 49, 50] (by decide +kernel) (by decide +kernel)
set_option maxRecDepth 20000 in
theorem gX5_becomesHigh_X5_isHighTask : GoodIn wsX5_becomesHigh (wsV RX5 64 RX5 yX5_isHighTask wsX5_isHighTask) := goodIn_app (goodIn_of _ (by decide +kernel)) ggX5_becomesHigh_X5_isHighTask
set_option maxRecDepth 20000 in
theorem ggX5_becomesHigh_X5_forgets : GoodIn wsX5_becomesHigh wsX5_forgets := goodIn_r _ [15, 3, 4, 16, 17, 18, 19, 20, 21, 22, 23, 24, 25, 26, 27, 28, 29, 30, 31, 32, 33, 34, 35, 36, 37, 38, 39, 40, 41, 42, 43, 44, 45, 46, 47, 48, 49, 50] (by decide +kernel) (by decide +kernel)
set_option maxRecDepth 20000 in
theorem gX5_becomesHigh_X5_forgets : GoodIn wsX5_becomesHigh (wsV RX5 210 RX5 yX5_forgets wsX5_forgets) := goodIn_app (goodIn_of _ (by decide +kernel)) ggX5_becomesHigh_X5_forgets
theorem dX5_becomesHigh_0 : decode cX5_becomesHigh 0 = .ok (.aload_n 0, 1) := by decide +kernel
theorem dX5_becomesHigh_1 : decode cX5_becomesHigh 1 = .ok (.iconst 1, 1) := by decide +kernel
theorem dX5_becomesHigh_2 : decode cX5_becomesHigh 2 = .ok (.putfield 184, 3) := by decide +kernel
theorem dX5_becomesHigh_5 : decode cX5_becomesHigh 5 = .ok (.aload_n 0, 1) := by decide +kernel
theorem dX5_becomesHigh_6 : decode cX5_becomesHigh 6 = .ok (.dup, 1) := by decide +kernel
theorem dX5_becomesHigh_7 : decode cX5_becomesHigh 7 = .ok (.getfield 214, 3) := by decide +kernel
theorem dX5_becomesHigh_10 : decode cX5_becomesHigh 10 = .ok (.iconst 1, 1) := by decide +kernel
theorem dX5_becomesHigh_11 : decode cX5_becomesHigh 11 = .ok (.iadd, 1) := by decide +kernel
theorem dX5_becomesHigh_12 : decode cX5_becomesHigh 12 = .ok (.putfield 214, 3) := by decide +kernel
theorem dX5_becomesHigh_15 : decode cX5_becomesHigh 15 = .ok (.aload_n 0, 1) := by decide +kernel
theorem dX5_becomesHigh_16 : decode cX5_becomesHigh 16 = .ok (.getfield 194, 3) := by decide +kernel
theorem dX5_becomesHigh_19 : decode cX5_becomesHigh 19 = .ok (.iconst 1, 1) := by decide +kernel
theorem dX5_becomesHigh_20 : decode cX5_becomesHigh 20 = .ok (.isub, 1) := by decide +kernel
theorem dX5_becomesHigh_21 : decode cX5_becomesHigh 21 = .ok (.istore_n 1, 1) := by decide +kernel
theorem dX5_becomesHigh_22 : decode cX5_becomesHigh 22 = .ok (.iload_n 1, 1) := by decide +kernel
theorem dX5_becomesHigh_23 : decode cX5_becomesHigh 23 = .ok (.ifCond .lt 37, 3) := by decide +kernel
theorem dX5_becomesHigh_26 : decode cX5_becomesHigh 26 = .ok (.aload_n 0, 1) := by decide +kernel
theorem dX5_becomesHigh_27 : decode cX5_becomesHigh 27 = .ok (.aload_n 0, 1) := by decide +kernel
theorem dX5_becomesHigh_28 : decode cX5_becomesHigh 28 = .ok (.getfield 38, 3) := by decide +kernel
theorem dX5_becomesHigh_31 : decode cX5_becomesHigh 31 = .ok (.iload_n 1, 1) := by decide +kernel
theorem dX5_becomesHigh_32 : decode cX5_becomesHigh 32 = .ok (.iaload, 1) := by decide +kernel
theorem dX5_becomesHigh_33 : decode cX5_becomesHigh 33 = .ok (.invokevirtual 64, 3) := by decide +kernel
theorem dX5_becomesHigh_36 : decode cX5_becomesHigh 36 = .ok (.ifCond .ne 18, 3) := by decide +kernel
theorem dX5_becomesHigh_39 : decode cX5_becomesHigh 39 = .ok (.aload_n 0, 1) := by decide +kernel
theorem dX5_becomesHigh_40 : decode cX5_becomesHigh 40 = .ok (.dup, 1) := by decide +kernel
theorem dX5_becomesHigh_41 : decode cX5_becomesHigh 41 = .ok (.getfield 187, 3) := by decide +kernel
theorem dX5_becomesHigh_44 : decode cX5_becomesHigh 44 = .ok (.iconst 1, 1) := by decide +kernel
theorem dX5_becomesHigh_45 : decode cX5_becomesHigh 45 = .ok (.iadd, 1) := by decide +kernel
theorem dX5_becomesHigh_46 : decode cX5_becomesHigh 46 = .ok (.putfield 187, 3) := by decide +kernel
theorem dX5_becomesHigh_49 : decode cX5_becomesHigh 49 = .ok (.aload_n 0, 1) := by decide +kernel
theorem dX5_becomesHigh_50 : decode cX5_becomesHigh 50 = .ok (.iload_n 1, 1) := by decide +kernel
theorem dX5_becomesHigh_51 : decode cX5_becomesHigh 51 = .ok (.invokevirtual 210, 3) := by decide +kernel
theorem dX5_becomesHigh_54 : decode cX5_becomesHigh 54 = .ok (.iinc 1 (-1), 3) := by decide +kernel
theorem dX5_becomesHigh_57 : decode cX5_becomesHigh 57 = .ok (.goto (-35), 3) := by decide +kernel
theorem dX5_becomesHigh_60 : decode cX5_becomesHigh 60 = .ok (.return_, 1) := by decide +kernel
set_option maxRecDepth 20000 in
theorem ggX5_runs_X5_earliest : GoodIn wsX5_runs wsX5_earliest := goodIn_r _ [12, 1, 6, 13, 14, 15, 11, 16, 17, 5, 7, 18, 19, 20, 21, 22, 23, 24, 25, 43, 44, 45, 46, 47, 48, 49, 50, 51, 52, 53, 54, 55, 56, 57, 58, 59, 60, 61, 62, 63, 64, 65, 66, 67, 68, 69, 70, 71, 72, 73, 74] (by decide +kernel) (by decide +kernel)
set_option maxRecDepth 20000 in
theorem gX5_runs_X5_earliest : GoodIn wsX5_runs (wsV RX5 220 RX5 yX5_earliest wsX5_earliest) := goodIn_app (goodIn_of _ (by decide +kernel)) ggX5_runs_X5_earliest
set_option maxRecDepth 20000 in
theorem ggX5_runs_X5_ends : GoodIn wsX5_runs wsX5_ends := goodIn_r _ [29, 6, 17, 30, 31, 32, 7, 33, 34, 35, 11, 36, 1, 3, 4, 43, 44, 45, 46, 47, 48, 49, 50, 51, 52, 53, 54, 55, 56, 57, 58, 59, 60, 61, 62, 63, 64, 65, 66, 67, 68, 69, 70, 71, 72, 73, 74] (by decide +kernel) (by decide +kernel)
set_option maxRecDepth 20000 in
theorem gX5_runs_X5_ends : GoodIn wsX5_runs (wsV RX5 223 RX5 yX5_ends wsX5_ends) := goodIn_app (goodIn_of _ (by decide +kernel)) ggX5_runs_X5_ends
set_option maxRecDepth 20000 in
theorem ggX5_runs_X5_isHighTask : GoodIn wsX5_runs wsX5_isHighTask := goodIn_r _ [25, 7, 43, 44, 45, 46, 47, 48, 49, 50, 51, 52, 53, 54, 55, 56, 57, 58, 59, 60, 61, 62, 63, 64, 65, 66, 67, 68, 69, 70, 71, 72, 73, 74] (by decide +kernel) (by decide +kernel)
set_option maxRecDepth 20000 in
theorem gX5_runs_X5_isHighTask : GoodIn wsX5_runs (wsV RX5 64 RX5 yX5_isHighTask wsX5_isHighTask) := goodIn_app (goodIn_of _ (by decide +kernel)) ggX5_runs_X5_isHighTask
set_option maxRecDepth 20000 in
theorem ggX5_runs_X5_becomesHigh : GoodIn wsX5_runs wsX5_becomesHigh := goodIn_r _ [40, 5, 41, 1, 6, 42, 22, 23, 24, 11, 25, 7, 33, 34, 35, 36, 17, 3, 4, 43, 44, 45, 46, 47, 48, 49, 50, 51, 52, 53, 54, 55, 56, 57, 58, 59, 60, 61, 62, 63, 64, 65, 66, 67, 68, 69, 70, 71, 72, 73, 74] (by decide +kernel) (by decide +kernel)
set_option maxRecDepth 20000 in
theorem gX5_runs_X5_becomesHigh : GoodIn wsX5_runs (wsV RX5 226 RX5 yX5_becomesHigh wsX5_becomesHigh) := goodIn_app (goodIn_of _ (by decide +kernel)) ggX5_runs_X5_becomesHigh
theorem dX5_runs_0 : decode cX5_runs 0 = .ok (.aload_n 0, 1) := by decide +kernel
theorem dX5_runs_1 : decode cX5_runs 1 = .ok (.getfield 194, 3) := by decide +kernel
theorem dX5_runs_4 : decode cX5_runs 4 = .ok (.ifCond .ne 14, 3) := by decide +kernel
theorem dX5_runs_7 : decode cX5_runs 7 = .ok (.aload_n 0, 1) := by decide +kernel
theorem dX5_runs_8 : decode cX5_runs 8 = .ok (.dup, 1) := by decide +kernel
theorem dX5_runs_9 : decode cX5_runs 9 = .ok (.getfield 217, 3) := by decide +kernel
theorem dX5_runs_12 : decode cX5_runs 12 = .ok (.iconst 1, 1) := by decide +kernel
theorem dX5_runs_13 : decode cX5_runs 13 = .ok (.iadd, 1) := by decide +kernel
theorem dX5_runs_14 : decode cX5_runs 14 = .ok (.putfield 217, 3) := by decide +kernel
theorem dX5_runs_17 : decode cX5_runs 17 = .ok (.return_, 1) := by decide +kernel
theorem dX5_runs_18 : decode cX5_runs 18 = .ok (.aload_n 0, 1) := by decide +kernel
theorem dX5_runs_19 : decode cX5_runs 19 = .ok (.invokevirtual 220, 3) := by decide +kernel
theorem dX5_runs_22 : decode cX5_runs 22 = .ok (.istore_n 3, 1) := by decide +kernel
theorem dX5_runs_23 : decode cX5_runs 23 = .ok (.aload_n 0, 1) := by decide +kernel
theorem dX5_runs_24 : decode cX5_runs 24 = .ok (.getfield 44, 3) := by decide +kernel
theorem dX5_runs_27 : decode cX5_runs 27 = .ok (.iload_n 3, 1) := by decide +kernel
theorem dX5_runs_28 : decode cX5_runs 28 = .ok (.dup2, 1) := by decide +kernel
theorem dX5_runs_29 : decode cX5_runs 29 = .ok (.iaload, 1) := by decide +kernel
theorem dX5_runs_30 : decode cX5_runs 30 = .ok (.iconst 1, 1) := by decide +kernel
theorem dX5_runs_31 : decode cX5_runs 31 = .ok (.iadd, 1) := by decide +kernel
theorem dX5_runs_32 : decode cX5_runs 32 = .ok (.iastore, 1) := by decide +kernel
theorem dX5_runs_33 : decode cX5_runs 33 = .ok (.aload_n 0, 1) := by decide +kernel
theorem dX5_runs_34 : decode cX5_runs 34 = .ok (.getfield 44, 3) := by decide +kernel
theorem dX5_runs_37 : decode cX5_runs 37 = .ok (.iload_n 3, 1) := by decide +kernel
theorem dX5_runs_38 : decode cX5_runs 38 = .ok (.iaload, 1) := by decide +kernel
theorem dX5_runs_39 : decode cX5_runs 39 = .ok (.aload_n 0, 1) := by decide +kernel
theorem dX5_runs_40 : decode cX5_runs 40 = .ok (.getfield 47, 3) := by decide +kernel
theorem dX5_runs_43 : decode cX5_runs 43 = .ok (.iload_n 3, 1) := by decide +kernel
theorem dX5_runs_44 : decode cX5_runs 44 = .ok (.iaload, 1) := by decide +kernel
theorem dX5_runs_45 : decode cX5_runs 45 = .ok (.if_icmp .ne 15, 3) := by decide +kernel
theorem dX5_runs_48 : decode cX5_runs 48 = .ok (.aload_n 0, 1) := by decide +kernel
theorem dX5_runs_49 : decode cX5_runs 49 = .ok (.iload_n 3, 1) := by decide +kernel
theorem dX5_runs_50 : decode cX5_runs 50 = .ok (.iload_n 1, 1) := by decide +kernel
theorem dX5_runs_51 : decode cX5_runs 51 = .ok (.iconst 1, 1) := by decide +kernel
theorem dX5_runs_52 : decode cX5_runs 52 = .ok (.iadd, 1) := by decide +kernel
theorem dX5_runs_53 : decode cX5_runs 53 = .ok (.iload_n 2, 1) := by decide +kernel
theorem dX5_runs_54 : decode cX5_runs 54 = .ok (.invokevirtual 223, 3) := by decide +kernel
theorem dX5_runs_57 : decode cX5_runs 57 = .ok (.goto 50, 3) := by decide +kernel
theorem dX5_runs_60 : decode cX5_runs 60 = .ok (.aload_n 0, 1) := by decide +kernel
theorem dX5_runs_61 : decode cX5_runs 61 = .ok (.getfield 184, 3) := by decide +kernel
theorem dX5_runs_64 : decode cX5_runs 64 = .ok (.ifCond .ne 43, 3) := by decide +kernel
theorem dX5_runs_67 : decode cX5_runs 67 = .ok (.aload_n 0, 1) := by decide +kernel
theorem dX5_runs_68 : decode cX5_runs 68 = .ok (.aload_n 0, 1) := by decide +kernel
theorem dX5_runs_69 : decode cX5_runs 69 = .ok (.getfield 38, 3) := by decide +kernel
theorem dX5_runs_72 : decode cX5_runs 72 = .ok (.iload_n 3, 1) := by decide +kernel
theorem dX5_runs_73 : decode cX5_runs 73 = .ok (.iaload, 1) := by decide +kernel
theorem dX5_runs_74 : decode cX5_runs 74 = .ok (.invokevirtual 64, 3) := by decide +kernel
theorem dX5_runs_77 : decode cX5_runs 77 = .ok (.ifCond .eq 30, 3) := by decide +kernel
theorem dX5_runs_80 : decode cX5_runs 80 = .ok (.aload_n 0, 1) := by decide +kernel
theorem dX5_runs_81 : decode cX5_runs 81 = .ok (.getfield 44, 3) := by decide +kernel
theorem dX5_runs_84 : decode cX5_runs 84 = .ok (.iload_n 3, 1) := by decide +kernel
theorem dX5_runs_85 : decode cX5_runs 85 = .ok (.iaload, 1) := by decide +kernel
theorem dX5_runs_86 : decode cX5_runs 86 = .ok (.aload_n 0, 1) := by decide +kernel
theorem dX5_runs_87 : decode cX5_runs 87 = .ok (.getfield 9, 3) := by decide +kernel
theorem dX5_runs_90 : decode cX5_runs 90 = .ok (.bipush 18, 2) := by decide +kernel
theorem dX5_runs_92 : decode cX5_runs 92 = .ok (.aload_n 0, 1) := by decide +kernel
theorem dX5_runs_93 : decode cX5_runs 93 = .ok (.getfield 38, 3) := by decide +kernel
theorem dX5_runs_96 : decode cX5_runs 96 = .ok (.iload_n 3, 1) := by decide +kernel
theorem dX5_runs_97 : decode cX5_runs 97 = .ok (.iaload, 1) := by decide +kernel
theorem dX5_runs_98 : decode cX5_runs 98 = .ok (.iadd, 1) := by decide +kernel
theorem dX5_runs_99 : decode cX5_runs 99 = .ok (.iaload, 1) := by decide +kernel
theorem dX5_runs_100 : decode cX5_runs 100 = .ok (.if_icmp .ne 7, 3) := by decide +kernel
theorem dX5_runs_103 : decode cX5_runs 103 = .ok (.aload_n 0, 1) := by decide +kernel
theorem dX5_runs_104 : decode cX5_runs 104 = .ok (.invokevirtual 226, 3) := by decide +kernel
theorem dX5_runs_107 : decode cX5_runs 107 = .ok (.return_, 1) := by decide +kernel
set_option maxRecDepth 20000 in
theorem ggX5_simulate_X5_in : GoodIn wsX5_simulate wsX5_in := goodIn_r _ [18] (by decide +kernel) (by decide +kernel)
set_option maxRecDepth 20000 in
theorem gX5_simulate_X5_in : GoodIn wsX5_simulate (va_wsS RX5 53 yX5_in wsX5_in) := goodIn_app (goodIn_of _ (by decide +kernel)) ggX5_simulate_X5_in
set_option maxRecDepth 20000 in
theorem ggX5_simulate_X5_fails : GoodIn wsX5_simulate wsX5_fails := goodIn_r _ [22, 1, 70, 71, 72, 73, 74, 75, 76, 77, 78, 79, 80, 81, 82, 83, 84, 85, 86, 87, 88, 89, 90, 91, 92, 93, 94, 95, 96, 97, 98, 99, 100, 101] (by decide +kernel) (by decide +kernel)
set_option maxRecDepth 20000 in
theorem gX5_simulate_X5_fails : GoodIn wsX5_simulate (wsV RX5 107 RX5 yX5_fails wsX5_fails) := goodIn_app (goodIn_of _ (by decide +kernel)) ggX5_simulate_X5_fails
set_option maxRecDepth 20000 in
theorem ggX5_simulate_X5_releases : GoodIn wsX5_simulate wsX5_releases := goodIn_r _ [26, 13, 9, 4, 27, 28, 29, 17, 30, 31, 32, 33, 34, 35, 36, 37, 38, 14, 7, 12, 39, 40, 10, 41, 70, 71, 72, 73, 74, 75, 76, 77, 78, 79, 80, 81, 82, 83, 84, 85, 86, 87, 88, 89, 90, 91, 92, 93, 94, 95, 96, 97, 98, 99, 100, 101] (by decide +kernel) (by decide +kernel)
set_option maxRecDepth 20000 in
theorem gX5_simulate_X5_releases : GoodIn wsX5_simulate (wsV RX5 229 RX5 yX5_releases wsX5_releases) := goodIn_app (goodIn_of _ (by decide +kernel)) ggX5_simulate_X5_releases
set_option maxRecDepth 20000 in
theorem ggX5_simulate_X5_runs : GoodIn wsX5_simulate wsX5_runs := goodIn_r _ [45, 7, 6, 39, 40, 9, 14, 13, 46, 47, 48, 17, 49, 50, 51, 52, 53, 12, 54, 55, 56, 57, 31, 32, 33, 34, 58, 59, 60, 61, 3, 11, 8, 62, 63, 64, 65, 66, 67, 68, 69, 5, 4, 70, 71, 72, 73, 74, 75, 76, 77, 78, 79, 80, 81, 82, 83, 84, 85, 86, 87, 88, 89, 90, 91, 92, 93, 94, 95, 96, 97, 98, 99, 100, 101] (by decide +kernel) (by decide +kernel)
set_option maxRecDepth 20000 in
theorem gX5_simulate_X5_runs : GoodIn wsX5_simulate (wsV RX5 233 RX5 yX5_runs wsX5_runs) := goodIn_app (goodIn_of _ (by decide +kernel)) ggX5_simulate_X5_runs
theorem dX5_simulate_0 : decode cX5_simulate 0 = .ok (.aload_n 0, 1) := by decide +kernel
theorem dX5_simulate_1 : decode cX5_simulate 1 = .ok (.iconst 0, 1) := by decide +kernel
theorem dX5_simulate_2 : decode cX5_simulate 2 = .ok (.putfield 50, 3) := by decide +kernel
theorem dX5_simulate_5 : decode cX5_simulate 5 = .ok (.iload_n 2, 1) := by decide +kernel
theorem dX5_simulate_6 : decode cX5_simulate 6 = .ok (.iconst 0, 1) := by decide +kernel
theorem dX5_simulate_7 : decode cX5_simulate 7 = .ok (.bipush 100, 2) := by decide +kernel
theorem dX5_simulate_9 : decode cX5_simulate 9 = .ok (.invokestatic 53, 3) := by decide +kernel
theorem dX5_simulate_12 : decode cX5_simulate 12 = .ok (.ifCond .eq 14, 3) := by decide +kernel
theorem dX5_simulate_15 : decode cX5_simulate 15 = .ok (.iload_n 3, 1) := by decide +kernel
theorem dX5_simulate_16 : decode cX5_simulate 16 = .ok (.iconst 1, 1) := by decide +kernel
theorem dX5_simulate_17 : decode cX5_simulate 17 = .ok (.sipush 200, 3) := by decide +kernel
theorem dX5_simulate_20 : decode cX5_simulate 20 = .ok (.invokestatic 53, 3) := by decide +kernel
theorem dX5_simulate_23 : decode cX5_simulate 23 = .ok (.ifCond .ne 9, 3) := by decide +kernel
theorem dX5_simulate_26 : decode cX5_simulate 26 = .ok (.aload_n 0, 1) := by decide +kernel
theorem dX5_simulate_27 : decode cX5_simulate 27 = .ok (.iconst 1, 1) := by decide +kernel
theorem dX5_simulate_28 : decode cX5_simulate 28 = .ok (.invokevirtual 107, 3) := by decide +kernel
theorem dX5_simulate_31 : decode cX5_simulate 31 = .ok (.ireturn, 1) := by decide +kernel
theorem dX5_simulate_32 : decode cX5_simulate 32 = .ok (.aload_n 0, 1) := by decide +kernel
theorem dX5_simulate_33 : decode cX5_simulate 33 = .ok (.iconst 1, 1) := by decide +kernel
theorem dX5_simulate_34 : decode cX5_simulate 34 = .ok (.putfield 60, 3) := by decide +kernel
theorem dX5_simulate_37 : decode cX5_simulate 37 = .ok (.aload_n 0, 1) := by decide +kernel
theorem dX5_simulate_38 : decode cX5_simulate 38 = .ok (.iconst 0, 1) := by decide +kernel
theorem dX5_simulate_39 : decode cX5_simulate 39 = .ok (.putfield 204, 3) := by decide +kernel
theorem dX5_simulate_42 : decode cX5_simulate 42 = .ok (.aload_n 0, 1) := by decide +kernel
theorem dX5_simulate_43 : decode cX5_simulate 43 = .ok (.iconst 0, 1) := by decide +kernel
theorem dX5_simulate_44 : decode cX5_simulate 44 = .ok (.putfield 187, 3) := by decide +kernel
theorem dX5_simulate_47 : decode cX5_simulate 47 = .ok (.aload_n 0, 1) := by decide +kernel
theorem dX5_simulate_48 : decode cX5_simulate 48 = .ok (.iconst 0, 1) := by decide +kernel
theorem dX5_simulate_49 : decode cX5_simulate 49 = .ok (.putfield 214, 3) := by decide +kernel
theorem dX5_simulate_52 : decode cX5_simulate 52 = .ok (.aload_n 0, 1) := by decide +kernel
theorem dX5_simulate_53 : decode cX5_simulate 53 = .ok (.iconst 0, 1) := by decide +kernel
theorem dX5_simulate_54 : decode cX5_simulate 54 = .ok (.putfield 217, 3) := by decide +kernel
theorem dX5_simulate_57 : decode cX5_simulate 57 = .ok (.aload_n 0, 1) := by decide +kernel
theorem dX5_simulate_58 : decode cX5_simulate 58 = .ok (.iconst 0, 1) := by decide +kernel
theorem dX5_simulate_59 : decode cX5_simulate 59 = .ok (.putfield 194, 3) := by decide +kernel
theorem dX5_simulate_62 : decode cX5_simulate 62 = .ok (.aload_n 0, 1) := by decide +kernel
theorem dX5_simulate_63 : decode cX5_simulate 63 = .ok (.iconst 0, 1) := by decide +kernel
theorem dX5_simulate_64 : decode cX5_simulate 64 = .ok (.putfield 207, 3) := by decide +kernel
theorem dX5_simulate_67 : decode cX5_simulate 67 = .ok (.aload_n 0, 1) := by decide +kernel
theorem dX5_simulate_68 : decode cX5_simulate 68 = .ok (.iconst 0, 1) := by decide +kernel
theorem dX5_simulate_69 : decode cX5_simulate 69 = .ok (.putfield 184, 3) := by decide +kernel
theorem dX5_simulate_72 : decode cX5_simulate 72 = .ok (.aload_n 0, 1) := by decide +kernel
theorem dX5_simulate_73 : decode cX5_simulate 73 = .ok (.iload_n 1, 1) := by decide +kernel
theorem dX5_simulate_74 : decode cX5_simulate 74 = .ok (.putfield 197, 3) := by decide +kernel
theorem dX5_simulate_77 : decode cX5_simulate 77 = .ok (.iconst 0, 1) := by decide +kernel
theorem dX5_simulate_78 : decode cX5_simulate 78 = .ok (.istore 4, 2) := by decide +kernel
theorem dX5_simulate_80 : decode cX5_simulate 80 = .ok (.iload 4, 2) := by decide +kernel
theorem dX5_simulate_82 : decode cX5_simulate 82 = .ok (.bipush 8, 2) := by decide +kernel
theorem dX5_simulate_84 : decode cX5_simulate 84 = .ok (.if_icmp .ge 17, 3) := by decide +kernel
theorem dX5_simulate_87 : decode cX5_simulate 87 = .ok (.aload_n 0, 1) := by decide +kernel
theorem dX5_simulate_88 : decode cX5_simulate 88 = .ok (.getfield 29, 3) := by decide +kernel
theorem dX5_simulate_91 : decode cX5_simulate 91 = .ok (.iload 4, 2) := by decide +kernel
theorem dX5_simulate_93 : decode cX5_simulate 93 = .ok (.iconst 0, 1) := by decide +kernel
theorem dX5_simulate_94 : decode cX5_simulate 94 = .ok (.iastore, 1) := by decide +kernel
theorem dX5_simulate_95 : decode cX5_simulate 95 = .ok (.iinc 4 1, 3) := by decide +kernel
theorem dX5_simulate_98 : decode cX5_simulate 98 = .ok (.goto (-18), 3) := by decide +kernel
theorem dX5_simulate_101 : decode cX5_simulate 101 = .ok (.iconst 0, 1) := by decide +kernel
theorem dX5_simulate_102 : decode cX5_simulate 102 = .ok (.istore 4, 2) := by decide +kernel
theorem dX5_simulate_104 : decode cX5_simulate 104 = .ok (.iload 4, 2) := by decide +kernel
theorem dX5_simulate_106 : decode cX5_simulate 106 = .ok (.iload_n 3, 1) := by decide +kernel
theorem dX5_simulate_107 : decode cX5_simulate 107 = .ok (.if_icmp .ge 42, 3) := by decide +kernel
theorem dX5_simulate_110 : decode cX5_simulate 110 = .ok (.aload_n 0, 1) := by decide +kernel
theorem dX5_simulate_111 : decode cX5_simulate 111 = .ok (.aload_n 0, 1) := by decide +kernel
theorem dX5_simulate_112 : decode cX5_simulate 112 = .ok (.getfield 194, 3) := by decide +kernel
theorem dX5_simulate_115 : decode cX5_simulate 115 = .ok (.ifCond .ne 7, 3) := by decide +kernel
theorem dX5_simulate_118 : decode cX5_simulate 118 = .ok (.iconst 0, 1) := by decide +kernel
theorem dX5_simulate_119 : decode cX5_simulate 119 = .ok (.goto 7, 3) := by decide +kernel
theorem dX5_simulate_122 : decode cX5_simulate 122 = .ok (.aload_n 0, 1) := by decide +kernel
theorem dX5_simulate_123 : decode cX5_simulate 123 = .ok (.getfield 184, 3) := by decide +kernel
theorem dX5_simulate_126 : decode cX5_simulate 126 = .ok (.putfield 184, 3) := by decide +kernel
theorem dX5_simulate_129 : decode cX5_simulate 129 = .ok (.aload_n 0, 1) := by decide +kernel
theorem dX5_simulate_130 : decode cX5_simulate 130 = .ok (.iload 4, 2) := by decide +kernel
theorem dX5_simulate_132 : decode cX5_simulate 132 = .ok (.iload_n 2, 1) := by decide +kernel
theorem dX5_simulate_133 : decode cX5_simulate 133 = .ok (.invokevirtual 229, 3) := by decide +kernel
theorem dX5_simulate_136 : decode cX5_simulate 136 = .ok (.aload_n 0, 1) := by decide +kernel
theorem dX5_simulate_137 : decode cX5_simulate 137 = .ok (.iload 4, 2) := by decide +kernel
theorem dX5_simulate_139 : decode cX5_simulate 139 = .ok (.iload_n 3, 1) := by decide +kernel
theorem dX5_simulate_140 : decode cX5_simulate 140 = .ok (.invokevirtual 233, 3) := by decide +kernel
theorem dX5_simulate_143 : decode cX5_simulate 143 = .ok (.iinc 4 1, 3) := by decide +kernel
theorem dX5_simulate_146 : decode cX5_simulate 146 = .ok (.goto (-42), 3) := by decide +kernel
theorem dX5_simulate_149 : decode cX5_simulate 149 = .ok (.iconst 0, 1) := by decide +kernel
theorem dX5_simulate_150 : decode cX5_simulate 150 = .ok (.istore 4, 2) := by decide +kernel
theorem dX5_simulate_152 : decode cX5_simulate 152 = .ok (.iload 4, 2) := by decide +kernel
theorem dX5_simulate_154 : decode cX5_simulate 154 = .ok (.aload_n 0, 1) := by decide +kernel
theorem dX5_simulate_155 : decode cX5_simulate 155 = .ok (.getfield 194, 3) := by decide +kernel
theorem dX5_simulate_158 : decode cX5_simulate 158 = .ok (.if_icmp .ge 50, 3) := by decide +kernel
theorem dX5_simulate_161 : decode cX5_simulate 161 = .ok (.aload_n 0, 1) := by decide +kernel
theorem dX5_simulate_162 : decode cX5_simulate 162 = .ok (.dup, 1) := by decide +kernel
theorem dX5_simulate_163 : decode cX5_simulate 163 = .ok (.getfield 207, 3) := by decide +kernel
theorem dX5_simulate_166 : decode cX5_simulate 166 = .ok (.aload_n 0, 1) := by decide +kernel
theorem dX5_simulate_167 : decode cX5_simulate 167 = .ok (.getfield 41, 3) := by decide +kernel
theorem dX5_simulate_170 : decode cX5_simulate 170 = .ok (.iload 4, 2) := by decide +kernel
theorem dX5_simulate_172 : decode cX5_simulate 172 = .ok (.iaload, 1) := by decide +kernel
theorem dX5_simulate_173 : decode cX5_simulate 173 = .ok (.aload_n 0, 1) := by decide +kernel
theorem dX5_simulate_174 : decode cX5_simulate 174 = .ok (.getfield 9, 3) := by decide +kernel
theorem dX5_simulate_177 : decode cX5_simulate 177 = .ok (.bipush 10, 2) := by decide +kernel
theorem dX5_simulate_179 : decode cX5_simulate 179 = .ok (.aload_n 0, 1) := by decide +kernel
theorem dX5_simulate_180 : decode cX5_simulate 180 = .ok (.getfield 38, 3) := by decide +kernel
theorem dX5_simulate_183 : decode cX5_simulate 183 = .ok (.iload 4, 2) := by decide +kernel
theorem dX5_simulate_185 : decode cX5_simulate 185 = .ok (.iaload, 1) := by decide +kernel
theorem dX5_simulate_186 : decode cX5_simulate 186 = .ok (.iadd, 1) := by decide +kernel
theorem dX5_simulate_187 : decode cX5_simulate 187 = .ok (.iaload, 1) := by decide +kernel
theorem dX5_simulate_188 : decode cX5_simulate 188 = .ok (.iadd, 1) := by decide +kernel
theorem dX5_simulate_189 : decode cX5_simulate 189 = .ok (.iload_n 3, 1) := by decide +kernel
theorem dX5_simulate_190 : decode cX5_simulate 190 = .ok (.if_icmp .gt 7, 3) := by decide +kernel
theorem dX5_simulate_193 : decode cX5_simulate 193 = .ok (.iconst 1, 1) := by decide +kernel
theorem dX5_simulate_194 : decode cX5_simulate 194 = .ok (.goto 4, 3) := by decide +kernel
theorem dX5_simulate_197 : decode cX5_simulate 197 = .ok (.iconst 0, 1) := by decide +kernel
theorem dX5_simulate_198 : decode cX5_simulate 198 = .ok (.iadd, 1) := by decide +kernel
theorem dX5_simulate_199 : decode cX5_simulate 199 = .ok (.putfield 207, 3) := by decide +kernel
theorem dX5_simulate_202 : decode cX5_simulate 202 = .ok (.iinc 4 1, 3) := by decide +kernel
theorem dX5_simulate_205 : decode cX5_simulate 205 = .ok (.goto (-53), 3) := by decide +kernel
theorem dX5_simulate_208 : decode cX5_simulate 208 = .ok (.aload_n 0, 1) := by decide +kernel
theorem dX5_simulate_209 : decode cX5_simulate 209 = .ok (.getfield 207, 3) := by decide +kernel
theorem dX5_simulate_212 : decode cX5_simulate 212 = .ok (.ireturn, 1) := by decide +kernel
theorem dX5_ofSimulation_0 : decode cX5_ofSimulation 0 = .ok (.aload_n 0, 1) := by decide +kernel
theorem dX5_ofSimulation_1 : decode cX5_ofSimulation 1 = .ok (.aload_n 0, 1) := by decide +kernel
theorem dX5_ofSimulation_2 : decode cX5_ofSimulation 2 = .ok (.getfield 60, 3) := by decide +kernel
theorem dX5_ofSimulation_5 : decode cX5_ofSimulation 5 = .ok (.ifCond .eq 7, 3) := by decide +kernel
theorem dX5_ofSimulation_8 : decode cX5_ofSimulation 8 = .ok (.iconst 0, 1) := by decide +kernel
theorem dX5_ofSimulation_9 : decode cX5_ofSimulation 9 = .ok (.goto 4, 3) := by decide +kernel
theorem dX5_ofSimulation_12 : decode cX5_ofSimulation 12 = .ok (.iconst 1, 1) := by decide +kernel
theorem dX5_ofSimulation_13 : decode cX5_ofSimulation 13 = .ok (.putfield 50, 3) := by decide +kernel
theorem dX5_ofSimulation_16 : decode cX5_ofSimulation 16 = .ok (.aload_n 0, 1) := by decide +kernel
theorem dX5_ofSimulation_17 : decode cX5_ofSimulation 17 = .ok (.getfield 60, 3) := by decide +kernel
theorem dX5_ofSimulation_20 : decode cX5_ofSimulation 20 = .ok (.ifCond .eq 7, 3) := by decide +kernel
theorem dX5_ofSimulation_23 : decode cX5_ofSimulation 23 = .ok (.iload_n 1, 1) := by decide +kernel
theorem dX5_ofSimulation_24 : decode cX5_ofSimulation 24 = .ok (.goto 4, 3) := by decide +kernel
theorem dX5_ofSimulation_27 : decode cX5_ofSimulation 27 = .ok (.iconst 0, 1) := by decide +kernel
theorem dX5_ofSimulation_28 : decode cX5_ofSimulation 28 = .ok (.ireturn, 1) := by decide +kernel
set_option maxRecDepth 20000 in
theorem ggX5_completed_X5_ofSimulation : GoodIn wsX5_completed wsX5_ofSimulation := goodIn_r _ [6, 7, 8, 9, 10, 11, 12, 13, 14, 15, 16, 17, 18, 19, 20, 21, 22, 23, 24, 25, 26, 27, 28, 29, 30, 31, 32, 33, 34, 35, 36, 37, 38, 39, 40] (by decide +kernel) (by decide +kernel)
set_option maxRecDepth 20000 in
theorem gX5_completed_X5_ofSimulation : GoodIn wsX5_completed (wsV RX5 236 RX5 yX5_ofSimulation wsX5_ofSimulation) := goodIn_app (goodIn_of _ (by decide +kernel)) ggX5_completed_X5_ofSimulation
theorem dX5_completed_0 : decode cX5_completed 0 = .ok (.aload_n 0, 1) := by decide +kernel
theorem dX5_completed_1 : decode cX5_completed 1 = .ok (.aload_n 0, 1) := by decide +kernel
theorem dX5_completed_2 : decode cX5_completed 2 = .ok (.getfield 204, 3) := by decide +kernel
theorem dX5_completed_5 : decode cX5_completed 5 = .ok (.invokevirtual 236, 3) := by decide +kernel
theorem dX5_completed_8 : decode cX5_completed 8 = .ok (.ireturn, 1) := by decide +kernel
set_option maxRecDepth 20000 in
theorem ggX5_dropped_X5_ofSimulation : GoodIn wsX5_dropped wsX5_ofSimulation := goodIn_r _ [6, 7, 8, 9, 10, 11, 12, 13, 14, 15, 16, 17, 18, 19, 20, 21, 22, 23, 24, 25, 26, 27, 28, 29, 30, 31, 32, 33, 34, 35, 36, 37, 38, 39, 40] (by decide +kernel) (by decide +kernel)
set_option maxRecDepth 20000 in
theorem gX5_dropped_X5_ofSimulation : GoodIn wsX5_dropped (wsV RX5 236 RX5 yX5_ofSimulation wsX5_ofSimulation) := goodIn_app (goodIn_of _ (by decide +kernel)) ggX5_dropped_X5_ofSimulation
theorem dX5_dropped_0 : decode cX5_dropped 0 = .ok (.aload_n 0, 1) := by decide +kernel
theorem dX5_dropped_1 : decode cX5_dropped 1 = .ok (.aload_n 0, 1) := by decide +kernel
theorem dX5_dropped_2 : decode cX5_dropped 2 = .ok (.getfield 187, 3) := by decide +kernel
theorem dX5_dropped_5 : decode cX5_dropped 5 = .ok (.invokevirtual 236, 3) := by decide +kernel
theorem dX5_dropped_8 : decode cX5_dropped 8 = .ok (.ireturn, 1) := by decide +kernel
set_option maxRecDepth 20000 in
theorem ggX5_switches_X5_ofSimulation : GoodIn wsX5_switches wsX5_ofSimulation := goodIn_r _ [6, 7, 8, 9, 10, 11, 12, 13, 14, 15, 16, 17, 18, 19, 20, 21, 22, 23, 24, 25, 26, 27, 28, 29, 30, 31, 32, 33, 34, 35, 36, 37, 38, 39, 40] (by decide +kernel) (by decide +kernel)
set_option maxRecDepth 20000 in
theorem gX5_switches_X5_ofSimulation : GoodIn wsX5_switches (wsV RX5 236 RX5 yX5_ofSimulation wsX5_ofSimulation) := goodIn_app (goodIn_of _ (by decide +kernel)) ggX5_switches_X5_ofSimulation
theorem dX5_switches_0 : decode cX5_switches 0 = .ok (.aload_n 0, 1) := by decide +kernel
theorem dX5_switches_1 : decode cX5_switches 1 = .ok (.aload_n 0, 1) := by decide +kernel
theorem dX5_switches_2 : decode cX5_switches 2 = .ok (.getfield 214, 3) := by decide +kernel
theorem dX5_switches_5 : decode cX5_switches 5 = .ok (.invokevirtual 236, 3) := by decide +kernel
theorem dX5_switches_8 : decode cX5_switches 8 = .ok (.ireturn, 1) := by decide +kernel
set_option maxRecDepth 20000 in
theorem ggX5_idleUnits_X5_ofSimulation : GoodIn wsX5_idleUnits wsX5_ofSimulation := goodIn_r _ [6, 7, 8, 9, 10, 11, 12, 13, 14, 15, 16, 17, 18, 19, 20, 21, 22, 23, 24, 25, 26, 27, 28, 29, 30, 31, 32, 33, 34, 35, 36, 37, 38, 39, 40] (by decide +kernel) (by decide +kernel)
set_option maxRecDepth 20000 in
theorem gX5_idleUnits_X5_ofSimulation : GoodIn wsX5_idleUnits (wsV RX5 236 RX5 yX5_ofSimulation wsX5_ofSimulation) := goodIn_app (goodIn_of _ (by decide +kernel)) ggX5_idleUnits_X5_ofSimulation
theorem dX5_idleUnits_0 : decode cX5_idleUnits 0 = .ok (.aload_n 0, 1) := by decide +kernel
theorem dX5_idleUnits_1 : decode cX5_idleUnits 1 = .ok (.aload_n 0, 1) := by decide +kernel
theorem dX5_idleUnits_2 : decode cX5_idleUnits 2 = .ok (.getfield 217, 3) := by decide +kernel
theorem dX5_idleUnits_5 : decode cX5_idleUnits 5 = .ok (.invokevirtual 236, 3) := by decide +kernel
theorem dX5_idleUnits_8 : decode cX5_idleUnits 8 = .ok (.ireturn, 1) := by decide +kernel
set_option maxRecDepth 20000 in
theorem ggX5_response_X5_isTask : GoodIn wsX5_response wsX5_isTask := goodIn_r _ [8, 9, 10, 11, 7, 12, 17, 18, 19, 20, 21, 22, 23, 24, 25, 26, 27, 28, 29, 30, 31, 32, 33, 34, 35, 36, 37, 38, 39, 40, 41, 42, 43, 44, 45, 46, 47, 48] (by decide +kernel) (by decide +kernel)
set_option maxRecDepth 20000 in
theorem gX5_response_X5_isTask : GoodIn wsX5_response (wsV RX5 143 RX5 yX5_isTask wsX5_isTask) := goodIn_app (goodIn_of _ (by decide +kernel)) ggX5_response_X5_isTask
set_option maxRecDepth 20000 in
theorem ggX5_response_X5_fails : GoodIn wsX5_response wsX5_fails := goodIn_r _ [16, 1, 17, 18, 19, 20, 21, 22, 23, 24, 25, 26, 27, 28, 29, 30, 31, 32, 33, 34, 35, 36, 37, 38, 39, 40, 41, 42, 43, 44, 45, 46, 47, 48] (by decide +kernel) (by decide +kernel)
set_option maxRecDepth 20000 in
theorem gX5_response_X5_fails : GoodIn wsX5_response (wsV RX5 107 RX5 yX5_fails wsX5_fails) := goodIn_app (goodIn_of _ (by decide +kernel)) ggX5_response_X5_fails
theorem dX5_response_0 : decode cX5_response 0 = .ok (.aload_n 0, 1) := by decide +kernel
theorem dX5_response_1 : decode cX5_response 1 = .ok (.iconst 0, 1) := by decide +kernel
theorem dX5_response_2 : decode cX5_response 2 = .ok (.putfield 50, 3) := by decide +kernel
theorem dX5_response_5 : decode cX5_response 5 = .ok (.aload_n 0, 1) := by decide +kernel
theorem dX5_response_6 : decode cX5_response 6 = .ok (.iload_n 1, 1) := by decide +kernel
theorem dX5_response_7 : decode cX5_response 7 = .ok (.invokevirtual 143, 3) := by decide +kernel
theorem dX5_response_10 : decode cX5_response 10 = .ok (.ifCond .ne 9, 3) := by decide +kernel
theorem dX5_response_13 : decode cX5_response 13 = .ok (.aload_n 0, 1) := by decide +kernel
theorem dX5_response_14 : decode cX5_response 14 = .ok (.iconst 1, 1) := by decide +kernel
theorem dX5_response_15 : decode cX5_response 15 = .ok (.invokevirtual 107, 3) := by decide +kernel
theorem dX5_response_18 : decode cX5_response 18 = .ok (.ireturn, 1) := by decide +kernel
theorem dX5_response_19 : decode cX5_response 19 = .ok (.aload_n 0, 1) := by decide +kernel
theorem dX5_response_20 : decode cX5_response 20 = .ok (.getfield 60, 3) := by decide +kernel
theorem dX5_response_23 : decode cX5_response 23 = .ok (.ifCond .ne 9, 3) := by decide +kernel
theorem dX5_response_26 : decode cX5_response 26 = .ok (.aload_n 0, 1) := by decide +kernel
theorem dX5_response_27 : decode cX5_response 27 = .ok (.iconst 2, 1) := by decide +kernel
theorem dX5_response_28 : decode cX5_response 28 = .ok (.invokevirtual 107, 3) := by decide +kernel
theorem dX5_response_31 : decode cX5_response 31 = .ok (.ireturn, 1) := by decide +kernel
theorem dX5_response_32 : decode cX5_response 32 = .ok (.aload_n 0, 1) := by decide +kernel
theorem dX5_response_33 : decode cX5_response 33 = .ok (.getfield 29, 3) := by decide +kernel
theorem dX5_response_36 : decode cX5_response 36 = .ok (.iload_n 1, 1) := by decide +kernel
theorem dX5_response_37 : decode cX5_response 37 = .ok (.iaload, 1) := by decide +kernel
theorem dX5_response_38 : decode cX5_response 38 = .ok (.ifCond .le 12, 3) := by decide +kernel
theorem dX5_response_41 : decode cX5_response 41 = .ok (.aload_n 0, 1) := by decide +kernel
theorem dX5_response_42 : decode cX5_response 42 = .ok (.getfield 29, 3) := by decide +kernel
theorem dX5_response_45 : decode cX5_response 45 = .ok (.iload_n 1, 1) := by decide +kernel
theorem dX5_response_46 : decode cX5_response 46 = .ok (.iaload, 1) := by decide +kernel
theorem dX5_response_47 : decode cX5_response 47 = .ok (.goto 8, 3) := by decide +kernel
theorem dX5_response_50 : decode cX5_response 50 = .ok (.aload_n 0, 1) := by decide +kernel
theorem dX5_response_51 : decode cX5_response 51 = .ok (.iconst 3, 1) := by decide +kernel
theorem dX5_response_52 : decode cX5_response 52 = .ok (.invokevirtual 107, 3) := by decide +kernel
theorem dX5_response_55 : decode cX5_response 55 = .ok (.ireturn, 1) := by decide +kernel
theorem dX5_save_0 : decode cX5_save 0 = .ok (.aload_n 0, 1) := by decide +kernel
theorem dX5_save_1 : decode cX5_save 1 = .ok (.iconst 0, 1) := by decide +kernel
theorem dX5_save_2 : decode cX5_save 2 = .ok (.putfield 50, 3) := by decide +kernel
theorem dX5_save_5 : decode cX5_save 5 = .ok (.iconst 0, 1) := by decide +kernel
theorem dX5_save_6 : decode cX5_save 6 = .ok (.istore_n 1, 1) := by decide +kernel
theorem dX5_save_7 : decode cX5_save 7 = .ok (.iload_n 1, 1) := by decide +kernel
theorem dX5_save_8 : decode cX5_save 8 = .ok (.bipush 58, 2) := by decide +kernel
theorem dX5_save_10 : decode cX5_save 10 = .ok (.if_icmp .ge 21, 3) := by decide +kernel
theorem dX5_save_13 : decode cX5_save 13 = .ok (.aload_n 0, 1) := by decide +kernel
theorem dX5_save_14 : decode cX5_save 14 = .ok (.getfield 16, 3) := by decide +kernel
theorem dX5_save_17 : decode cX5_save 17 = .ok (.iload_n 1, 1) := by decide +kernel
theorem dX5_save_18 : decode cX5_save 18 = .ok (.aload_n 0, 1) := by decide +kernel
theorem dX5_save_19 : decode cX5_save 19 = .ok (.getfield 9, 3) := by decide +kernel
theorem dX5_save_22 : decode cX5_save 22 = .ok (.iload_n 1, 1) := by decide +kernel
theorem dX5_save_23 : decode cX5_save 23 = .ok (.iaload, 1) := by decide +kernel
theorem dX5_save_24 : decode cX5_save 24 = .ok (.iastore, 1) := by decide +kernel
theorem dX5_save_25 : decode cX5_save 25 = .ok (.iinc 1 1, 3) := by decide +kernel
theorem dX5_save_28 : decode cX5_save 28 = .ok (.goto (-21), 3) := by decide +kernel
theorem dX5_save_31 : decode cX5_save 31 = .ok (.aload_n 0, 1) := by decide +kernel
theorem dX5_save_32 : decode cX5_save 32 = .ok (.iconst 1, 1) := by decide +kernel
theorem dX5_save_33 : decode cX5_save 33 = .ok (.putfield 239, 3) := by decide +kernel
theorem dX5_save_36 : decode cX5_save 36 = .ok (.return_, 1) := by decide +kernel
set_option maxRecDepth 20000 in
theorem ggX5_restore_X5_fails : GoodIn wsX5_restore wsX5_fails := goodIn_r _ [9, 1, 22, 23, 24, 25, 26, 27, 28, 29, 30, 31, 32, 33, 34, 35, 36, 37, 38, 39, 40, 41, 42, 43, 44, 45, 46, 47, 48, 49, 50, 51, 52, 53] (by decide +kernel) (by decide +kernel)
set_option maxRecDepth 20000 in
theorem gX5_restore_X5_fails : GoodIn wsX5_restore (wsV RX5 107 RX5 yX5_fails wsX5_fails) := goodIn_app (goodIn_of _ (by decide +kernel)) ggX5_restore_X5_fails
set_option maxRecDepth 20000 in
theorem ggX5_restore_X5_keeps : GoodIn wsX5_restore wsX5_keeps := goodIn_r _ [13, 14, 3, 22, 23, 24, 25, 26, 27, 28, 29, 30, 31, 32, 33, 34, 35, 36, 37, 38, 39, 40, 41, 42, 43, 44, 45, 46, 47, 48, 49, 50, 51, 52, 53] (by decide +kernel) (by decide +kernel)
set_option maxRecDepth 20000 in
theorem gX5_restore_X5_keeps : GoodIn wsX5_restore (wsV RX5 110 RX5 yX5_keeps wsX5_keeps) := goodIn_app (goodIn_of _ (by decide +kernel)) ggX5_restore_X5_keeps
set_option maxRecDepth 20000 in
theorem ggX5_restore_X5_records : GoodIn wsX5_restore wsX5_records := goodIn_r _ [18, 19, 20, 14, 21, 22, 23, 24, 25, 26, 27, 28, 29, 30, 31, 32, 33, 34, 35, 36, 37, 38, 39, 40, 41, 42, 43, 44, 45, 46, 47, 48, 49, 50, 51, 52, 53] (by decide +kernel) (by decide +kernel)
set_option maxRecDepth 20000 in
theorem gX5_restore_X5_records : GoodIn wsX5_restore (wsV RX5 124 RX5 yX5_records wsX5_records) := goodIn_app (goodIn_of _ (by decide +kernel)) ggX5_restore_X5_records
theorem dX5_restore_0 : decode cX5_restore 0 = .ok (.aload_n 0, 1) := by decide +kernel
theorem dX5_restore_1 : decode cX5_restore 1 = .ok (.iconst 0, 1) := by decide +kernel
theorem dX5_restore_2 : decode cX5_restore 2 = .ok (.putfield 50, 3) := by decide +kernel
theorem dX5_restore_5 : decode cX5_restore 5 = .ok (.aload_n 0, 1) := by decide +kernel
theorem dX5_restore_6 : decode cX5_restore 6 = .ok (.getfield 239, 3) := by decide +kernel
theorem dX5_restore_9 : decode cX5_restore 9 = .ok (.ifCond .ne 9, 3) := by decide +kernel
theorem dX5_restore_12 : decode cX5_restore 12 = .ok (.aload_n 0, 1) := by decide +kernel
theorem dX5_restore_13 : decode cX5_restore 13 = .ok (.iconst 1, 1) := by decide +kernel
theorem dX5_restore_14 : decode cX5_restore 14 = .ok (.invokevirtual 107, 3) := by decide +kernel
theorem dX5_restore_17 : decode cX5_restore 17 = .ok (.ireturn, 1) := by decide +kernel
theorem dX5_restore_18 : decode cX5_restore 18 = .ok (.aload_n 0, 1) := by decide +kernel
theorem dX5_restore_19 : decode cX5_restore 19 = .ok (.invokevirtual 110, 3) := by decide +kernel
theorem dX5_restore_22 : decode cX5_restore 22 = .ok (.iconst 0, 1) := by decide +kernel
theorem dX5_restore_23 : decode cX5_restore 23 = .ok (.istore_n 1, 1) := by decide +kernel
theorem dX5_restore_24 : decode cX5_restore 24 = .ok (.iload_n 1, 1) := by decide +kernel
theorem dX5_restore_25 : decode cX5_restore 25 = .ok (.bipush 58, 2) := by decide +kernel
theorem dX5_restore_27 : decode cX5_restore 27 = .ok (.if_icmp .ge 21, 3) := by decide +kernel
theorem dX5_restore_30 : decode cX5_restore 30 = .ok (.aload_n 0, 1) := by decide +kernel
theorem dX5_restore_31 : decode cX5_restore 31 = .ok (.getfield 9, 3) := by decide +kernel
theorem dX5_restore_34 : decode cX5_restore 34 = .ok (.iload_n 1, 1) := by decide +kernel
theorem dX5_restore_35 : decode cX5_restore 35 = .ok (.aload_n 0, 1) := by decide +kernel
theorem dX5_restore_36 : decode cX5_restore 36 = .ok (.getfield 16, 3) := by decide +kernel
theorem dX5_restore_39 : decode cX5_restore 39 = .ok (.iload_n 1, 1) := by decide +kernel
theorem dX5_restore_40 : decode cX5_restore 40 = .ok (.iaload, 1) := by decide +kernel
theorem dX5_restore_41 : decode cX5_restore 41 = .ok (.iastore, 1) := by decide +kernel
theorem dX5_restore_42 : decode cX5_restore 42 = .ok (.iinc 1 1, 3) := by decide +kernel
theorem dX5_restore_45 : decode cX5_restore 45 = .ok (.goto (-21), 3) := by decide +kernel
theorem dX5_restore_48 : decode cX5_restore 48 = .ok (.aload_n 0, 1) := by decide +kernel
theorem dX5_restore_49 : decode cX5_restore 49 = .ok (.invokevirtual 124, 3) := by decide +kernel
theorem dX5_restore_52 : decode cX5_restore 52 = .ok (.aload_n 0, 1) := by decide +kernel
theorem dX5_restore_53 : decode cX5_restore 53 = .ok (.getfield 9, 3) := by decide +kernel
theorem dX5_restore_56 : decode cX5_restore 56 = .ok (.iconst 0, 1) := by decide +kernel
theorem dX5_restore_57 : decode cX5_restore 57 = .ok (.iaload, 1) := by decide +kernel
theorem dX5_restore_58 : decode cX5_restore 58 = .ok (.ireturn, 1) := by decide +kernel
theorem dJxe99ae_isNaN_b9ae7_0 : decode cJxe99ae_isNaN_b9ae7 0 = .ok (.dload_n 0, 1) := by decide +kernel
theorem dJxe99ae_isNaN_b9ae7_1 : decode cJxe99ae_isNaN_b9ae7 1 = .ok (.dload_n 0, 1) := by decide +kernel
theorem dJxe99ae_isNaN_b9ae7_2 : decode cJxe99ae_isNaN_b9ae7 2 = .ok (.dcmp .l, 1) := by decide +kernel
theorem dJxe99ae_isNaN_b9ae7_3 : decode cJxe99ae_isNaN_b9ae7 3 = .ok (.ifCond .eq 7, 3) := by decide +kernel
theorem dJxe99ae_isNaN_b9ae7_6 : decode cJxe99ae_isNaN_b9ae7 6 = .ok (.iconst 1, 1) := by decide +kernel
theorem dJxe99ae_isNaN_b9ae7_7 : decode cJxe99ae_isNaN_b9ae7 7 = .ok (.goto 4, 3) := by decide +kernel
theorem dJxe99ae_isNaN_b9ae7_10 : decode cJxe99ae_isNaN_b9ae7 10 = .ok (.iconst 0, 1) := by decide +kernel
theorem dJxe99ae_isNaN_b9ae7_11 : decode cJxe99ae_isNaN_b9ae7 11 = .ok (.ireturn, 1) := by decide +kernel
set_option maxRecDepth 20000 in
theorem ggJxe99ae_doubleToLongBits_ccdee_Jxe99ae_isNaN_b9ae7 : GoodIn wsJxe99ae_doubleToLongBits_ccdee wsJxe99ae_isNaN_b9ae7 := goodIn_r _ [9] (by decide +kernel) (by decide +kernel)
set_option maxRecDepth 20000 in
theorem gJxe99ae_doubleToLongBits_ccdee_Jxe99ae_isNaN_b9ae7 : GoodIn wsJxe99ae_doubleToLongBits_ccdee (va_wsS RJxe99ae 122 yJxe99ae_isNaN_b9ae7 wsJxe99ae_isNaN_b9ae7) := goodIn_app (goodIn_of _ (by decide +kernel)) ggJxe99ae_doubleToLongBits_ccdee_Jxe99ae_isNaN_b9ae7
theorem dJxe99ae_doubleToLongBits_ccdee_0 : decode cJxe99ae_doubleToLongBits_ccdee 0 = .ok (.dload_n 0, 1) := by decide +kernel
theorem dJxe99ae_doubleToLongBits_ccdee_1 : decode cJxe99ae_doubleToLongBits_ccdee 1 = .ok (.invokestatic 122, 3) := by decide +kernel
theorem dJxe99ae_doubleToLongBits_ccdee_4 : decode cJxe99ae_doubleToLongBits_ccdee 4 = .ok (.ifCond .ne 8, 3) := by decide +kernel
theorem dJxe99ae_doubleToLongBits_ccdee_7 : decode cJxe99ae_doubleToLongBits_ccdee 7 = .ok (.dload_n 0, 1) := by decide +kernel
theorem dJxe99ae_doubleToLongBits_ccdee_8 : decode cJxe99ae_doubleToLongBits_ccdee 8 = .ok (.invokestatic 134, 3) := by decide +kernel
theorem dJxe99ae_doubleToLongBits_ccdee_11 : decode cJxe99ae_doubleToLongBits_ccdee 11 = .ok (.lreturn, 1) := by decide +kernel
theorem dJxe99ae_doubleToLongBits_ccdee_12 : decode cJxe99ae_doubleToLongBits_ccdee 12 = .ok (.ldc2_w 137, 3) := by decide +kernel
theorem dJxe99ae_doubleToLongBits_ccdee_15 : decode cJxe99ae_doubleToLongBits_ccdee 15 = .ok (.lreturn, 1) := by decide +kernel
theorem dJxf58ca_isNaN_12338_0 : decode cJxf58ca_isNaN_12338 0 = .ok (.fload_n 0, 1) := by decide +kernel
theorem dJxf58ca_isNaN_12338_1 : decode cJxf58ca_isNaN_12338 1 = .ok (.fload_n 0, 1) := by decide +kernel
theorem dJxf58ca_isNaN_12338_2 : decode cJxf58ca_isNaN_12338 2 = .ok (.fcmp .l, 1) := by decide +kernel
theorem dJxf58ca_isNaN_12338_3 : decode cJxf58ca_isNaN_12338 3 = .ok (.ifCond .eq 7, 3) := by decide +kernel
theorem dJxf58ca_isNaN_12338_6 : decode cJxf58ca_isNaN_12338 6 = .ok (.iconst 1, 1) := by decide +kernel
theorem dJxf58ca_isNaN_12338_7 : decode cJxf58ca_isNaN_12338 7 = .ok (.goto 4, 3) := by decide +kernel
theorem dJxf58ca_isNaN_12338_10 : decode cJxf58ca_isNaN_12338 10 = .ok (.iconst 0, 1) := by decide +kernel
theorem dJxf58ca_isNaN_12338_11 : decode cJxf58ca_isNaN_12338 11 = .ok (.ireturn, 1) := by decide +kernel
set_option maxRecDepth 20000 in
theorem ggJxf58ca_floatToIntBits_5c35a_Jxf58ca_isNaN_12338 : GoodIn wsJxf58ca_floatToIntBits_5c35a wsJxf58ca_isNaN_12338 := goodIn_r _ [9] (by decide +kernel) (by decide +kernel)
set_option maxRecDepth 20000 in
theorem gJxf58ca_floatToIntBits_5c35a_Jxf58ca_isNaN_12338 : GoodIn wsJxf58ca_floatToIntBits_5c35a (va_wsS RJxf58ca 59 yJxf58ca_isNaN_12338 wsJxf58ca_isNaN_12338) := goodIn_app (goodIn_of _ (by decide +kernel)) ggJxf58ca_floatToIntBits_5c35a_Jxf58ca_isNaN_12338
theorem dJxf58ca_floatToIntBits_5c35a_0 : decode cJxf58ca_floatToIntBits_5c35a 0 = .ok (.fload_n 0, 1) := by decide +kernel
theorem dJxf58ca_floatToIntBits_5c35a_1 : decode cJxf58ca_floatToIntBits_5c35a 1 = .ok (.invokestatic 59, 3) := by decide +kernel
theorem dJxf58ca_floatToIntBits_5c35a_4 : decode cJxf58ca_floatToIntBits_5c35a 4 = .ok (.ifCond .ne 8, 3) := by decide +kernel
theorem dJxf58ca_floatToIntBits_5c35a_7 : decode cJxf58ca_floatToIntBits_5c35a 7 = .ok (.fload_n 0, 1) := by decide +kernel
theorem dJxf58ca_floatToIntBits_5c35a_8 : decode cJxf58ca_floatToIntBits_5c35a 8 = .ok (.invokestatic 74, 3) := by decide +kernel
theorem dJxf58ca_floatToIntBits_5c35a_11 : decode cJxf58ca_floatToIntBits_5c35a 11 = .ok (.ireturn, 1) := by decide +kernel
theorem dJxf58ca_floatToIntBits_5c35a_12 : decode cJxf58ca_floatToIntBits_5c35a 12 = .ok (.ldc 77, 2) := by decide +kernel
theorem dJxf58ca_floatToIntBits_5c35a_14 : decode cJxf58ca_floatToIntBits_5c35a 14 = .ok (.ireturn, 1) := by decide +kernel
theorem dJ9_max_7cf53_0 : decode cJ9_max_7cf53 0 = .ok (.iload_n 0, 1) := by decide +kernel
theorem dJ9_max_7cf53_1 : decode cJ9_max_7cf53 1 = .ok (.iload_n 1, 1) := by decide +kernel
theorem dJ9_max_7cf53_2 : decode cJ9_max_7cf53 2 = .ok (.if_icmp .lt 7, 3) := by decide +kernel
theorem dJ9_max_7cf53_5 : decode cJ9_max_7cf53 5 = .ok (.iload_n 0, 1) := by decide +kernel
theorem dJ9_max_7cf53_6 : decode cJ9_max_7cf53 6 = .ok (.goto 4, 3) := by decide +kernel
theorem dJ9_max_7cf53_9 : decode cJ9_max_7cf53 9 = .ok (.iload_n 1, 1) := by decide +kernel
theorem dJ9_max_7cf53_10 : decode cJ9_max_7cf53 10 = .ok (.ireturn, 1) := by decide +kernel
theorem dJ9_min_7cf53_0 : decode cJ9_min_7cf53 0 = .ok (.iload_n 0, 1) := by decide +kernel
theorem dJ9_min_7cf53_1 : decode cJ9_min_7cf53 1 = .ok (.iload_n 1, 1) := by decide +kernel
theorem dJ9_min_7cf53_2 : decode cJ9_min_7cf53 2 = .ok (.if_icmp .gt 7, 3) := by decide +kernel
theorem dJ9_min_7cf53_5 : decode cJ9_min_7cf53 5 = .ok (.iload_n 0, 1) := by decide +kernel
theorem dJ9_min_7cf53_6 : decode cJ9_min_7cf53 6 = .ok (.goto 4, 3) := by decide +kernel
theorem dJ9_min_7cf53_9 : decode cJ9_min_7cf53 9 = .ok (.iload_n 1, 1) := by decide +kernel
theorem dJ9_min_7cf53_10 : decode cJ9_min_7cf53 10 = .ok (.ireturn, 1) := by decide +kernel
