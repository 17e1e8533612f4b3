theorem dX0_init_0 : decode cX0_init 0 = .ok (.aload_n 0, 1) := by decide +kernel
theorem dX0_init_1 : decode cX0_init 1 = .ok (.invokespecial 3, 3) := by decide +kernel
theorem dX0_init_4 : decode cX0_init 4 = .ok (.aload_n 0, 1) := by decide +kernel
theorem dX0_init_5 : decode cX0_init 5 = .ok (.bipush 8, 2) := by decide +kernel
theorem dX0_init_7 : decode cX0_init 7 = .ok (.newarray .int, 2) := by decide +kernel
theorem dX0_init_9 : decode cX0_init 9 = .ok (.putfield 9, 3) := by decide +kernel
theorem dX0_init_12 : decode cX0_init 12 = .ok (.aload_n 0, 1) := by decide +kernel
theorem dX0_init_13 : decode cX0_init 13 = .ok (.bipush 8, 2) := by decide +kernel
theorem dX0_init_15 : decode cX0_init 15 = .ok (.newarray .int, 2) := by decide +kernel
theorem dX0_init_17 : decode cX0_init 17 = .ok (.putfield 15, 3) := by decide +kernel
theorem dX0_init_20 : decode cX0_init 20 = .ok (.aload_n 0, 1) := by decide +kernel
theorem dX0_init_21 : decode cX0_init 21 = .ok (.bipush 8, 2) := by decide +kernel
theorem dX0_init_23 : decode cX0_init 23 = .ok (.newarray .int, 2) := by decide +kernel
theorem dX0_init_25 : decode cX0_init 25 = .ok (.putfield 18, 3) := by decide +kernel
theorem dX0_init_28 : decode cX0_init 28 = .ok (.aload_n 0, 1) := by decide +kernel
theorem dX0_init_29 : decode cX0_init 29 = .ok (.bipush 8, 2) := by decide +kernel
theorem dX0_init_31 : decode cX0_init 31 = .ok (.newarray .int, 2) := by decide +kernel
theorem dX0_init_33 : decode cX0_init 33 = .ok (.putfield 21, 3) := by decide +kernel
theorem dX0_init_36 : decode cX0_init 36 = .ok (.aload_n 0, 1) := by decide +kernel
theorem dX0_init_37 : decode cX0_init 37 = .ok (.bipush 8, 2) := by decide +kernel
theorem dX0_init_39 : decode cX0_init 39 = .ok (.newarray .int, 2) := by decide +kernel
theorem dX0_init_41 : decode cX0_init 41 = .ok (.putfield 24, 3) := by decide +kernel
theorem dX0_init_44 : decode cX0_init 44 = .ok (.aload_n 0, 1) := by decide +kernel
theorem dX0_init_45 : decode cX0_init 45 = .ok (.bipush 8, 2) := by decide +kernel
theorem dX0_init_47 : decode cX0_init 47 = .ok (.newarray .int, 2) := by decide +kernel
theorem dX0_init_49 : decode cX0_init 49 = .ok (.putfield 27, 3) := by decide +kernel
theorem dX0_init_52 : decode cX0_init 52 = .ok (.aload_n 0, 1) := by decide +kernel
theorem dX0_init_53 : decode cX0_init 53 = .ok (.bipush 8, 2) := by decide +kernel
theorem dX0_init_55 : decode cX0_init 55 = .ok (.newarray .int, 2) := by decide +kernel
theorem dX0_init_57 : decode cX0_init 57 = .ok (.putfield 30, 3) := by decide +kernel
theorem dX0_init_60 : decode cX0_init 60 = .ok (.aload_n 0, 1) := by decide +kernel
theorem dX0_init_61 : decode cX0_init 61 = .ok (.bipush 8, 2) := by decide +kernel
theorem dX0_init_63 : decode cX0_init 63 = .ok (.putfield 33, 3) := by decide +kernel
theorem dX0_init_66 : decode cX0_init 66 = .ok (.return_, 1) := by decide +kernel
set_option maxRecDepth 20000 in
theorem ggX0_copyFrom_X0_copyTask : GoodIn wsX0_copyFrom wsX0_copyTask := goodIn_r _ [7, 8, 9, 10, 11, 12, 13, 14, 15, 16, 17, 18, 19, 20, 21, 22, 23] (by decide +kernel) (by decide +kernel)
set_option maxRecDepth 20000 in
theorem gX0_copyFrom_X0_copyTask : GoodIn wsX0_copyFrom (wsV RX0 40 RX0 yX0_copyTask wsX0_copyTask) := goodIn_app (goodIn_of _ (by decide +kernel)) ggX0_copyFrom_X0_copyTask
theorem dX0_copyFrom_0 : decode cX0_copyFrom 0 = .ok (.iconst 0, 1) := by decide +kernel
theorem dX0_copyFrom_1 : decode cX0_copyFrom 1 = .ok (.istore_n 2, 1) := by decide +kernel
theorem dX0_copyFrom_2 : decode cX0_copyFrom 2 = .ok (.iload_n 2, 1) := by decide +kernel
theorem dX0_copyFrom_3 : decode cX0_copyFrom 3 = .ok (.aload_n 1, 1) := by decide +kernel
theorem dX0_copyFrom_4 : decode cX0_copyFrom 4 = .ok (.getfield 37, 3) := by decide +kernel
theorem dX0_copyFrom_7 : decode cX0_copyFrom 7 = .ok (.if_icmp .ge 16, 3) := by decide +kernel
theorem dX0_copyFrom_10 : decode cX0_copyFrom 10 = .ok (.aload_n 0, 1) := by decide +kernel
theorem dX0_copyFrom_11 : decode cX0_copyFrom 11 = .ok (.aload_n 1, 1) := by decide +kernel
theorem dX0_copyFrom_12 : decode cX0_copyFrom 12 = .ok (.iload_n 2, 1) := by decide +kernel
theorem dX0_copyFrom_13 : decode cX0_copyFrom 13 = .ok (.iload_n 2, 1) := by decide +kernel
theorem dX0_copyFrom_14 : decode cX0_copyFrom 14 = .ok (.invokevirtual 40, 3) := by decide +kernel
theorem dX0_copyFrom_17 : decode cX0_copyFrom 17 = .ok (.iinc 2 1, 3) := by decide +kernel
theorem dX0_copyFrom_20 : decode cX0_copyFrom 20 = .ok (.goto (-18), 3) := by decide +kernel
theorem dX0_copyFrom_23 : decode cX0_copyFrom 23 = .ok (.aload_n 0, 1) := by decide +kernel
theorem dX0_copyFrom_24 : decode cX0_copyFrom 24 = .ok (.aload_n 1, 1) := by decide +kernel
theorem dX0_copyFrom_25 : decode cX0_copyFrom 25 = .ok (.getfield 37, 3) := by decide +kernel
theorem dX0_copyFrom_28 : decode cX0_copyFrom 28 = .ok (.putfield 37, 3) := by decide +kernel
theorem dX0_copyFrom_31 : decode cX0_copyFrom 31 = .ok (.aload_n 0, 1) := by decide +kernel
theorem dX0_copyFrom_32 : decode cX0_copyFrom 32 = .ok (.aload_n 1, 1) := by decide +kernel
theorem dX0_copyFrom_33 : decode cX0_copyFrom 33 = .ok (.getfield 33, 3) := by decide +kernel
theorem dX0_copyFrom_36 : decode cX0_copyFrom 36 = .ok (.putfield 33, 3) := by decide +kernel
theorem dX0_copyFrom_39 : decode cX0_copyFrom 39 = .ok (.return_, 1) := by decide +kernel
theorem dX0_copyTask_0 : decode cX0_copyTask 0 = .ok (.aload_n 0, 1) := by decide +kernel
theorem dX0_copyTask_1 : decode cX0_copyTask 1 = .ok (.getfield 9, 3) := by decide +kernel
theorem dX0_copyTask_4 : decode cX0_copyTask 4 = .ok (.iload_n 3, 1) := by decide +kernel
theorem dX0_copyTask_5 : decode cX0_copyTask 5 = .ok (.aload_n 1, 1) := by decide +kernel
theorem dX0_copyTask_6 : decode cX0_copyTask 6 = .ok (.getfield 9, 3) := by decide +kernel
theorem dX0_copyTask_9 : decode cX0_copyTask 9 = .ok (.iload_n 2, 1) := by decide +kernel
theorem dX0_copyTask_10 : decode cX0_copyTask 10 = .ok (.iaload, 1) := by decide +kernel
theorem dX0_copyTask_11 : decode cX0_copyTask 11 = .ok (.iastore, 1) := by decide +kernel
theorem dX0_copyTask_12 : decode cX0_copyTask 12 = .ok (.aload_n 0, 1) := by decide +kernel
theorem dX0_copyTask_13 : decode cX0_copyTask 13 = .ok (.getfield 15, 3) := by decide +kernel
theorem dX0_copyTask_16 : decode cX0_copyTask 16 = .ok (.iload_n 3, 1) := by decide +kernel
theorem dX0_copyTask_17 : decode cX0_copyTask 17 = .ok (.aload_n 1, 1) := by decide +kernel
theorem dX0_copyTask_18 : decode cX0_copyTask 18 = .ok (.getfield 15, 3) := by decide +kernel
theorem dX0_copyTask_21 : decode cX0_copyTask 21 = .ok (.iload_n 2, 1) := by decide +kernel
theorem dX0_copyTask_22 : decode cX0_copyTask 22 = .ok (.iaload, 1) := by decide +kernel
theorem dX0_copyTask_23 : decode cX0_copyTask 23 = .ok (.iastore, 1) := by decide +kernel
theorem dX0_copyTask_24 : decode cX0_copyTask 24 = .ok (.aload_n 0, 1) := by decide +kernel
theorem dX0_copyTask_25 : decode cX0_copyTask 25 = .ok (.getfield 18, 3) := by decide +kernel
theorem dX0_copyTask_28 : decode cX0_copyTask 28 = .ok (.iload_n 3, 1) := by decide +kernel
theorem dX0_copyTask_29 : decode cX0_copyTask 29 = .ok (.aload_n 1, 1) := by decide +kernel
theorem dX0_copyTask_30 : decode cX0_copyTask 30 = .ok (.getfield 18, 3) := by decide +kernel
theorem dX0_copyTask_33 : decode cX0_copyTask 33 = .ok (.iload_n 2, 1) := by decide +kernel
theorem dX0_copyTask_34 : decode cX0_copyTask 34 = .ok (.iaload, 1) := by decide +kernel
theorem dX0_copyTask_35 : decode cX0_copyTask 35 = .ok (.iastore, 1) := by decide +kernel
theorem dX0_copyTask_36 : decode cX0_copyTask 36 = .ok (.aload_n 0, 1) := by decide +kernel
theorem dX0_copyTask_37 : decode cX0_copyTask 37 = .ok (.getfield 21, 3) := by decide +kernel
theorem dX0_copyTask_40 : decode cX0_copyTask 40 = .ok (.iload_n 3, 1) := by decide +kernel
theorem dX0_copyTask_41 : decode cX0_copyTask 41 = .ok (.aload_n 1, 1) := by decide +kernel
theorem dX0_copyTask_42 : decode cX0_copyTask 42 = .ok (.getfield 21, 3) := by decide +kernel
theorem dX0_copyTask_45 : decode cX0_copyTask 45 = .ok (.iload_n 2, 1) := by decide +kernel
theorem dX0_copyTask_46 : decode cX0_copyTask 46 = .ok (.iaload, 1) := by decide +kernel
theorem dX0_copyTask_47 : decode cX0_copyTask 47 = .ok (.iastore, 1) := by decide +kernel
theorem dX0_copyTask_48 : decode cX0_copyTask 48 = .ok (.aload_n 0, 1) := by decide +kernel
theorem dX0_copyTask_49 : decode cX0_copyTask 49 = .ok (.getfield 24, 3) := by decide +kernel
theorem dX0_copyTask_52 : decode cX0_copyTask 52 = .ok (.iload_n 3, 1) := by decide +kernel
theorem dX0_copyTask_53 : decode cX0_copyTask 53 = .ok (.aload_n 1, 1) := by decide +kernel
theorem dX0_copyTask_54 : decode cX0_copyTask 54 = .ok (.getfield 24, 3) := by decide +kernel
theorem dX0_copyTask_57 : decode cX0_copyTask 57 = .ok (.iload_n 2, 1) := by decide +kernel
theorem dX0_copyTask_58 : decode cX0_copyTask 58 = .ok (.iaload, 1) := by decide +kernel
theorem dX0_copyTask_59 : decode cX0_copyTask 59 = .ok (.iastore, 1) := by decide +kernel
theorem dX0_copyTask_60 : decode cX0_copyTask 60 = .ok (.aload_n 0, 1) := by decide +kernel
theorem dX0_copyTask_61 : decode cX0_copyTask 61 = .ok (.getfield 27, 3) := by decide +kernel
theorem dX0_copyTask_64 : decode cX0_copyTask 64 = .ok (.iload_n 3, 1) := by decide +kernel
theorem dX0_copyTask_65 : decode cX0_copyTask 65 = .ok (.aload_n 1, 1) := by decide +kernel
theorem dX0_copyTask_66 : decode cX0_copyTask 66 = .ok (.getfield 27, 3) := by decide +kernel
theorem dX0_copyTask_69 : decode cX0_copyTask 69 = .ok (.iload_n 2, 1) := by decide +kernel
theorem dX0_copyTask_70 : decode cX0_copyTask 70 = .ok (.iaload, 1) := by decide +kernel
theorem dX0_copyTask_71 : decode cX0_copyTask 71 = .ok (.iastore, 1) := by decide +kernel
theorem dX0_copyTask_72 : decode cX0_copyTask 72 = .ok (.aload_n 0, 1) := by decide +kernel
theorem dX0_copyTask_73 : decode cX0_copyTask 73 = .ok (.getfield 30, 3) := by decide +kernel
theorem dX0_copyTask_76 : decode cX0_copyTask 76 = .ok (.iload_n 3, 1) := by decide +kernel
theorem dX0_copyTask_77 : decode cX0_copyTask 77 = .ok (.aload_n 1, 1) := by decide +kernel
theorem dX0_copyTask_78 : decode cX0_copyTask 78 = .ok (.getfield 30, 3) := by decide +kernel
theorem dX0_copyTask_81 : decode cX0_copyTask 81 = .ok (.iload_n 2, 1) := by decide +kernel
theorem dX0_copyTask_82 : decode cX0_copyTask 82 = .ok (.iaload, 1) := by decide +kernel
theorem dX0_copyTask_83 : decode cX0_copyTask 83 = .ok (.iastore, 1) := by decide +kernel
theorem dX0_copyTask_84 : decode cX0_copyTask 84 = .ok (.return_, 1) := by decide +kernel
theorem dX0_append_0 : decode cX0_append 0 = .ok (.aload_n 0, 1) := by decide +kernel
theorem dX0_append_1 : decode cX0_append 1 = .ok (.getfield 9, 3) := by decide +kernel
theorem dX0_append_4 : decode cX0_append 4 = .ok (.aload_n 0, 1) := by decide +kernel
theorem dX0_append_5 : decode cX0_append 5 = .ok (.getfield 37, 3) := by decide +kernel
theorem dX0_append_8 : decode cX0_append 8 = .ok (.iload_n 1, 1) := by decide +kernel
theorem dX0_append_9 : decode cX0_append 9 = .ok (.iastore, 1) := by decide +kernel
theorem dX0_append_10 : decode cX0_append 10 = .ok (.aload_n 0, 1) := by decide +kernel
theorem dX0_append_11 : decode cX0_append 11 = .ok (.getfield 15, 3) := by decide +kernel
theorem dX0_append_14 : decode cX0_append 14 = .ok (.aload_n 0, 1) := by decide +kernel
theorem dX0_append_15 : decode cX0_append 15 = .ok (.getfield 37, 3) := by decide +kernel
theorem dX0_append_18 : decode cX0_append 18 = .ok (.iload_n 2, 1) := by decide +kernel
theorem dX0_append_19 : decode cX0_append 19 = .ok (.iastore, 1) := by decide +kernel
theorem dX0_append_20 : decode cX0_append 20 = .ok (.aload_n 0, 1) := by decide +kernel
theorem dX0_append_21 : decode cX0_append 21 = .ok (.getfield 18, 3) := by decide +kernel
theorem dX0_append_24 : decode cX0_append 24 = .ok (.aload_n 0, 1) := by decide +kernel
theorem dX0_append_25 : decode cX0_append 25 = .ok (.getfield 37, 3) := by decide +kernel
theorem dX0_append_28 : decode cX0_append 28 = .ok (.iload_n 3, 1) := by decide +kernel
theorem dX0_append_29 : decode cX0_append 29 = .ok (.iastore, 1) := by decide +kernel
theorem dX0_append_30 : decode cX0_append 30 = .ok (.aload_n 0, 1) := by decide +kernel
theorem dX0_append_31 : decode cX0_append 31 = .ok (.getfield 21, 3) := by decide +kernel
theorem dX0_append_34 : decode cX0_append 34 = .ok (.aload_n 0, 1) := by decide +kernel
theorem dX0_append_35 : decode cX0_append 35 = .ok (.getfield 37, 3) := by decide +kernel
theorem dX0_append_38 : decode cX0_append 38 = .ok (.iload 4, 2) := by decide +kernel
theorem dX0_append_40 : decode cX0_append 40 = .ok (.iastore, 1) := by decide +kernel
theorem dX0_append_41 : decode cX0_append 41 = .ok (.aload_n 0, 1) := by decide +kernel
theorem dX0_append_42 : decode cX0_append 42 = .ok (.getfield 24, 3) := by decide +kernel
theorem dX0_append_45 : decode cX0_append 45 = .ok (.aload_n 0, 1) := by decide +kernel
theorem dX0_append_46 : decode cX0_append 46 = .ok (.getfield 37, 3) := by decide +kernel
theorem dX0_append_49 : decode cX0_append 49 = .ok (.iload 5, 2) := by decide +kernel
theorem dX0_append_51 : decode cX0_append 51 = .ok (.iastore, 1) := by decide +kernel
theorem dX0_append_52 : decode cX0_append 52 = .ok (.aload_n 0, 1) := by decide +kernel
theorem dX0_append_53 : decode cX0_append 53 = .ok (.getfield 27, 3) := by decide +kernel
theorem dX0_append_56 : decode cX0_append 56 = .ok (.aload_n 0, 1) := by decide +kernel
theorem dX0_append_57 : decode cX0_append 57 = .ok (.getfield 37, 3) := by decide +kernel
theorem dX0_append_60 : decode cX0_append 60 = .ok (.iload 6, 2) := by decide +kernel
theorem dX0_append_62 : decode cX0_append 62 = .ok (.iastore, 1) := by decide +kernel
theorem dX0_append_63 : decode cX0_append 63 = .ok (.aload_n 0, 1) := by decide +kernel
theorem dX0_append_64 : decode cX0_append 64 = .ok (.getfield 30, 3) := by decide +kernel
theorem dX0_append_67 : decode cX0_append 67 = .ok (.aload_n 0, 1) := by decide +kernel
theorem dX0_append_68 : decode cX0_append 68 = .ok (.getfield 37, 3) := by decide +kernel
theorem dX0_append_71 : decode cX0_append 71 = .ok (.iconst 0, 1) := by decide +kernel
theorem dX0_append_72 : decode cX0_append 72 = .ok (.iastore, 1) := by decide +kernel
theorem dX0_append_73 : decode cX0_append 73 = .ok (.aload_n 0, 1) := by decide +kernel
theorem dX0_append_74 : decode cX0_append 74 = .ok (.dup, 1) := by decide +kernel
theorem dX0_append_75 : decode cX0_append 75 = .ok (.getfield 37, 3) := by decide +kernel
theorem dX0_append_78 : decode cX0_append 78 = .ok (.iconst 1, 1) := by decide +kernel
theorem dX0_append_79 : decode cX0_append 79 = .ok (.iadd, 1) := by decide +kernel
theorem dX0_append_80 : decode cX0_append 80 = .ok (.putfield 37, 3) := by decide +kernel
theorem dX0_append_83 : decode cX0_append 83 = .ok (.return_, 1) := by decide +kernel
set_option maxRecDepth 20000 in
theorem ggX0_removeAt_X0_copyTask : GoodIn wsX0_removeAt wsX0_copyTask := goodIn_r _ [6, 7, 8, 9, 10, 11, 12, 13, 14, 15, 16, 17, 18, 19, 20, 21, 22] (by decide +kernel) (by decide +kernel)
set_option maxRecDepth 20000 in
theorem gX0_removeAt_X0_copyTask : GoodIn wsX0_removeAt (wsV RX0 40 RX0 yX0_copyTask wsX0_copyTask) := goodIn_app (goodIn_of _ (by decide +kernel)) ggX0_removeAt_X0_copyTask
theorem dX0_removeAt_0 : decode cX0_removeAt 0 = .ok (.iload_n 1, 1) := by decide +kernel
theorem dX0_removeAt_1 : decode cX0_removeAt 1 = .ok (.iconst 1, 1) := by decide +kernel
theorem dX0_removeAt_2 : decode cX0_removeAt 2 = .ok (.iadd, 1) := by decide +kernel
theorem dX0_removeAt_3 : decode cX0_removeAt 3 = .ok (.istore_n 2, 1) := by decide +kernel
theorem dX0_removeAt_4 : decode cX0_removeAt 4 = .ok (.iload_n 2, 1) := by decide +kernel
theorem dX0_removeAt_5 : decode cX0_removeAt 5 = .ok (.aload_n 0, 1) := by decide +kernel
theorem dX0_removeAt_6 : decode cX0_removeAt 6 = .ok (.getfield 37, 3) := by decide +kernel
theorem dX0_removeAt_9 : decode cX0_removeAt 9 = .ok (.if_icmp .ge 18, 3) := by decide +kernel
theorem dX0_removeAt_12 : decode cX0_removeAt 12 = .ok (.aload_n 0, 1) := by decide +kernel
theorem dX0_removeAt_13 : decode cX0_removeAt 13 = .ok (.aload_n 0, 1) := by decide +kernel
theorem dX0_removeAt_14 : decode cX0_removeAt 14 = .ok (.iload_n 2, 1) := by decide +kernel
theorem dX0_removeAt_15 : decode cX0_removeAt 15 = .ok (.iload_n 2, 1) := by decide +kernel
theorem dX0_removeAt_16 : decode cX0_removeAt 16 = .ok (.iconst 1, 1) := by decide +kernel
theorem dX0_removeAt_17 : decode cX0_removeAt 17 = .ok (.isub, 1) := by decide +kernel
theorem dX0_removeAt_18 : decode cX0_removeAt 18 = .ok (.invokevirtual 40, 3) := by decide +kernel
theorem dX0_removeAt_21 : decode cX0_removeAt 21 = .ok (.iinc 2 1, 3) := by decide +kernel
theorem dX0_removeAt_24 : decode cX0_removeAt 24 = .ok (.goto (-20), 3) := by decide +kernel
theorem dX0_removeAt_27 : decode cX0_removeAt 27 = .ok (.aload_n 0, 1) := by decide +kernel
theorem dX0_removeAt_28 : decode cX0_removeAt 28 = .ok (.dup, 1) := by decide +kernel
theorem dX0_removeAt_29 : decode cX0_removeAt 29 = .ok (.getfield 37, 3) := by decide +kernel
theorem dX0_removeAt_32 : decode cX0_removeAt 32 = .ok (.iconst 1, 1) := by decide +kernel
theorem dX0_removeAt_33 : decode cX0_removeAt 33 = .ok (.isub, 1) := by decide +kernel
theorem dX0_removeAt_34 : decode cX0_removeAt 34 = .ok (.putfield 37, 3) := by decide +kernel
theorem dX0_removeAt_37 : decode cX0_removeAt 37 = .ok (.return_, 1) := by decide +kernel
theorem dX0_hasHighBudget_0 : decode cX0_hasHighBudget 0 = .ok (.aload_n 0, 1) := by decide +kernel
theorem dX0_hasHighBudget_1 : decode cX0_hasHighBudget 1 = .ok (.getfield 21, 3) := by decide +kernel
theorem dX0_hasHighBudget_4 : decode cX0_hasHighBudget 4 = .ok (.iload_n 1, 1) := by decide +kernel
theorem dX0_hasHighBudget_5 : decode cX0_hasHighBudget 5 = .ok (.iaload, 1) := by decide +kernel
theorem dX0_hasHighBudget_6 : decode cX0_hasHighBudget 6 = .ok (.ifCond .le 7, 3) := by decide +kernel
theorem dX0_hasHighBudget_9 : decode cX0_hasHighBudget 9 = .ok (.iconst 1, 1) := by decide +kernel
theorem dX0_hasHighBudget_10 : decode cX0_hasHighBudget 10 = .ok (.goto 4, 3) := by decide +kernel
theorem dX0_hasHighBudget_13 : decode cX0_hasHighBudget 13 = .ok (.iconst 0, 1) := by decide +kernel
theorem dX0_hasHighBudget_14 : decode cX0_hasHighBudget 14 = .ok (.ireturn, 1) := by decide +kernel
theorem dX0_effectivePeriod_0 : decode cX0_effectivePeriod 0 = .ok (.aload_n 0, 1) := by decide +kernel
theorem dX0_effectivePeriod_1 : decode cX0_effectivePeriod 1 = .ok (.getfield 9, 3) := by decide +kernel
theorem dX0_effectivePeriod_4 : decode cX0_effectivePeriod 4 = .ok (.iload_n 1, 1) := by decide +kernel
theorem dX0_effectivePeriod_5 : decode cX0_effectivePeriod 5 = .ok (.iaload, 1) := by decide +kernel
theorem dX0_effectivePeriod_6 : decode cX0_effectivePeriod 6 = .ok (.aload_n 0, 1) := by decide +kernel
theorem dX0_effectivePeriod_7 : decode cX0_effectivePeriod 7 = .ok (.getfield 30, 3) := by decide +kernel
theorem dX0_effectivePeriod_10 : decode cX0_effectivePeriod 10 = .ok (.iload_n 1, 1) := by decide +kernel
theorem dX0_effectivePeriod_11 : decode cX0_effectivePeriod 11 = .ok (.iaload, 1) := by decide +kernel
theorem dX0_effectivePeriod_12 : decode cX0_effectivePeriod 12 = .ok (.iconst 1, 1) := by decide +kernel
theorem dX0_effectivePeriod_13 : decode cX0_effectivePeriod 13 = .ok (.iadd, 1) := by decide +kernel
theorem dX0_effectivePeriod_14 : decode cX0_effectivePeriod 14 = .ok (.imul, 1) := by decide +kernel
theorem dX0_effectivePeriod_15 : decode cX0_effectivePeriod 15 = .ok (.istore_n 2, 1) := by decide +kernel
theorem dX0_effectivePeriod_16 : decode cX0_effectivePeriod 16 = .ok (.iload_n 2, 1) := by decide +kernel
theorem dX0_effectivePeriod_17 : decode cX0_effectivePeriod 17 = .ok (.iconst 1, 1) := by decide +kernel
theorem dX0_effectivePeriod_18 : decode cX0_effectivePeriod 18 = .ok (.if_icmp .lt 7, 3) := by decide +kernel
theorem dX0_effectivePeriod_21 : decode cX0_effectivePeriod 21 = .ok (.iload_n 2, 1) := by decide +kernel
theorem dX0_effectivePeriod_22 : decode cX0_effectivePeriod 22 = .ok (.goto 4, 3) := by decide +kernel
theorem dX0_effectivePeriod_25 : decode cX0_effectivePeriod 25 = .ok (.iconst 1, 1) := by decide +kernel
theorem dX0_effectivePeriod_26 : decode cX0_effectivePeriod 26 = .ok (.ireturn, 1) := by decide +kernel
theorem dX0_deadlineWithScale_0 : decode cX0_deadlineWithScale 0 = .ok (.aload_n 0, 1) := by decide +kernel
theorem dX0_deadlineWithScale_1 : decode cX0_deadlineWithScale 1 = .ok (.getfield 21, 3) := by decide +kernel
theorem dX0_deadlineWithScale_4 : decode cX0_deadlineWithScale 4 = .ok (.iload_n 1, 1) := by decide +kernel
theorem dX0_deadlineWithScale_5 : decode cX0_deadlineWithScale 5 = .ok (.iaload, 1) := by decide +kernel
theorem dX0_deadlineWithScale_6 : decode cX0_deadlineWithScale 6 = .ok (.ifCond .ne 10, 3) := by decide +kernel
theorem dX0_deadlineWithScale_9 : decode cX0_deadlineWithScale 9 = .ok (.aload_n 0, 1) := by decide +kernel
theorem dX0_deadlineWithScale_10 : decode cX0_deadlineWithScale 10 = .ok (.getfield 15, 3) := by decide +kernel
theorem dX0_deadlineWithScale_13 : decode cX0_deadlineWithScale 13 = .ok (.iload_n 1, 1) := by decide +kernel
theorem dX0_deadlineWithScale_14 : decode cX0_deadlineWithScale 14 = .ok (.iaload, 1) := by decide +kernel
theorem dX0_deadlineWithScale_15 : decode cX0_deadlineWithScale 15 = .ok (.ireturn, 1) := by decide +kernel
theorem dX0_deadlineWithScale_16 : decode cX0_deadlineWithScale 16 = .ok (.aload_n 0, 1) := by decide +kernel
theorem dX0_deadlineWithScale_17 : decode cX0_deadlineWithScale 17 = .ok (.getfield 15, 3) := by decide +kernel
theorem dX0_deadlineWithScale_20 : decode cX0_deadlineWithScale 20 = .ok (.iload_n 1, 1) := by decide +kernel
theorem dX0_deadlineWithScale_21 : decode cX0_deadlineWithScale 21 = .ok (.iaload, 1) := by decide +kernel
theorem dX0_deadlineWithScale_22 : decode cX0_deadlineWithScale 22 = .ok (.iload_n 2, 1) := by decide +kernel
theorem dX0_deadlineWithScale_23 : decode cX0_deadlineWithScale 23 = .ok (.imul, 1) := by decide +kernel
theorem dX0_deadlineWithScale_24 : decode cX0_deadlineWithScale 24 = .ok (.bipush 8, 2) := by decide +kernel
theorem dX0_deadlineWithScale_26 : decode cX0_deadlineWithScale 26 = .ok (.idiv, 1) := by decide +kernel
theorem dX0_deadlineWithScale_27 : decode cX0_deadlineWithScale 27 = .ok (.istore_n 3, 1) := by decide +kernel
theorem dX0_deadlineWithScale_28 : decode cX0_deadlineWithScale 28 = .ok (.iload_n 3, 1) := by decide +kernel
theorem dX0_deadlineWithScale_29 : decode cX0_deadlineWithScale 29 = .ok (.aload_n 0, 1) := by decide +kernel
theorem dX0_deadlineWithScale_30 : decode cX0_deadlineWithScale 30 = .ok (.getfield 18, 3) := by decide +kernel
theorem dX0_deadlineWithScale_33 : decode cX0_deadlineWithScale 33 = .ok (.iload_n 1, 1) := by decide +kernel
theorem dX0_deadlineWithScale_34 : decode cX0_deadlineWithScale 34 = .ok (.iaload, 1) := by decide +kernel
theorem dX0_deadlineWithScale_35 : decode cX0_deadlineWithScale 35 = .ok (.if_icmp .le 7, 3) := by decide +kernel
theorem dX0_deadlineWithScale_38 : decode cX0_deadlineWithScale 38 = .ok (.iload_n 3, 1) := by decide +kernel
theorem dX0_deadlineWithScale_39 : decode cX0_deadlineWithScale 39 = .ok (.goto 9, 3) := by decide +kernel
theorem dX0_deadlineWithScale_42 : decode cX0_deadlineWithScale 42 = .ok (.aload_n 0, 1) := by decide +kernel
theorem dX0_deadlineWithScale_43 : decode cX0_deadlineWithScale 43 = .ok (.getfield 18, 3) := by decide +kernel
theorem dX0_deadlineWithScale_46 : decode cX0_deadlineWithScale 46 = .ok (.iload_n 1, 1) := by decide +kernel
theorem dX0_deadlineWithScale_47 : decode cX0_deadlineWithScale 47 = .ok (.iaload, 1) := by decide +kernel
theorem dX0_deadlineWithScale_48 : decode cX0_deadlineWithScale 48 = .ok (.ireturn, 1) := by decide +kernel
set_option maxRecDepth 20000 in
theorem ggX0_totalDemand_X0_deadlineWithScale : GoodIn wsX0_totalDemand wsX0_deadlineWithScale := goodIn_r _ [8, 2, 3, 9, 24, 25, 26, 27, 28, 29, 30, 31, 32] (by decide +kernel) (by decide +kernel)
set_option maxRecDepth 20000 in
theorem gX0_totalDemand_X0_deadlineWithScale : GoodIn wsX0_totalDemand (wsV RX0 44 RX0 yX0_deadlineWithScale wsX0_deadlineWithScale) := goodIn_app (goodIn_of _ (by decide +kernel)) ggX0_totalDemand_X0_deadlineWithScale
set_option maxRecDepth 20000 in
theorem ggX0_totalDemand_X0_effectivePeriod : GoodIn wsX0_totalDemand wsX0_effectivePeriod := goodIn_r _ [13, 14, 15, 24, 25, 26, 27, 28, 29, 30, 31, 32] (by decide +kernel) (by decide +kernel)
set_option maxRecDepth 20000 in
theorem gX0_totalDemand_X0_effectivePeriod : GoodIn wsX0_totalDemand (wsV RX0 48 RX0 yX0_effectivePeriod wsX0_effectivePeriod) := goodIn_app (goodIn_of _ (by decide +kernel)) ggX0_totalDemand_X0_effectivePeriod
set_option maxRecDepth 20000 in
theorem ggX0_totalDemand_X0_lowDemand : GoodIn wsX0_totalDemand wsX0_lowDemand := goodIn_r _ [19, 9, 24, 25, 26, 27, 28, 29, 30, 31, 32] (by decide +kernel) (by decide +kernel)
set_option maxRecDepth 20000 in
theorem gX0_totalDemand_X0_lowDemand : GoodIn wsX0_totalDemand (wsV RX0 52 RX0 yX0_lowDemand wsX0_lowDemand) := goodIn_app (goodIn_of _ (by decide +kernel)) ggX0_totalDemand_X0_lowDemand
set_option maxRecDepth 20000 in
theorem ggX0_totalDemand_X0_highDemand : GoodIn wsX0_totalDemand wsX0_highDemand := goodIn_r _ [23, 2, 9, 3, 24, 25, 26, 27, 28, 29, 30, 31, 32] (by decide +kernel) (by decide +kernel)
set_option maxRecDepth 20000 in
theorem gX0_totalDemand_X0_highDemand : GoodIn wsX0_totalDemand (wsV RX0 56 RX0 yX0_highDemand wsX0_highDemand) := goodIn_app (goodIn_of _ (by decide +kernel)) ggX0_totalDemand_X0_highDemand
theorem dX0_totalDemand_0 : decode cX0_totalDemand 0 = .ok (.iconst 0, 1) := by decide +kernel
theorem dX0_totalDemand_1 : decode cX0_totalDemand 1 = .ok (.istore 4, 2) := by decide +kernel
theorem dX0_totalDemand_3 : decode cX0_totalDemand 3 = .ok (.iconst 0, 1) := by decide +kernel
theorem dX0_totalDemand_4 : decode cX0_totalDemand 4 = .ok (.istore 5, 2) := by decide +kernel
theorem dX0_totalDemand_6 : decode cX0_totalDemand 6 = .ok (.iload 5, 2) := by decide +kernel
theorem dX0_totalDemand_8 : decode cX0_totalDemand 8 = .ok (.aload_n 0, 1) := by decide +kernel
theorem dX0_totalDemand_9 : decode cX0_totalDemand 9 = .ok (.getfield 37, 3) := by decide +kernel
theorem dX0_totalDemand_12 : decode cX0_totalDemand 12 = .ok (.if_icmp .ge 83, 3) := by decide +kernel
theorem dX0_totalDemand_15 : decode cX0_totalDemand 15 = .ok (.aload_n 0, 1) := by decide +kernel
theorem dX0_totalDemand_16 : decode cX0_totalDemand 16 = .ok (.iload 5, 2) := by decide +kernel
theorem dX0_totalDemand_18 : decode cX0_totalDemand 18 = .ok (.iload_n 3, 1) := by decide +kernel
theorem dX0_totalDemand_19 : decode cX0_totalDemand 19 = .ok (.invokevirtual 44, 3) := by decide +kernel
theorem dX0_totalDemand_22 : decode cX0_totalDemand 22 = .ok (.istore 6, 2) := by decide +kernel
theorem dX0_totalDemand_24 : decode cX0_totalDemand 24 = .ok (.aload_n 0, 1) := by decide +kernel
theorem dX0_totalDemand_25 : decode cX0_totalDemand 25 = .ok (.iload 5, 2) := by decide +kernel
theorem dX0_totalDemand_27 : decode cX0_totalDemand 27 = .ok (.invokevirtual 48, 3) := by decide +kernel
theorem dX0_totalDemand_30 : decode cX0_totalDemand 30 = .ok (.istore 7, 2) := by decide +kernel
theorem dX0_totalDemand_32 : decode cX0_totalDemand 32 = .ok (.iload_n 1, 1) := by decide +kernel
theorem dX0_totalDemand_33 : decode cX0_totalDemand 33 = .ok (.ifCond .ne 22, 3) := by decide +kernel
theorem dX0_totalDemand_36 : decode cX0_totalDemand 36 = .ok (.iload 4, 2) := by decide +kernel
theorem dX0_totalDemand_38 : decode cX0_totalDemand 38 = .ok (.aload_n 0, 1) := by decide +kernel
theorem dX0_totalDemand_39 : decode cX0_totalDemand 39 = .ok (.iload 5, 2) := by decide +kernel
theorem dX0_totalDemand_41 : decode cX0_totalDemand 41 = .ok (.iload_n 2, 1) := by decide +kernel
theorem dX0_totalDemand_42 : decode cX0_totalDemand 42 = .ok (.iload 6, 2) := by decide +kernel
theorem dX0_totalDemand_44 : decode cX0_totalDemand 44 = .ok (.iload 7, 2) := by decide +kernel
theorem dX0_totalDemand_46 : decode cX0_totalDemand 46 = .ok (.invokevirtual 52, 3) := by decide +kernel
theorem dX0_totalDemand_49 : decode cX0_totalDemand 49 = .ok (.iadd, 1) := by decide +kernel
theorem dX0_totalDemand_50 : decode cX0_totalDemand 50 = .ok (.istore 4, 2) := by decide +kernel
theorem dX0_totalDemand_52 : decode cX0_totalDemand 52 = .ok (.goto 37, 3) := by decide +kernel
theorem dX0_totalDemand_55 : decode cX0_totalDemand 55 = .ok (.aload_n 0, 1) := by decide +kernel
theorem dX0_totalDemand_56 : decode cX0_totalDemand 56 = .ok (.getfield 21, 3) := by decide +kernel
theorem dX0_totalDemand_59 : decode cX0_totalDemand 59 = .ok (.iload 5, 2) := by decide +kernel
theorem dX0_totalDemand_61 : decode cX0_totalDemand 61 = .ok (.iaload, 1) := by decide +kernel
theorem dX0_totalDemand_62 : decode cX0_totalDemand 62 = .ok (.ifCond .le 27, 3) := by decide +kernel
theorem dX0_totalDemand_65 : decode cX0_totalDemand 65 = .ok (.iload 4, 2) := by decide +kernel
theorem dX0_totalDemand_67 : decode cX0_totalDemand 67 = .ok (.aload_n 0, 1) := by decide +kernel
theorem dX0_totalDemand_68 : decode cX0_totalDemand 68 = .ok (.iload 5, 2) := by decide +kernel
theorem dX0_totalDemand_70 : decode cX0_totalDemand 70 = .ok (.iload_n 2, 1) := by decide +kernel
theorem dX0_totalDemand_71 : decode cX0_totalDemand 71 = .ok (.aload_n 0, 1) := by decide +kernel
theorem dX0_totalDemand_72 : decode cX0_totalDemand 72 = .ok (.getfield 15, 3) := by decide +kernel
theorem dX0_totalDemand_75 : decode cX0_totalDemand 75 = .ok (.iload 5, 2) := by decide +kernel
theorem dX0_totalDemand_77 : decode cX0_totalDemand 77 = .ok (.iaload, 1) := by decide +kernel
theorem dX0_totalDemand_78 : decode cX0_totalDemand 78 = .ok (.iload 6, 2) := by decide +kernel
theorem dX0_totalDemand_80 : decode cX0_totalDemand 80 = .ok (.isub, 1) := by decide +kernel
theorem dX0_totalDemand_81 : decode cX0_totalDemand 81 = .ok (.iload 7, 2) := by decide +kernel
theorem dX0_totalDemand_83 : decode cX0_totalDemand 83 = .ok (.invokevirtual 56, 3) := by decide +kernel
theorem dX0_totalDemand_86 : decode cX0_totalDemand 86 = .ok (.iadd, 1) := by decide +kernel
theorem dX0_totalDemand_87 : decode cX0_totalDemand 87 = .ok (.istore 4, 2) := by decide +kernel
theorem dX0_totalDemand_89 : decode cX0_totalDemand 89 = .ok (.iinc 5 1, 3) := by decide +kernel
theorem dX0_totalDemand_92 : decode cX0_totalDemand 92 = .ok (.goto (-86), 3) := by decide +kernel
theorem dX0_totalDemand_95 : decode cX0_totalDemand 95 = .ok (.iload 4, 2) := by decide +kernel
theorem dX0_totalDemand_97 : decode cX0_totalDemand 97 = .ok (.ireturn, 1) := by decide +kernel
theorem dX0_lowDemand_0 : decode cX0_lowDemand 0 = .ok (.iload_n 2, 1) := by decide +kernel
theorem dX0_lowDemand_1 : decode cX0_lowDemand 1 = .ok (.iload_n 3, 1) := by decide +kernel
theorem dX0_lowDemand_2 : decode cX0_lowDemand 2 = .ok (.if_icmp .ge 5, 3) := by decide +kernel
theorem dX0_lowDemand_5 : decode cX0_lowDemand 5 = .ok (.iconst 0, 1) := by decide +kernel
theorem dX0_lowDemand_6 : decode cX0_lowDemand 6 = .ok (.ireturn, 1) := by decide +kernel
theorem dX0_lowDemand_7 : decode cX0_lowDemand 7 = .ok (.aload_n 0, 1) := by decide +kernel
theorem dX0_lowDemand_8 : decode cX0_lowDemand 8 = .ok (.getfield 18, 3) := by decide +kernel
theorem dX0_lowDemand_11 : decode cX0_lowDemand 11 = .ok (.iload_n 1, 1) := by decide +kernel
theorem dX0_lowDemand_12 : decode cX0_lowDemand 12 = .ok (.iaload, 1) := by decide +kernel
theorem dX0_lowDemand_13 : decode cX0_lowDemand 13 = .ok (.iconst 1, 1) := by decide +kernel
theorem dX0_lowDemand_14 : decode cX0_lowDemand 14 = .ok (.iload_n 2, 1) := by decide +kernel
theorem dX0_lowDemand_15 : decode cX0_lowDemand 15 = .ok (.iload_n 3, 1) := by decide +kernel
theorem dX0_lowDemand_16 : decode cX0_lowDemand 16 = .ok (.isub, 1) := by decide +kernel
theorem dX0_lowDemand_17 : decode cX0_lowDemand 17 = .ok (.iload 4, 2) := by decide +kernel
theorem dX0_lowDemand_19 : decode cX0_lowDemand 19 = .ok (.idiv, 1) := by decide +kernel
theorem dX0_lowDemand_20 : decode cX0_lowDemand 20 = .ok (.iadd, 1) := by decide +kernel
theorem dX0_lowDemand_21 : decode cX0_lowDemand 21 = .ok (.imul, 1) := by decide +kernel
theorem dX0_lowDemand_22 : decode cX0_lowDemand 22 = .ok (.ireturn, 1) := by decide +kernel
theorem dX0_highDemand_0 : decode cX0_highDemand 0 = .ok (.iload_n 2, 1) := by decide +kernel
theorem dX0_highDemand_1 : decode cX0_highDemand 1 = .ok (.iload_n 3, 1) := by decide +kernel
theorem dX0_highDemand_2 : decode cX0_highDemand 2 = .ok (.if_icmp .ge 5, 3) := by decide +kernel
theorem dX0_highDemand_5 : decode cX0_highDemand 5 = .ok (.iconst 0, 1) := by decide +kernel
theorem dX0_highDemand_6 : decode cX0_highDemand 6 = .ok (.ireturn, 1) := by decide +kernel
theorem dX0_highDemand_7 : decode cX0_highDemand 7 = .ok (.iload_n 2, 1) := by decide +kernel
theorem dX0_highDemand_8 : decode cX0_highDemand 8 = .ok (.iload 4, 2) := by decide +kernel
theorem dX0_highDemand_10 : decode cX0_highDemand 10 = .ok (.irem, 1) := by decide +kernel
theorem dX0_highDemand_11 : decode cX0_highDemand 11 = .ok (.istore 5, 2) := by decide +kernel
theorem dX0_highDemand_13 : decode cX0_highDemand 13 = .ok (.aload_n 0, 1) := by decide +kernel
theorem dX0_highDemand_14 : decode cX0_highDemand 14 = .ok (.getfield 21, 3) := by decide +kernel
theorem dX0_highDemand_17 : decode cX0_highDemand 17 = .ok (.iload_n 1, 1) := by decide +kernel
theorem dX0_highDemand_18 : decode cX0_highDemand 18 = .ok (.iaload, 1) := by decide +kernel
theorem dX0_highDemand_19 : decode cX0_highDemand 19 = .ok (.iconst 1, 1) := by decide +kernel
theorem dX0_highDemand_20 : decode cX0_highDemand 20 = .ok (.iload_n 2, 1) := by decide +kernel
theorem dX0_highDemand_21 : decode cX0_highDemand 21 = .ok (.iload_n 3, 1) := by decide +kernel
theorem dX0_highDemand_22 : decode cX0_highDemand 22 = .ok (.isub, 1) := by decide +kernel
theorem dX0_highDemand_23 : decode cX0_highDemand 23 = .ok (.iload 4, 2) := by decide +kernel
theorem dX0_highDemand_25 : decode cX0_highDemand 25 = .ok (.idiv, 1) := by decide +kernel
theorem dX0_highDemand_26 : decode cX0_highDemand 26 = .ok (.iadd, 1) := by decide +kernel
theorem dX0_highDemand_27 : decode cX0_highDemand 27 = .ok (.imul, 1) := by decide +kernel
theorem dX0_highDemand_28 : decode cX0_highDemand 28 = .ok (.istore 6, 2) := by decide +kernel
theorem dX0_highDemand_30 : decode cX0_highDemand 30 = .ok (.aload_n 0, 1) := by decide +kernel
theorem dX0_highDemand_31 : decode cX0_highDemand 31 = .ok (.getfield 18, 3) := by decide +kernel
theorem dX0_highDemand_34 : decode cX0_highDemand 34 = .ok (.iload_n 1, 1) := by decide +kernel
theorem dX0_highDemand_35 : decode cX0_highDemand 35 = .ok (.iaload, 1) := by decide +kernel
theorem dX0_highDemand_36 : decode cX0_highDemand 36 = .ok (.iload_n 3, 1) := by decide +kernel
theorem dX0_highDemand_37 : decode cX0_highDemand 37 = .ok (.iadd, 1) := by decide +kernel
theorem dX0_highDemand_38 : decode cX0_highDemand 38 = .ok (.iload 5, 2) := by decide +kernel
theorem dX0_highDemand_40 : decode cX0_highDemand 40 = .ok (.isub, 1) := by decide +kernel
theorem dX0_highDemand_41 : decode cX0_highDemand 41 = .ok (.istore 7, 2) := by decide +kernel
theorem dX0_highDemand_43 : decode cX0_highDemand 43 = .ok (.iload 5, 2) := by decide +kernel
theorem dX0_highDemand_45 : decode cX0_highDemand 45 = .ok (.iload_n 3, 1) := by decide +kernel
theorem dX0_highDemand_46 : decode cX0_highDemand 46 = .ok (.if_icmp .lt 23, 3) := by decide +kernel
theorem dX0_highDemand_49 : decode cX0_highDemand 49 = .ok (.iload 5, 2) := by decide +kernel
theorem dX0_highDemand_51 : decode cX0_highDemand 51 = .ok (.aload_n 0, 1) := by decide +kernel
theorem dX0_highDemand_52 : decode cX0_highDemand 52 = .ok (.getfield 15, 3) := by decide +kernel
theorem dX0_highDemand_55 : decode cX0_highDemand 55 = .ok (.iload_n 1, 1) := by decide +kernel
theorem dX0_highDemand_56 : decode cX0_highDemand 56 = .ok (.iaload, 1) := by decide +kernel
theorem dX0_highDemand_57 : decode cX0_highDemand 57 = .ok (.if_icmp .ge 12, 3) := by decide +kernel
theorem dX0_highDemand_60 : decode cX0_highDemand 60 = .ok (.iload 7, 2) := by decide +kernel
theorem dX0_highDemand_62 : decode cX0_highDemand 62 = .ok (.ifCond .le 7, 3) := by decide +kernel
theorem dX0_highDemand_65 : decode cX0_highDemand 65 = .ok (.iconst 1, 1) := by decide +kernel
theorem dX0_highDemand_66 : decode cX0_highDemand 66 = .ok (.goto 4, 3) := by decide +kernel
theorem dX0_highDemand_69 : decode cX0_highDemand 69 = .ok (.iconst 0, 1) := by decide +kernel
theorem dX0_highDemand_70 : decode cX0_highDemand 70 = .ok (.istore 8, 2) := by decide +kernel
theorem dX0_highDemand_72 : decode cX0_highDemand 72 = .ok (.iload 8, 2) := by decide +kernel
theorem dX0_highDemand_74 : decode cX0_highDemand 74 = .ok (.ifCond .eq 11, 3) := by decide +kernel
theorem dX0_highDemand_77 : decode cX0_highDemand 77 = .ok (.iload 6, 2) := by decide +kernel
theorem dX0_highDemand_79 : decode cX0_highDemand 79 = .ok (.iload 7, 2) := by decide +kernel
theorem dX0_highDemand_81 : decode cX0_highDemand 81 = .ok (.isub, 1) := by decide +kernel
theorem dX0_highDemand_82 : decode cX0_highDemand 82 = .ok (.goto 5, 3) := by decide +kernel
theorem dX0_highDemand_85 : decode cX0_highDemand 85 = .ok (.iload 6, 2) := by decide +kernel
theorem dX0_highDemand_87 : decode cX0_highDemand 87 = .ok (.ireturn, 1) := by decide +kernel
set_option maxRecDepth 20000 in
theorem ggX0_firstFailure_X0_totalDemand : GoodIn wsX0_firstFailure wsX0_totalDemand := goodIn_r _ [5, 6, 7, 8, 9, 10, 11, 4, 12, 13, 14, 15, 16, 17, 18, 19, 20, 21, 22, 23, 24, 25, 26, 27, 28, 29, 30, 31, 32, 33, 34, 35, 36] (by decide +kernel) (by decide +kernel)
set_option maxRecDepth 20000 in
theorem gX0_firstFailure_X0_totalDemand : GoodIn wsX0_firstFailure (wsV RX0 59 RX0 yX0_totalDemand wsX0_totalDemand) := goodIn_app (goodIn_of _ (by decide +kernel)) ggX0_firstFailure_X0_totalDemand
theorem dX0_firstFailure_0 : decode cX0_firstFailure 0 = .ok (.iconst 1, 1) := by decide +kernel
theorem dX0_firstFailure_1 : decode cX0_firstFailure 1 = .ok (.istore_n 3, 1) := by decide +kernel
theorem dX0_firstFailure_2 : decode cX0_firstFailure 2 = .ok (.iload_n 3, 1) := by decide +kernel
theorem dX0_firstFailure_3 : decode cX0_firstFailure 3 = .ok (.sipush 200, 3) := by decide +kernel
theorem dX0_firstFailure_6 : decode cX0_firstFailure 6 = .ok (.if_icmp .gt 22, 3) := by decide +kernel
theorem dX0_firstFailure_9 : decode cX0_firstFailure 9 = .ok (.aload_n 0, 1) := by decide +kernel
theorem dX0_firstFailure_10 : decode cX0_firstFailure 10 = .ok (.iload_n 1, 1) := by decide +kernel
theorem dX0_firstFailure_11 : decode cX0_firstFailure 11 = .ok (.iload_n 3, 1) := by decide +kernel
theorem dX0_firstFailure_12 : decode cX0_firstFailure 12 = .ok (.iload_n 2, 1) := by decide +kernel
theorem dX0_firstFailure_13 : decode cX0_firstFailure 13 = .ok (.invokevirtual 59, 3) := by decide +kernel
theorem dX0_firstFailure_16 : decode cX0_firstFailure 16 = .ok (.iload_n 3, 1) := by decide +kernel
theorem dX0_firstFailure_17 : decode cX0_firstFailure 17 = .ok (.if_icmp .le 5, 3) := by decide +kernel
theorem dX0_firstFailure_20 : decode cX0_firstFailure 20 = .ok (.iload_n 3, 1) := by decide +kernel
theorem dX0_firstFailure_21 : decode cX0_firstFailure 21 = .ok (.ireturn, 1) := by decide +kernel
theorem dX0_firstFailure_22 : decode cX0_firstFailure 22 = .ok (.iinc 3 1, 3) := by decide +kernel
theorem dX0_firstFailure_25 : decode cX0_firstFailure 25 = .ok (.goto (-23), 3) := by decide +kernel
theorem dX0_firstFailure_28 : decode cX0_firstFailure 28 = .ok (.iconst 0, 1) := by decide +kernel
theorem dX0_firstFailure_29 : decode cX0_firstFailure 29 = .ok (.ireturn, 1) := by decide +kernel
set_option maxRecDepth 20000 in
theorem ggX0_isSchedulableWith_X0_firstFailure : GoodIn wsX0_isSchedulableWith wsX0_firstFailure := goodIn_r _ [5, 6, 7, 8, 4, 9, 10, 11, 12, 13, 14, 15, 16, 17, 18, 19, 20, 21, 22, 23, 24, 25, 26, 27, 28, 29, 30, 31, 32, 33, 34, 35, 36, 37, 38, 39, 40] (by decide +kernel) (by decide +kernel)
set_option maxRecDepth 20000 in
theorem gX0_isSchedulableWith_X0_firstFailure : GoodIn wsX0_isSchedulableWith (wsV RX0 63 RX0 yX0_firstFailure wsX0_firstFailure) := goodIn_app (goodIn_of _ (by decide +kernel)) ggX0_isSchedulableWith_X0_firstFailure
theorem dX0_isSchedulableWith_0 : decode cX0_isSchedulableWith 0 = .ok (.aload_n 0, 1) := by decide +kernel
theorem dX0_isSchedulableWith_1 : decode cX0_isSchedulableWith 1 = .ok (.iconst 0, 1) := by decide +kernel
theorem dX0_isSchedulableWith_2 : decode cX0_isSchedulableWith 2 = .ok (.iload_n 1, 1) := by decide +kernel
theorem dX0_isSchedulableWith_3 : decode cX0_isSchedulableWith 3 = .ok (.invokevirtual 63, 3) := by decide +kernel
theorem dX0_isSchedulableWith_6 : decode cX0_isSchedulableWith 6 = .ok (.ifCond .ne 16, 3) := by decide +kernel
theorem dX0_isSchedulableWith_9 : decode cX0_isSchedulableWith 9 = .ok (.aload_n 0, 1) := by decide +kernel
theorem dX0_isSchedulableWith_10 : decode cX0_isSchedulableWith 10 = .ok (.iconst 1, 1) := by decide +kernel
theorem dX0_isSchedulableWith_11 : decode cX0_isSchedulableWith 11 = .ok (.iload_n 1, 1) := by decide +kernel
theorem dX0_isSchedulableWith_12 : decode cX0_isSchedulableWith 12 = .ok (.invokevirtual 63, 3) := by decide +kernel
theorem dX0_isSchedulableWith_15 : decode cX0_isSchedulableWith 15 = .ok (.ifCond .ne 7, 3) := by decide +kernel
theorem dX0_isSchedulableWith_18 : decode cX0_isSchedulableWith 18 = .ok (.iconst 1, 1) := by decide +kernel
theorem dX0_isSchedulableWith_19 : decode cX0_isSchedulableWith 19 = .ok (.goto 4, 3) := by decide +kernel
theorem dX0_isSchedulableWith_22 : decode cX0_isSchedulableWith 22 = .ok (.iconst 0, 1) := by decide +kernel
theorem dX0_isSchedulableWith_23 : decode cX0_isSchedulableWith 23 = .ok (.ireturn, 1) := by decide +kernel
set_option maxRecDepth 20000 in
theorem ggX0_takeGreatestScale_X0_isSchedulableWith : GoodIn wsX0_takeGreatestScale wsX0_isSchedulableWith := goodIn_r _ [6, 7, 8, 9, 5, 10, 11, 12, 13, 14, 15, 16, 17, 18, 19, 20, 21, 22, 23, 24, 25, 26, 27, 28, 29, 30, 31, 32, 33, 34, 35, 36, 37, 38, 39, 40, 41, 42, 43, 44, 45] (by decide +kernel) (by decide +kernel)
set_option maxRecDepth 20000 in
theorem gX0_takeGreatestScale_X0_isSchedulableWith : GoodIn wsX0_takeGreatestScale (wsV RX0 66 RX0 yX0_isSchedulableWith wsX0_isSchedulableWith) := goodIn_app (goodIn_of _ (by decide +kernel)) ggX0_takeGreatestScale_X0_isSchedulableWith
theorem dX0_takeGreatestScale_0 : decode cX0_takeGreatestScale 0 = .ok (.bipush 8, 2) := by decide +kernel
theorem dX0_takeGreatestScale_2 : decode cX0_takeGreatestScale 2 = .ok (.istore_n 1, 1) := by decide +kernel
theorem dX0_takeGreatestScale_3 : decode cX0_takeGreatestScale 3 = .ok (.iload_n 1, 1) := by decide +kernel
theorem dX0_takeGreatestScale_4 : decode cX0_takeGreatestScale 4 = .ok (.iconst 1, 1) := by decide +kernel
theorem dX0_takeGreatestScale_5 : decode cX0_takeGreatestScale 5 = .ok (.if_icmp .lt 24, 3) := by decide +kernel
theorem dX0_takeGreatestScale_8 : decode cX0_takeGreatestScale 8 = .ok (.aload_n 0, 1) := by decide +kernel
theorem dX0_takeGreatestScale_9 : decode cX0_takeGreatestScale 9 = .ok (.iload_n 1, 1) := by decide +kernel
theorem dX0_takeGreatestScale_10 : decode cX0_takeGreatestScale 10 = .ok (.invokevirtual 66, 3) := by decide +kernel
theorem dX0_takeGreatestScale_13 : decode cX0_takeGreatestScale 13 = .ok (.ifCond .eq 10, 3) := by decide +kernel
theorem dX0_takeGreatestScale_16 : decode cX0_takeGreatestScale 16 = .ok (.aload_n 0, 1) := by decide +kernel
theorem dX0_takeGreatestScale_17 : decode cX0_takeGreatestScale 17 = .ok (.iload_n 1, 1) := by decide +kernel
theorem dX0_takeGreatestScale_18 : decode cX0_takeGreatestScale 18 = .ok (.putfield 33, 3) := by decide +kernel
theorem dX0_takeGreatestScale_21 : decode cX0_takeGreatestScale 21 = .ok (.iconst 1, 1) := by decide +kernel
theorem dX0_takeGreatestScale_22 : decode cX0_takeGreatestScale 22 = .ok (.ireturn, 1) := by decide +kernel
theorem dX0_takeGreatestScale_23 : decode cX0_takeGreatestScale 23 = .ok (.iinc 1 (-1), 3) := by decide +kernel
theorem dX0_takeGreatestScale_26 : decode cX0_takeGreatestScale 26 = .ok (.goto (-23), 3) := by decide +kernel
theorem dX0_takeGreatestScale_29 : decode cX0_takeGreatestScale 29 = .ok (.iconst 0, 1) := by decide +kernel
theorem dX0_takeGreatestScale_30 : decode cX0_takeGreatestScale 30 = .ok (.ireturn, 1) := by decide +kernel
theorem dX0_degradeOnce_0 : decode cX0_degradeOnce 0 = .ok (.iconst (-1), 1) := by decide +kernel
theorem dX0_degradeOnce_1 : decode cX0_degradeOnce 1 = .ok (.istore_n 1, 1) := by decide +kernel
theorem dX0_degradeOnce_2 : decode cX0_degradeOnce 2 = .ok (.iconst 0, 1) := by decide +kernel
theorem dX0_degradeOnce_3 : decode cX0_degradeOnce 3 = .ok (.istore_n 2, 1) := by decide +kernel
theorem dX0_degradeOnce_4 : decode cX0_degradeOnce 4 = .ok (.iload_n 2, 1) := by decide +kernel
theorem dX0_degradeOnce_5 : decode cX0_degradeOnce 5 = .ok (.aload_n 0, 1) := by decide +kernel
theorem dX0_degradeOnce_6 : decode cX0_degradeOnce 6 = .ok (.getfield 37, 3) := by decide +kernel
theorem dX0_degradeOnce_9 : decode cX0_degradeOnce 9 = .ok (.if_icmp .ge 45, 3) := by decide +kernel
theorem dX0_degradeOnce_12 : decode cX0_degradeOnce 12 = .ok (.aload_n 0, 1) := by decide +kernel
theorem dX0_degradeOnce_13 : decode cX0_degradeOnce 13 = .ok (.getfield 30, 3) := by decide +kernel
theorem dX0_degradeOnce_16 : decode cX0_degradeOnce 16 = .ok (.iload_n 2, 1) := by decide +kernel
theorem dX0_degradeOnce_17 : decode cX0_degradeOnce 17 = .ok (.iaload, 1) := by decide +kernel
theorem dX0_degradeOnce_18 : decode cX0_degradeOnce 18 = .ok (.aload_n 0, 1) := by decide +kernel
theorem dX0_degradeOnce_19 : decode cX0_degradeOnce 19 = .ok (.getfield 27, 3) := by decide +kernel
theorem dX0_degradeOnce_22 : decode cX0_degradeOnce 22 = .ok (.iload_n 2, 1) := by decide +kernel
theorem dX0_degradeOnce_23 : decode cX0_degradeOnce 23 = .ok (.iaload, 1) := by decide +kernel
theorem dX0_degradeOnce_24 : decode cX0_degradeOnce 24 = .ok (.if_icmp .ge 24, 3) := by decide +kernel
theorem dX0_degradeOnce_27 : decode cX0_degradeOnce 27 = .ok (.iload_n 1, 1) := by decide +kernel
theorem dX0_degradeOnce_28 : decode cX0_degradeOnce 28 = .ok (.ifCond .lt 18, 3) := by decide +kernel
theorem dX0_degradeOnce_31 : decode cX0_degradeOnce 31 = .ok (.aload_n 0, 1) := by decide +kernel
theorem dX0_degradeOnce_32 : decode cX0_degradeOnce 32 = .ok (.getfield 24, 3) := by decide +kernel
theorem dX0_degradeOnce_35 : decode cX0_degradeOnce 35 = .ok (.iload_n 2, 1) := by decide +kernel
theorem dX0_degradeOnce_36 : decode cX0_degradeOnce 36 = .ok (.iaload, 1) := by decide +kernel
theorem dX0_degradeOnce_37 : decode cX0_degradeOnce 37 = .ok (.aload_n 0, 1) := by decide +kernel
theorem dX0_degradeOnce_38 : decode cX0_degradeOnce 38 = .ok (.getfield 24, 3) := by decide +kernel
theorem dX0_degradeOnce_41 : decode cX0_degradeOnce 41 = .ok (.iload_n 1, 1) := by decide +kernel
theorem dX0_degradeOnce_42 : decode cX0_degradeOnce 42 = .ok (.iaload, 1) := by decide +kernel
theorem dX0_degradeOnce_43 : decode cX0_degradeOnce 43 = .ok (.if_icmp .ge 5, 3) := by decide +kernel
theorem dX0_degradeOnce_46 : decode cX0_degradeOnce 46 = .ok (.iload_n 2, 1) := by decide +kernel
theorem dX0_degradeOnce_47 : decode cX0_degradeOnce 47 = .ok (.istore_n 1, 1) := by decide +kernel
theorem dX0_degradeOnce_48 : decode cX0_degradeOnce 48 = .ok (.iinc 2 1, 3) := by decide +kernel
theorem dX0_degradeOnce_51 : decode cX0_degradeOnce 51 = .ok (.goto (-47), 3) := by decide +kernel
theorem dX0_degradeOnce_54 : decode cX0_degradeOnce 54 = .ok (.iload_n 1, 1) := by decide +kernel
theorem dX0_degradeOnce_55 : decode cX0_degradeOnce 55 = .ok (.ifCond .ge 5, 3) := by decide +kernel
theorem dX0_degradeOnce_58 : decode cX0_degradeOnce 58 = .ok (.iconst 0, 1) := by decide +kernel
theorem dX0_degradeOnce_59 : decode cX0_degradeOnce 59 = .ok (.ireturn, 1) := by decide +kernel
theorem dX0_degradeOnce_60 : decode cX0_degradeOnce 60 = .ok (.aload_n 0, 1) := by decide +kernel
theorem dX0_degradeOnce_61 : decode cX0_degradeOnce 61 = .ok (.getfield 30, 3) := by decide +kernel
theorem dX0_degradeOnce_64 : decode cX0_degradeOnce 64 = .ok (.iload_n 1, 1) := by decide +kernel
theorem dX0_degradeOnce_65 : decode cX0_degradeOnce 65 = .ok (.dup2, 1) := by decide +kernel
theorem dX0_degradeOnce_66 : decode cX0_degradeOnce 66 = .ok (.iaload, 1) := by decide +kernel
theorem dX0_degradeOnce_67 : decode cX0_degradeOnce 67 = .ok (.iconst 1, 1) := by decide +kernel
theorem dX0_degradeOnce_68 : decode cX0_degradeOnce 68 = .ok (.iadd, 1) := by decide +kernel
theorem dX0_degradeOnce_69 : decode cX0_degradeOnce 69 = .ok (.iastore, 1) := by decide +kernel
theorem dX0_degradeOnce_70 : decode cX0_degradeOnce 70 = .ok (.iconst 1, 1) := by decide +kernel
theorem dX0_degradeOnce_71 : decode cX0_degradeOnce 71 = .ok (.ireturn, 1) := by decide +kernel
set_option maxRecDepth 20000 in
theorem ggX0_lowerLevel_X0_takeGreatestScale : GoodIn wsX0_lowerLevel wsX0_takeGreatestScale := goodIn_r _ [6, 7, 8, 9, 10, 5, 11, 12, 13, 14, 15, 16, 17, 18, 19, 20, 21, 22, 23, 24, 25, 26, 27, 28, 29, 30, 31, 32, 1, 33, 34, 35, 36, 37, 38, 39, 40, 41, 42, 43, 44, 45, 46, 47, 48, 49] (by decide +kernel) (by decide +kernel)
set_option maxRecDepth 20000 in
theorem gX0_lowerLevel_X0_takeGreatestScale : GoodIn wsX0_lowerLevel (wsV RX0 70 RX0 yX0_takeGreatestScale wsX0_takeGreatestScale) := goodIn_app (goodIn_of _ (by decide +kernel)) ggX0_lowerLevel_X0_takeGreatestScale
theorem dX0_lowerLevel_0 : decode cX0_lowerLevel 0 = .ok (.aload_n 0, 1) := by decide +kernel
theorem dX0_lowerLevel_1 : decode cX0_lowerLevel 1 = .ok (.getfield 30, 3) := by decide +kernel
theorem dX0_lowerLevel_4 : decode cX0_lowerLevel 4 = .ok (.iload_n 1, 1) := by decide +kernel
theorem dX0_lowerLevel_5 : decode cX0_lowerLevel 5 = .ok (.iaload, 1) := by decide +kernel
theorem dX0_lowerLevel_6 : decode cX0_lowerLevel 6 = .ok (.istore_n 2, 1) := by decide +kernel
theorem dX0_lowerLevel_7 : decode cX0_lowerLevel 7 = .ok (.iconst 0, 1) := by decide +kernel
theorem dX0_lowerLevel_8 : decode cX0_lowerLevel 8 = .ok (.istore_n 3, 1) := by decide +kernel
theorem dX0_lowerLevel_9 : decode cX0_lowerLevel 9 = .ok (.iload_n 3, 1) := by decide +kernel
theorem dX0_lowerLevel_10 : decode cX0_lowerLevel 10 = .ok (.iload_n 2, 1) := by decide +kernel
theorem dX0_lowerLevel_11 : decode cX0_lowerLevel 11 = .ok (.if_icmp .ge 38, 3) := by decide +kernel
theorem dX0_lowerLevel_14 : decode cX0_lowerLevel 14 = .ok (.aload_n 0, 1) := by decide +kernel
theorem dX0_lowerLevel_15 : decode cX0_lowerLevel 15 = .ok (.getfield 30, 3) := by decide +kernel
theorem dX0_lowerLevel_18 : decode cX0_lowerLevel 18 = .ok (.iload_n 1, 1) := by decide +kernel
theorem dX0_lowerLevel_19 : decode cX0_lowerLevel 19 = .ok (.dup2, 1) := by decide +kernel
theorem dX0_lowerLevel_20 : decode cX0_lowerLevel 20 = .ok (.iaload, 1) := by decide +kernel
theorem dX0_lowerLevel_21 : decode cX0_lowerLevel 21 = .ok (.iconst 1, 1) := by decide +kernel
theorem dX0_lowerLevel_22 : decode cX0_lowerLevel 22 = .ok (.isub, 1) := by decide +kernel
theorem dX0_lowerLevel_23 : decode cX0_lowerLevel 23 = .ok (.iastore, 1) := by decide +kernel
theorem dX0_lowerLevel_24 : decode cX0_lowerLevel 24 = .ok (.aload_n 0, 1) := by decide +kernel
theorem dX0_lowerLevel_25 : decode cX0_lowerLevel 25 = .ok (.invokevirtual 70, 3) := by decide +kernel
theorem dX0_lowerLevel_28 : decode cX0_lowerLevel 28 = .ok (.ifCond .ne 15, 3) := by decide +kernel
theorem dX0_lowerLevel_31 : decode cX0_lowerLevel 31 = .ok (.aload_n 0, 1) := by decide +kernel
theorem dX0_lowerLevel_32 : decode cX0_lowerLevel 32 = .ok (.getfield 30, 3) := by decide +kernel
theorem dX0_lowerLevel_35 : decode cX0_lowerLevel 35 = .ok (.iload_n 1, 1) := by decide +kernel
theorem dX0_lowerLevel_36 : decode cX0_lowerLevel 36 = .ok (.dup2, 1) := by decide +kernel
theorem dX0_lowerLevel_37 : decode cX0_lowerLevel 37 = .ok (.iaload, 1) := by decide +kernel
theorem dX0_lowerLevel_38 : decode cX0_lowerLevel 38 = .ok (.iconst 1, 1) := by decide +kernel
theorem dX0_lowerLevel_39 : decode cX0_lowerLevel 39 = .ok (.iadd, 1) := by decide +kernel
theorem dX0_lowerLevel_40 : decode cX0_lowerLevel 40 = .ok (.iastore, 1) := by decide +kernel
theorem dX0_lowerLevel_41 : decode cX0_lowerLevel 41 = .ok (.iload_n 3, 1) := by decide +kernel
theorem dX0_lowerLevel_42 : decode cX0_lowerLevel 42 = .ok (.ireturn, 1) := by decide +kernel
theorem dX0_lowerLevel_43 : decode cX0_lowerLevel 43 = .ok (.iinc 3 1, 3) := by decide +kernel
theorem dX0_lowerLevel_46 : decode cX0_lowerLevel 46 = .ok (.goto (-37), 3) := by decide +kernel
theorem dX0_lowerLevel_49 : decode cX0_lowerLevel 49 = .ok (.iload_n 2, 1) := by decide +kernel
theorem dX0_lowerLevel_50 : decode cX0_lowerLevel 50 = .ok (.ireturn, 1) := by decide +kernel
set_option maxRecDepth 20000 in
theorem ggX0_greatestTestPointBelow_X0_deadlineWithScale : GoodIn wsX0_greatestTestPointBelow wsX0_deadlineWithScale := goodIn_r _ [11, 12, 13, 14, 21, 22, 23, 24, 25, 26, 27, 28, 29] (by decide +kernel) (by decide +kernel)
set_option maxRecDepth 20000 in
theorem gX0_greatestTestPointBelow_X0_deadlineWithScale : GoodIn wsX0_greatestTestPointBelow (wsV RX0 44 RX0 yX0_deadlineWithScale wsX0_deadlineWithScale) := goodIn_app (goodIn_of _ (by decide +kernel)) ggX0_greatestTestPointBelow_X0_deadlineWithScale
set_option maxRecDepth 20000 in
theorem ggX0_greatestTestPointBelow_X0_effectivePeriod : GoodIn wsX0_greatestTestPointBelow wsX0_effectivePeriod := goodIn_r _ [18, 19, 20, 21, 22, 23, 24, 25, 26, 27, 28, 29] (by decide +kernel) (by decide +kernel)
set_option maxRecDepth 20000 in
theorem gX0_greatestTestPointBelow_X0_effectivePeriod : GoodIn wsX0_greatestTestPointBelow (wsV RX0 48 RX0 yX0_effectivePeriod wsX0_effectivePeriod) := goodIn_app (goodIn_of _ (by decide +kernel)) ggX0_greatestTestPointBelow_X0_effectivePeriod
theorem dX0_greatestTestPointBelow_0 : decode cX0_greatestTestPointBelow 0 = .ok (.iconst 0, 1) := by decide +kernel
theorem dX0_greatestTestPointBelow_1 : decode cX0_greatestTestPointBelow 1 = .ok (.istore_n 2, 1) := by decide +kernel
theorem dX0_greatestTestPointBelow_2 : decode cX0_greatestTestPointBelow 2 = .ok (.iconst 0, 1) := by decide +kernel
theorem dX0_greatestTestPointBelow_3 : decode cX0_greatestTestPointBelow 3 = .ok (.istore_n 3, 1) := by decide +kernel
theorem dX0_greatestTestPointBelow_4 : decode cX0_greatestTestPointBelow 4 = .ok (.iload_n 3, 1) := by decide +kernel
theorem dX0_greatestTestPointBelow_5 : decode cX0_greatestTestPointBelow 5 = .ok (.aload_n 0, 1) := by decide +kernel
theorem dX0_greatestTestPointBelow_6 : decode cX0_greatestTestPointBelow 6 = .ok (.getfield 37, 3) := by decide +kernel
theorem dX0_greatestTestPointBelow_9 : decode cX0_greatestTestPointBelow 9 = .ok (.if_icmp .ge 56, 3) := by decide +kernel
theorem dX0_greatestTestPointBelow_12 : decode cX0_greatestTestPointBelow 12 = .ok (.aload_n 0, 1) := by decide +kernel
theorem dX0_greatestTestPointBelow_13 : decode cX0_greatestTestPointBelow 13 = .ok (.iload_n 3, 1) := by decide +kernel
theorem dX0_greatestTestPointBelow_14 : decode cX0_greatestTestPointBelow 14 = .ok (.aload_n 0, 1) := by decide +kernel
theorem dX0_greatestTestPointBelow_15 : decode cX0_greatestTestPointBelow 15 = .ok (.getfield 33, 3) := by decide +kernel
theorem dX0_greatestTestPointBelow_18 : decode cX0_greatestTestPointBelow 18 = .ok (.invokevirtual 44, 3) := by decide +kernel
theorem dX0_greatestTestPointBelow_21 : decode cX0_greatestTestPointBelow 21 = .ok (.istore 4, 2) := by decide +kernel
theorem dX0_greatestTestPointBelow_23 : decode cX0_greatestTestPointBelow 23 = .ok (.iload 4, 2) := by decide +kernel
theorem dX0_greatestTestPointBelow_25 : decode cX0_greatestTestPointBelow 25 = .ok (.iload_n 1, 1) := by decide +kernel
theorem dX0_greatestTestPointBelow_26 : decode cX0_greatestTestPointBelow 26 = .ok (.if_icmp .ge 33, 3) := by decide +kernel
theorem dX0_greatestTestPointBelow_29 : decode cX0_greatestTestPointBelow 29 = .ok (.iload_n 1, 1) := by decide +kernel
theorem dX0_greatestTestPointBelow_30 : decode cX0_greatestTestPointBelow 30 = .ok (.iconst 1, 1) := by decide +kernel
theorem dX0_greatestTestPointBelow_31 : decode cX0_greatestTestPointBelow 31 = .ok (.isub, 1) := by decide +kernel
theorem dX0_greatestTestPointBelow_32 : decode cX0_greatestTestPointBelow 32 = .ok (.iload 4, 2) := by decide +kernel
theorem dX0_greatestTestPointBelow_34 : decode cX0_greatestTestPointBelow 34 = .ok (.isub, 1) := by decide +kernel
theorem dX0_greatestTestPointBelow_35 : decode cX0_greatestTestPointBelow 35 = .ok (.aload_n 0, 1) := by decide +kernel
theorem dX0_greatestTestPointBelow_36 : decode cX0_greatestTestPointBelow 36 = .ok (.iload_n 3, 1) := by decide +kernel
theorem dX0_greatestTestPointBelow_37 : decode cX0_greatestTestPointBelow 37 = .ok (.invokevirtual 48, 3) := by decide +kernel
theorem dX0_greatestTestPointBelow_40 : decode cX0_greatestTestPointBelow 40 = .ok (.idiv, 1) := by decide +kernel
theorem dX0_greatestTestPointBelow_41 : decode cX0_greatestTestPointBelow 41 = .ok (.istore 5, 2) := by decide +kernel
theorem dX0_greatestTestPointBelow_43 : decode cX0_greatestTestPointBelow 43 = .ok (.iload_n 2, 1) := by decide +kernel
theorem dX0_greatestTestPointBelow_44 : decode cX0_greatestTestPointBelow 44 = .ok (.iload 4, 2) := by decide +kernel
theorem dX0_greatestTestPointBelow_46 : decode cX0_greatestTestPointBelow 46 = .ok (.iload 5, 2) := by decide +kernel
theorem dX0_greatestTestPointBelow_48 : decode cX0_greatestTestPointBelow 48 = .ok (.aload_n 0, 1) := by decide +kernel
theorem dX0_greatestTestPointBelow_49 : decode cX0_greatestTestPointBelow 49 = .ok (.iload_n 3, 1) := by decide +kernel
theorem dX0_greatestTestPointBelow_50 : decode cX0_greatestTestPointBelow 50 = .ok (.invokevirtual 48, 3) := by decide +kernel
theorem dX0_greatestTestPointBelow_53 : decode cX0_greatestTestPointBelow 53 = .ok (.imul, 1) := by decide +kernel
theorem dX0_greatestTestPointBelow_54 : decode cX0_greatestTestPointBelow 54 = .ok (.iadd, 1) := by decide +kernel
theorem dX0_greatestTestPointBelow_55 : decode cX0_greatestTestPointBelow 55 = .ok (.invokestatic 74, 3) := by decide +kernel
theorem dX0_greatestTestPointBelow_58 : decode cX0_greatestTestPointBelow 58 = .ok (.istore_n 2, 1) := by decide +kernel
theorem dX0_greatestTestPointBelow_59 : decode cX0_greatestTestPointBelow 59 = .ok (.iinc 3 1, 3) := by decide +kernel
theorem dX0_greatestTestPointBelow_62 : decode cX0_greatestTestPointBelow 62 = .ok (.goto (-58), 3) := by decide +kernel
theorem dX0_greatestTestPointBelow_65 : decode cX0_greatestTestPointBelow 65 = .ok (.iload_n 2, 1) := by decide +kernel
theorem dX0_greatestTestPointBelow_66 : decode cX0_greatestTestPointBelow 66 = .ok (.ireturn, 1) := by decide +kernel
set_option maxRecDepth 20000 in
theorem ggX0_leastTestPoint_X0_deadlineWithScale : GoodIn wsX0_leastTestPoint wsX0_deadlineWithScale := goodIn_r _ [11, 12, 13, 14, 15, 16, 17, 18, 19, 20, 21, 22, 23] (by decide +kernel) (by decide +kernel)
set_option maxRecDepth 20000 in
theorem gX0_leastTestPoint_X0_deadlineWithScale : GoodIn wsX0_leastTestPoint (wsV RX0 44 RX0 yX0_deadlineWithScale wsX0_deadlineWithScale) := goodIn_app (goodIn_of _ (by decide +kernel)) ggX0_leastTestPoint_X0_deadlineWithScale
theorem dX0_leastTestPoint_0 : decode cX0_leastTestPoint 0 = .ok (.sipush 200, 3) := by decide +kernel
theorem dX0_leastTestPoint_3 : decode cX0_leastTestPoint 3 = .ok (.istore_n 1, 1) := by decide +kernel
theorem dX0_leastTestPoint_4 : decode cX0_leastTestPoint 4 = .ok (.iconst 0, 1) := by decide +kernel
theorem dX0_leastTestPoint_5 : decode cX0_leastTestPoint 5 = .ok (.istore_n 2, 1) := by decide +kernel
theorem dX0_leastTestPoint_6 : decode cX0_leastTestPoint 6 = .ok (.iload_n 2, 1) := by decide +kernel
theorem dX0_leastTestPoint_7 : decode cX0_leastTestPoint 7 = .ok (.aload_n 0, 1) := by decide +kernel
theorem dX0_leastTestPoint_8 : decode cX0_leastTestPoint 8 = .ok (.getfield 37, 3) := by decide +kernel
theorem dX0_leastTestPoint_11 : decode cX0_leastTestPoint 11 = .ok (.if_icmp .ge 23, 3) := by decide +kernel
theorem dX0_leastTestPoint_14 : decode cX0_leastTestPoint 14 = .ok (.iload_n 1, 1) := by decide +kernel
theorem dX0_leastTestPoint_15 : decode cX0_leastTestPoint 15 = .ok (.aload_n 0, 1) := by decide +kernel
theorem dX0_leastTestPoint_16 : decode cX0_leastTestPoint 16 = .ok (.iload_n 2, 1) := by decide +kernel
theorem dX0_leastTestPoint_17 : decode cX0_leastTestPoint 17 = .ok (.aload_n 0, 1) := by decide +kernel
theorem dX0_leastTestPoint_18 : decode cX0_leastTestPoint 18 = .ok (.getfield 33, 3) := by decide +kernel
theorem dX0_leastTestPoint_21 : decode cX0_leastTestPoint 21 = .ok (.invokevirtual 44, 3) := by decide +kernel
theorem dX0_leastTestPoint_24 : decode cX0_leastTestPoint 24 = .ok (.invokestatic 79, 3) := by decide +kernel
theorem dX0_leastTestPoint_27 : decode cX0_leastTestPoint 27 = .ok (.istore_n 1, 1) := by decide +kernel
theorem dX0_leastTestPoint_28 : decode cX0_leastTestPoint 28 = .ok (.iinc 2 1, 3) := by decide +kernel
theorem dX0_leastTestPoint_31 : decode cX0_leastTestPoint 31 = .ok (.goto (-25), 3) := by decide +kernel
theorem dX0_leastTestPoint_34 : decode cX0_leastTestPoint 34 = .ok (.iload_n 1, 1) := by decide +kernel
theorem dX0_leastTestPoint_35 : decode cX0_leastTestPoint 35 = .ok (.ireturn, 1) := by decide +kernel
set_option maxRecDepth 20000 in
theorem ggX1_init_X0_init : GoodIn wsX1_init wsX0_init := goodIn_r _ [9, 10, 2, 3, 11, 12, 13, 14, 15, 16, 17, 18, 19, 23, 24, 25, 26, 27, 28, 29, 30, 31] (by decide +kernel) (by decide +kernel)
set_option maxRecDepth 20000 in
theorem gX1_init_X0_init_n17 : GoodIn wsX1_init (wsX0_init) := ggX1_init_X0_init
theorem dX1_init_0 : decode cX1_init 0 = .ok (.aload_n 0, 1) := by decide +kernel
theorem dX1_init_1 : decode cX1_init 1 = .ok (.invokespecial 3, 3) := by decide +kernel
theorem dX1_init_4 : decode cX1_init 4 = .ok (.aload_n 0, 1) := by decide +kernel
theorem dX1_init_5 : decode cX1_init 5 = .ok (.bipush 6, 2) := by decide +kernel
theorem dX1_init_7 : decode cX1_init 7 = .ok (.anewarray 9, 3) := by decide +kernel
theorem dX1_init_10 : decode cX1_init 10 = .ok (.putfield 11, 3) := by decide +kernel
theorem dX1_init_13 : decode cX1_init 13 = .ok (.iconst 0, 1) := by decide +kernel
theorem dX1_init_14 : decode cX1_init 14 = .ok (.istore_n 1, 1) := by decide +kernel
theorem dX1_init_15 : decode cX1_init 15 = .ok (.iload_n 1, 1) := by decide +kernel
theorem dX1_init_16 : decode cX1_init 16 = .ok (.bipush 6, 2) := by decide +kernel
theorem dX1_init_18 : decode cX1_init 18 = .ok (.if_icmp .ge 22, 3) := by decide +kernel
theorem dX1_init_21 : decode cX1_init 21 = .ok (.aload_n 0, 1) := by decide +kernel
theorem dX1_init_22 : decode cX1_init 22 = .ok (.getfield 11, 3) := by decide +kernel
theorem dX1_init_25 : decode cX1_init 25 = .ok (.iload_n 1, 1) := by decide +kernel
theorem dX1_init_26 : decode cX1_init 26 = .ok (.new 9, 3) := by decide +kernel
theorem dX1_init_29 : decode cX1_init 29 = .ok (.dup, 1) := by decide +kernel
theorem dX1_init_30 : decode cX1_init 30 = .ok (.invokespecial 17, 3) := by decide +kernel
theorem dX1_init_33 : decode cX1_init 33 = .ok (.aastore, 1) := by decide +kernel
theorem dX1_init_34 : decode cX1_init 34 = .ok (.iinc 1 1, 3) := by decide +kernel
theorem dX1_init_37 : decode cX1_init 37 = .ok (.goto (-22), 3) := by decide +kernel
theorem dX1_init_40 : decode cX1_init 40 = .ok (.return_, 1) := by decide +kernel
set_option maxRecDepth 20000 in
theorem ggX1_remember_X0_copyFrom : GoodIn wsX1_remember wsX0_copyFrom := goodIn_r _ [12, 13, 14, 15, 16, 17, 11, 18, 19, 20, 21, 22, 23, 24, 25, 29, 30, 31, 32, 33, 34, 35, 36, 37] (by decide +kernel) (by decide +kernel)
set_option maxRecDepth 20000 in
theorem gX1_remember_X0_copyFrom : GoodIn wsX1_remember (wsV RX1 22 RX0 yX0_copyFrom wsX0_copyFrom) := goodIn_app (goodIn_of _ (by decide +kernel)) ggX1_remember_X0_copyFrom
theorem dX1_remember_0 : decode cX1_remember 0 = .ok (.aload_n 0, 1) := by decide +kernel
theorem dX1_remember_1 : decode cX1_remember 1 = .ok (.getfield 11, 3) := by decide +kernel
theorem dX1_remember_4 : decode cX1_remember 4 = .ok (.aload_n 0, 1) := by decide +kernel
theorem dX1_remember_5 : decode cX1_remember 5 = .ok (.getfield 18, 3) := by decide +kernel
theorem dX1_remember_8 : decode cX1_remember 8 = .ok (.aaload, 1) := by decide +kernel
theorem dX1_remember_9 : decode cX1_remember 9 = .ok (.aload_n 1, 1) := by decide +kernel
theorem dX1_remember_10 : decode cX1_remember 10 = .ok (.invokevirtual 22, 3) := by decide +kernel
theorem dX1_remember_13 : decode cX1_remember 13 = .ok (.aload_n 0, 1) := by decide +kernel
theorem dX1_remember_14 : decode cX1_remember 14 = .ok (.aload_n 0, 1) := by decide +kernel
theorem dX1_remember_15 : decode cX1_remember 15 = .ok (.getfield 18, 3) := by decide +kernel
theorem dX1_remember_18 : decode cX1_remember 18 = .ok (.iconst 1, 1) := by decide +kernel
theorem dX1_remember_19 : decode cX1_remember 19 = .ok (.iadd, 1) := by decide +kernel
theorem dX1_remember_20 : decode cX1_remember 20 = .ok (.bipush 6, 2) := by decide +kernel
theorem dX1_remember_22 : decode cX1_remember 22 = .ok (.irem, 1) := by decide +kernel
theorem dX1_remember_23 : decode cX1_remember 23 = .ok (.putfield 18, 3) := by decide +kernel
theorem dX1_remember_26 : decode cX1_remember 26 = .ok (.aload_n 0, 1) := by decide +kernel
theorem dX1_remember_27 : decode cX1_remember 27 = .ok (.aload_n 0, 1) := by decide +kernel
theorem dX1_remember_28 : decode cX1_remember 28 = .ok (.getfield 26, 3) := by decide +kernel
theorem dX1_remember_31 : decode cX1_remember 31 = .ok (.iconst 1, 1) := by decide +kernel
theorem dX1_remember_32 : decode cX1_remember 32 = .ok (.iadd, 1) := by decide +kernel
theorem dX1_remember_33 : decode cX1_remember 33 = .ok (.bipush 6, 2) := by decide +kernel
theorem dX1_remember_35 : decode cX1_remember 35 = .ok (.invokestatic 29, 3) := by decide +kernel
theorem dX1_remember_38 : decode cX1_remember 38 = .ok (.putfield 26, 3) := by decide +kernel
theorem dX1_remember_41 : decode cX1_remember 41 = .ok (.return_, 1) := by decide +kernel
set_option maxRecDepth 20000 in
theorem ggX1_takeBackInto_X0_copyFrom : GoodIn wsX1_takeBackInto wsX0_copyFrom := goodIn_r _ [8, 9, 10, 11, 12, 13, 7, 14, 15, 16, 17, 18, 19, 20, 21, 25, 26, 27, 28, 29, 30, 31, 32, 33] (by decide +kernel) (by decide +kernel)
set_option maxRecDepth 20000 in
theorem gX1_takeBackInto_X0_copyFrom : GoodIn wsX1_takeBackInto (wsV RX1 22 RX0 yX0_copyFrom wsX0_copyFrom) := goodIn_app (goodIn_of _ (by decide +kernel)) ggX1_takeBackInto_X0_copyFrom
theorem dX1_takeBackInto_0 : decode cX1_takeBackInto 0 = .ok (.aload_n 0, 1) := by decide +kernel
theorem dX1_takeBackInto_1 : decode cX1_takeBackInto 1 = .ok (.aload_n 0, 1) := by decide +kernel
theorem dX1_takeBackInto_2 : decode cX1_takeBackInto 2 = .ok (.getfield 18, 3) := by decide +kernel
theorem dX1_takeBackInto_5 : decode cX1_takeBackInto 5 = .ok (.bipush 6, 2) := by decide +kernel
theorem dX1_takeBackInto_7 : decode cX1_takeBackInto 7 = .ok (.iadd, 1) := by decide +kernel
theorem dX1_takeBackInto_8 : decode cX1_takeBackInto 8 = .ok (.iconst 1, 1) := by decide +kernel
theorem dX1_takeBackInto_9 : decode cX1_takeBackInto 9 = .ok (.isub, 1) := by decide +kernel
theorem dX1_takeBackInto_10 : decode cX1_takeBackInto 10 = .ok (.bipush 6, 2) := by decide +kernel
theorem dX1_takeBackInto_12 : decode cX1_takeBackInto 12 = .ok (.irem, 1) := by decide +kernel
theorem dX1_takeBackInto_13 : decode cX1_takeBackInto 13 = .ok (.putfield 18, 3) := by decide +kernel
theorem dX1_takeBackInto_16 : decode cX1_takeBackInto 16 = .ok (.aload_n 0, 1) := by decide +kernel
theorem dX1_takeBackInto_17 : decode cX1_takeBackInto 17 = .ok (.dup, 1) := by decide +kernel
theorem dX1_takeBackInto_18 : decode cX1_takeBackInto 18 = .ok (.getfield 26, 3) := by decide +kernel
theorem dX1_takeBackInto_21 : decode cX1_takeBackInto 21 = .ok (.iconst 1, 1) := by decide +kernel
theorem dX1_takeBackInto_22 : decode cX1_takeBackInto 22 = .ok (.isub, 1) := by decide +kernel
theorem dX1_takeBackInto_23 : decode cX1_takeBackInto 23 = .ok (.putfield 26, 3) := by decide +kernel
theorem dX1_takeBackInto_26 : decode cX1_takeBackInto 26 = .ok (.aload_n 1, 1) := by decide +kernel
theorem dX1_takeBackInto_27 : decode cX1_takeBackInto 27 = .ok (.aload_n 0, 1) := by decide +kernel
theorem dX1_takeBackInto_28 : decode cX1_takeBackInto 28 = .ok (.getfield 11, 3) := by decide +kernel
theorem dX1_takeBackInto_31 : decode cX1_takeBackInto 31 = .ok (.aload_n 0, 1) := by decide +kernel
theorem dX1_takeBackInto_32 : decode cX1_takeBackInto 32 = .ok (.getfield 18, 3) := by decide +kernel
theorem dX1_takeBackInto_35 : decode cX1_takeBackInto 35 = .ok (.aaload, 1) := by decide +kernel
theorem dX1_takeBackInto_36 : decode cX1_takeBackInto 36 = .ok (.invokevirtual 22, 3) := by decide +kernel
theorem dX1_takeBackInto_39 : decode cX1_takeBackInto 39 = .ok (.return_, 1) := by decide +kernel
set_option maxRecDepth 20000 in
theorem ggX2_init_X0_init : GoodIn wsX2_init wsX0_init := goodIn_r _ [16, 17, 2, 3, 8, 18, 19, 20, 21, 22, 23, 24, 25, 26, 27, 28, 29, 30, 31, 32, 33, 34] (by decide +kernel) (by decide +kernel)
set_option maxRecDepth 20000 in
theorem gX2_init_X0_init_n11 : GoodIn wsX2_init (wsX0_init) := ggX2_init_X0_init
theorem dX2_init_0 : decode cX2_init 0 = .ok (.aload_n 0, 1) := by decide +kernel
theorem dX2_init_1 : decode cX2_init 1 = .ok (.invokespecial 3, 3) := by decide +kernel
theorem dX2_init_4 : decode cX2_init 4 = .ok (.aload_n 0, 1) := by decide +kernel
theorem dX2_init_5 : decode cX2_init 5 = .ok (.new 9, 3) := by decide +kernel
theorem dX2_init_8 : decode cX2_init 8 = .ok (.dup, 1) := by decide +kernel
theorem dX2_init_9 : decode cX2_init 9 = .ok (.invokespecial 11, 3) := by decide +kernel
theorem dX2_init_12 : decode cX2_init 12 = .ok (.putfield 12, 3) := by decide +kernel
theorem dX2_init_15 : decode cX2_init 15 = .ok (.aload_n 0, 1) := by decide +kernel
theorem dX2_init_16 : decode cX2_init 16 = .ok (.bipush 8, 2) := by decide +kernel
theorem dX2_init_18 : decode cX2_init 18 = .ok (.newarray .int, 2) := by decide +kernel
theorem dX2_init_20 : decode cX2_init 20 = .ok (.putfield 18, 3) := by decide +kernel
theorem dX2_init_23 : decode cX2_init 23 = .ok (.aload_n 0, 1) := by decide +kernel
theorem dX2_init_24 : decode cX2_init 24 = .ok (.bipush 8, 2) := by decide +kernel
theorem dX2_init_26 : decode cX2_init 26 = .ok (.newarray .int, 2) := by decide +kernel
theorem dX2_init_28 : decode cX2_init 28 = .ok (.putfield 22, 3) := by decide +kernel
theorem dX2_init_31 : decode cX2_init 31 = .ok (.aload_n 0, 1) := by decide +kernel
theorem dX2_init_32 : decode cX2_init 32 = .ok (.bipush 8, 2) := by decide +kernel
theorem dX2_init_34 : decode cX2_init 34 = .ok (.newarray .int, 2) := by decide +kernel
theorem dX2_init_36 : decode cX2_init 36 = .ok (.putfield 25, 3) := by decide +kernel
theorem dX2_init_39 : decode cX2_init 39 = .ok (.aload_n 0, 1) := by decide +kernel
theorem dX2_init_40 : decode cX2_init 40 = .ok (.bipush 8, 2) := by decide +kernel
theorem dX2_init_42 : decode cX2_init 42 = .ok (.sipush 200, 3) := by decide +kernel
theorem dX2_init_45 : decode cX2_init 45 = .ok (.multianewarray 28 2, 4) := by decide +kernel
theorem dX2_init_49 : decode cX2_init 49 = .ok (.putfield 30, 3) := by decide +kernel
theorem dX2_init_52 : decode cX2_init 52 = .ok (.aload_n 0, 1) := by decide +kernel
theorem dX2_init_53 : decode cX2_init 53 = .ok (.bipush 8, 2) := by decide +kernel
theorem dX2_init_55 : decode cX2_init 55 = .ok (.newarray .int, 2) := by decide +kernel
theorem dX2_init_57 : decode cX2_init 57 = .ok (.putfield 33, 3) := by decide +kernel
theorem dX2_init_60 : decode cX2_init 60 = .ok (.return_, 1) := by decide +kernel
set_option maxRecDepth 20000 in
theorem ggX2_run_X2_clear : GoodIn wsX2_run wsX2_clear := goodIn_r _ [15, 16, 17, 9, 18, 19, 20, 21, 10, 99, 100, 101, 102, 103, 104, 105, 106, 107, 108, 109, 110, 111, 112, 113] (by decide +kernel) (by decide +kernel)
set_option maxRecDepth 20000 in
theorem gX2_run_X2_clear : GoodIn wsX2_run (wsV RX2 36 RX2 yX2_clear wsX2_clear) := goodIn_app (goodIn_of _ (by decide +kernel)) ggX2_run_X2_clear
set_option maxRecDepth 20000 in
theorem ggX2_run_X0_copyFrom : GoodIn wsX2_run wsX0_copyFrom := goodIn_r _ [26, 27, 28, 29, 30, 31, 25, 32, 33, 34, 35, 36, 37, 38, 39, 114, 115, 116, 117, 118, 119, 120, 121, 122] (by decide +kernel) (by decide +kernel)
set_option maxRecDepth 20000 in
theorem gX2_run_X0_copyFrom : GoodIn wsX2_run (wsV RX2 39 RX0 yX0_copyFrom wsX0_copyFrom) := goodIn_app (goodIn_of _ (by decide +kernel)) ggX2_run_X0_copyFrom
set_option maxRecDepth 20000 in
theorem ggX2_run_X2_earliestTask : GoodIn wsX2_run wsX2_earliestTask := goodIn_r _ [43, 1, 16, 44, 45, 46, 14, 47, 9, 48, 49, 50, 51, 25, 52, 36, 34, 35, 99, 100, 101, 102, 103, 104, 105, 106, 107, 108, 109, 110, 111, 112, 113, 114, 115, 116, 117, 118, 119, 120, 121, 122] (by decide +kernel) (by decide +kernel)
set_option maxRecDepth 20000 in
theorem gX2_run_X2_earliestTask : GoodIn wsX2_run (wsV RX2 59 RX2 yX2_earliestTask wsX2_earliestTask) := goodIn_app (goodIn_of _ (by decide +kernel)) ggX2_run_X2_earliestTask
set_option maxRecDepth 20000 in
theorem ggX2_run_X2_releaseDueJobs : GoodIn wsX2_run wsX2_releaseDueJobs := goodIn_r _ [56, 1, 9, 20, 57, 58, 59, 25, 60, 33, 39, 61, 62, 63, 64, 36, 65, 66, 67, 14, 68, 69, 16, 48, 70, 71, 72, 73, 74, 2, 75, 3, 99, 100, 101, 102, 103, 104, 105, 106, 107, 108, 109, 110, 111, 112, 113, 114, 115, 116, 117, 118, 119, 120, 121, 122] (by decide +kernel) (by decide +kernel)
set_option maxRecDepth 20000 in
theorem gX2_run_X2_releaseDueJobs : GoodIn wsX2_run (wsV RX2 66 RX2 yX2_releaseDueJobs wsX2_releaseDueJobs) := goodIn_app (goodIn_of _ (by decide +kernel)) ggX2_run_X2_releaseDueJobs
set_option maxRecDepth 20000 in
theorem ggX2_run_X2_runOldestJob : GoodIn wsX2_run wsX2_runOldestJob := goodIn_r _ [79, 70, 69, 48, 9, 1, 21, 80, 81, 82, 14, 83, 17, 84, 85, 6, 86, 19, 16, 87, 88, 89, 90, 8, 18, 57, 58, 59, 25, 60, 33, 39, 61, 62, 63, 64, 36, 91, 92, 93, 94, 20, 99, 100, 101, 102, 103, 104, 105, 106, 107, 108, 109, 110, 111, 112, 113, 114, 115, 116, 117, 118, 119, 120, 121, 122] (by decide +kernel) (by decide +kernel)
set_option maxRecDepth 20000 in
theorem gX2_run_X2_runOldestJob : GoodIn wsX2_run (wsV RX2 73 RX2 yX2_runOldestJob wsX2_runOldestJob) := goodIn_app (goodIn_of _ (by decide +kernel)) ggX2_run_X2_runOldestJob
set_option maxRecDepth 20000 in
theorem ggX2_run_X2_countLatePendingJobs : GoodIn wsX2_run wsX2_countLatePendingJobs := goodIn_r _ [98, 1, 16, 48, 57, 58, 59, 25, 60, 33, 39, 87, 88, 89, 14, 90, 8, 18, 99, 100, 101, 102, 103, 104, 105, 106, 107, 108, 109, 110, 111, 112, 113, 114, 115, 116, 117, 118, 119, 120, 121, 122] (by decide +kernel) (by decide +kernel)
set_option maxRecDepth 20000 in
theorem gX2_run_X2_countLatePendingJobs : GoodIn wsX2_run (wsV RX2 77 RX2 yX2_countLatePendingJobs wsX2_countLatePendingJobs) := goodIn_app (goodIn_of _ (by decide +kernel)) ggX2_run_X2_countLatePendingJobs
theorem dX2_run_0 : decode cX2_run 0 = .ok (.aload_n 0, 1) := by decide +kernel
theorem dX2_run_1 : decode cX2_run 1 = .ok (.invokevirtual 36, 3) := by decide +kernel
theorem dX2_run_4 : decode cX2_run 4 = .ok (.aload_n 0, 1) := by decide +kernel
theorem dX2_run_5 : decode cX2_run 5 = .ok (.getfield 12, 3) := by decide +kernel
theorem dX2_run_8 : decode cX2_run 8 = .ok (.aload_n 1, 1) := by decide +kernel
theorem dX2_run_9 : decode cX2_run 9 = .ok (.invokevirtual 39, 3) := by decide +kernel
theorem dX2_run_12 : decode cX2_run 12 = .ok (.aload_n 0, 1) := by decide +kernel
theorem dX2_run_13 : decode cX2_run 13 = .ok (.iload_n 2, 1) := by decide +kernel
theorem dX2_run_14 : decode cX2_run 14 = .ok (.putfield 43, 3) := by decide +kernel
theorem dX2_run_17 : decode cX2_run 17 = .ok (.aload_n 0, 1) := by decide +kernel
theorem dX2_run_18 : decode cX2_run 18 = .ok (.iload_n 3, 1) := by decide +kernel
theorem dX2_run_19 : decode cX2_run 19 = .ok (.putfield 47, 3) := by decide +kernel
theorem dX2_run_22 : decode cX2_run 22 = .ok (.aload_n 0, 1) := by decide +kernel
theorem dX2_run_23 : decode cX2_run 23 = .ok (.iload 4, 2) := by decide +kernel
theorem dX2_run_25 : decode cX2_run 25 = .ok (.sipush 200, 3) := by decide +kernel
theorem dX2_run_28 : decode cX2_run 28 = .ok (.invokestatic 50, 3) := by decide +kernel
theorem dX2_run_31 : decode cX2_run 31 = .ok (.putfield 56, 3) := by decide +kernel
theorem dX2_run_34 : decode cX2_run 34 = .ok (.iconst 0, 1) := by decide +kernel
theorem dX2_run_35 : decode cX2_run 35 = .ok (.istore 5, 2) := by decide +kernel
theorem dX2_run_37 : decode cX2_run 37 = .ok (.iload 5, 2) := by decide +kernel
theorem dX2_run_39 : decode cX2_run 39 = .ok (.aload_n 0, 1) := by decide +kernel
theorem dX2_run_40 : decode cX2_run 40 = .ok (.getfield 56, 3) := by decide +kernel
theorem dX2_run_43 : decode cX2_run 43 = .ok (.if_icmp .ge 59, 3) := by decide +kernel
theorem dX2_run_46 : decode cX2_run 46 = .ok (.aload_n 0, 1) := by decide +kernel
theorem dX2_run_47 : decode cX2_run 47 = .ok (.invokevirtual 59, 3) := by decide +kernel
theorem dX2_run_50 : decode cX2_run 50 = .ok (.ifCond .ge 8, 3) := by decide +kernel
theorem dX2_run_53 : decode cX2_run 53 = .ok (.aload_n 0, 1) := by decide +kernel
theorem dX2_run_54 : decode cX2_run 54 = .ok (.iconst 0, 1) := by decide +kernel
theorem dX2_run_55 : decode cX2_run 55 = .ok (.putfield 63, 3) := by decide +kernel
theorem dX2_run_58 : decode cX2_run 58 = .ok (.aload_n 0, 1) := by decide +kernel
theorem dX2_run_59 : decode cX2_run 59 = .ok (.iload 5, 2) := by decide +kernel
theorem dX2_run_61 : decode cX2_run 61 = .ok (.invokevirtual 66, 3) := by decide +kernel
theorem dX2_run_64 : decode cX2_run 64 = .ok (.aload_n 0, 1) := by decide +kernel
theorem dX2_run_65 : decode cX2_run 65 = .ok (.invokevirtual 59, 3) := by decide +kernel
theorem dX2_run_68 : decode cX2_run 68 = .ok (.istore 6, 2) := by decide +kernel
theorem dX2_run_70 : decode cX2_run 70 = .ok (.iload 6, 2) := by decide +kernel
theorem dX2_run_72 : decode cX2_run 72 = .ok (.ifCond .ge 16, 3) := by decide +kernel
theorem dX2_run_75 : decode cX2_run 75 = .ok (.aload_n 0, 1) := by decide +kernel
theorem dX2_run_76 : decode cX2_run 76 = .ok (.dup, 1) := by decide +kernel
theorem dX2_run_77 : decode cX2_run 77 = .ok (.getfield 70, 3) := by decide +kernel
theorem dX2_run_80 : decode cX2_run 80 = .ok (.iconst 1, 1) := by decide +kernel
theorem dX2_run_81 : decode cX2_run 81 = .ok (.iadd, 1) := by decide +kernel
theorem dX2_run_82 : decode cX2_run 82 = .ok (.putfield 70, 3) := by decide +kernel
theorem dX2_run_85 : decode cX2_run 85 = .ok (.goto 11, 3) := by decide +kernel
theorem dX2_run_88 : decode cX2_run 88 = .ok (.aload_n 0, 1) := by decide +kernel
theorem dX2_run_89 : decode cX2_run 89 = .ok (.iload 6, 2) := by decide +kernel
theorem dX2_run_91 : decode cX2_run 91 = .ok (.iload 5, 2) := by decide +kernel
theorem dX2_run_93 : decode cX2_run 93 = .ok (.invokevirtual 73, 3) := by decide +kernel
theorem dX2_run_96 : decode cX2_run 96 = .ok (.iinc 5 1, 3) := by decide +kernel
theorem dX2_run_99 : decode cX2_run 99 = .ok (.goto (-62), 3) := by decide +kernel
theorem dX2_run_102 : decode cX2_run 102 = .ok (.aload_n 0, 1) := by decide +kernel
theorem dX2_run_103 : decode cX2_run 103 = .ok (.invokevirtual 77, 3) := by decide +kernel
theorem dX2_run_106 : decode cX2_run 106 = .ok (.return_, 1) := by decide +kernel
theorem dX2_clear_0 : decode cX2_clear 0 = .ok (.iconst 0, 1) := by decide +kernel
theorem dX2_clear_1 : decode cX2_clear 1 = .ok (.istore_n 1, 1) := by decide +kernel
theorem dX2_clear_2 : decode cX2_clear 2 = .ok (.iload_n 1, 1) := by decide +kernel
theorem dX2_clear_3 : decode cX2_clear 3 = .ok (.bipush 8, 2) := by decide +kernel
theorem dX2_clear_5 : decode cX2_clear 5 = .ok (.if_icmp .ge 23, 3) := by decide +kernel
theorem dX2_clear_8 : decode cX2_clear 8 = .ok (.aload_n 0, 1) := by decide +kernel
theorem dX2_clear_9 : decode cX2_clear 9 = .ok (.getfield 18, 3) := by decide +kernel
theorem dX2_clear_12 : decode cX2_clear 12 = .ok (.iload_n 1, 1) := by decide +kernel
theorem dX2_clear_13 : decode cX2_clear 13 = .ok (.iconst 0, 1) := by decide +kernel
theorem dX2_clear_14 : decode cX2_clear 14 = .ok (.iastore, 1) := by decide +kernel
theorem dX2_clear_15 : decode cX2_clear 15 = .ok (.aload_n 0, 1) := by decide +kernel
theorem dX2_clear_16 : decode cX2_clear 16 = .ok (.getfield 33, 3) := by decide +kernel
theorem dX2_clear_19 : decode cX2_clear 19 = .ok (.iload_n 1, 1) := by decide +kernel
theorem dX2_clear_20 : decode cX2_clear 20 = .ok (.iconst 0, 1) := by decide +kernel
theorem dX2_clear_21 : decode cX2_clear 21 = .ok (.iastore, 1) := by decide +kernel
theorem dX2_clear_22 : decode cX2_clear 22 = .ok (.iinc 1 1, 3) := by decide +kernel
theorem dX2_clear_25 : decode cX2_clear 25 = .ok (.goto (-23), 3) := by decide +kernel
theorem dX2_clear_28 : decode cX2_clear 28 = .ok (.aload_n 0, 1) := by decide +kernel
theorem dX2_clear_29 : decode cX2_clear 29 = .ok (.iconst 0, 1) := by decide +kernel
theorem dX2_clear_30 : decode cX2_clear 30 = .ok (.putfield 63, 3) := by decide +kernel
theorem dX2_clear_33 : decode cX2_clear 33 = .ok (.aload_n 0, 1) := by decide +kernel
theorem dX2_clear_34 : decode cX2_clear 34 = .ok (.iconst 0, 1) := by decide +kernel
theorem dX2_clear_35 : decode cX2_clear 35 = .ok (.putfield 80, 3) := by decide +kernel
theorem dX2_clear_38 : decode cX2_clear 38 = .ok (.aload_n 0, 1) := by decide +kernel
theorem dX2_clear_39 : decode cX2_clear 39 = .ok (.iconst 0, 1) := by decide +kernel
theorem dX2_clear_40 : decode cX2_clear 40 = .ok (.putfield 83, 3) := by decide +kernel
theorem dX2_clear_43 : decode cX2_clear 43 = .ok (.aload_n 0, 1) := by decide +kernel
theorem dX2_clear_44 : decode cX2_clear 44 = .ok (.iconst 0, 1) := by decide +kernel
theorem dX2_clear_45 : decode cX2_clear 45 = .ok (.putfield 86, 3) := by decide +kernel
theorem dX2_clear_48 : decode cX2_clear 48 = .ok (.aload_n 0, 1) := by decide +kernel
theorem dX2_clear_49 : decode cX2_clear 49 = .ok (.iconst 0, 1) := by decide +kernel
theorem dX2_clear_50 : decode cX2_clear 50 = .ok (.putfield 89, 3) := by decide +kernel
theorem dX2_clear_53 : decode cX2_clear 53 = .ok (.aload_n 0, 1) := by decide +kernel
theorem dX2_clear_54 : decode cX2_clear 54 = .ok (.iconst 0, 1) := by decide +kernel
theorem dX2_clear_55 : decode cX2_clear 55 = .ok (.putfield 70, 3) := by decide +kernel
theorem dX2_clear_58 : decode cX2_clear 58 = .ok (.return_, 1) := by decide +kernel
set_option maxRecDepth 20000 in
theorem ggX2_releaseDueJobs_X0_effectivePeriod : GoodIn wsX2_releaseDueJobs wsX0_effectivePeriod := goodIn_r _ [8, 9, 10, 47, 48, 49, 50, 51, 52, 53, 54, 55] (by decide +kernel) (by decide +kernel)
set_option maxRecDepth 20000 in
theorem gX2_releaseDueJobs_X0_effectivePeriod : GoodIn wsX2_releaseDueJobs (wsV RX2 95 RX0 yX0_effectivePeriod wsX0_effectivePeriod) := goodIn_app (goodIn_of _ (by decide +kernel)) ggX2_releaseDueJobs_X0_effectivePeriod
set_option maxRecDepth 20000 in
theorem ggX2_releaseDueJobs_X0_hasHighBudget : GoodIn wsX2_releaseDueJobs wsX0_hasHighBudget := goodIn_r _ [14, 15, 47, 48, 49, 50, 51, 52, 53, 54, 55] (by decide +kernel) (by decide +kernel)
set_option maxRecDepth 20000 in
theorem gX2_releaseDueJobs_X0_hasHighBudget : GoodIn wsX2_releaseDueJobs (wsV RX2 99 RX0 yX0_hasHighBudget wsX0_hasHighBudget) := goodIn_app (goodIn_of _ (by decide +kernel)) ggX2_releaseDueJobs_X0_hasHighBudget
set_option maxRecDepth 20000 in
theorem ggX2_releaseDueJobs_X2_releaseJob : GoodIn wsX2_releaseDueJobs wsX2_releaseJob := goodIn_r _ [20, 1, 21, 22, 23, 24, 11, 12, 13, 7, 14, 15, 25, 26, 27, 19, 28, 29, 30, 31, 32, 33, 34, 35, 36, 37, 38, 39, 40, 41, 42, 43, 44, 45, 46, 47, 48, 49, 50, 51, 52, 53, 54, 55] (by decide +kernel) (by decide +kernel)
set_option maxRecDepth 20000 in
theorem gX2_releaseDueJobs_X2_releaseJob : GoodIn wsX2_releaseDueJobs (wsV RX2 103 RX2 yX2_releaseJob wsX2_releaseJob) := goodIn_app (goodIn_of _ (by decide +kernel)) ggX2_releaseDueJobs_X2_releaseJob
theorem dX2_releaseDueJobs_0 : decode cX2_releaseDueJobs 0 = .ok (.iconst 0, 1) := by decide +kernel
theorem dX2_releaseDueJobs_1 : decode cX2_releaseDueJobs 1 = .ok (.istore_n 2, 1) := by decide +kernel
theorem dX2_releaseDueJobs_2 : decode cX2_releaseDueJobs 2 = .ok (.iload_n 2, 1) := by decide +kernel
theorem dX2_releaseDueJobs_3 : decode cX2_releaseDueJobs 3 = .ok (.aload_n 0, 1) := by decide +kernel
theorem dX2_releaseDueJobs_4 : decode cX2_releaseDueJobs 4 = .ok (.getfield 12, 3) := by decide +kernel
theorem dX2_releaseDueJobs_7 : decode cX2_releaseDueJobs 7 = .ok (.getfield 92, 3) := by decide +kernel
theorem dX2_releaseDueJobs_10 : decode cX2_releaseDueJobs 10 = .ok (.if_icmp .ge 60, 3) := by decide +kernel
theorem dX2_releaseDueJobs_13 : decode cX2_releaseDueJobs 13 = .ok (.iload_n 1, 1) := by decide +kernel
theorem dX2_releaseDueJobs_14 : decode cX2_releaseDueJobs 14 = .ok (.aload_n 0, 1) := by decide +kernel
theorem dX2_releaseDueJobs_15 : decode cX2_releaseDueJobs 15 = .ok (.getfield 12, 3) := by decide +kernel
theorem dX2_releaseDueJobs_18 : decode cX2_releaseDueJobs 18 = .ok (.iload_n 2, 1) := by decide +kernel
theorem dX2_releaseDueJobs_19 : decode cX2_releaseDueJobs 19 = .ok (.invokevirtual 95, 3) := by decide +kernel
theorem dX2_releaseDueJobs_22 : decode cX2_releaseDueJobs 22 = .ok (.irem, 1) := by decide +kernel
theorem dX2_releaseDueJobs_23 : decode cX2_releaseDueJobs 23 = .ok (.ifCond .ne 41, 3) := by decide +kernel
theorem dX2_releaseDueJobs_26 : decode cX2_releaseDueJobs 26 = .ok (.aload_n 0, 1) := by decide +kernel
theorem dX2_releaseDueJobs_27 : decode cX2_releaseDueJobs 27 = .ok (.getfield 63, 3) := by decide +kernel
theorem dX2_releaseDueJobs_30 : decode cX2_releaseDueJobs 30 = .ok (.iconst 1, 1) := by decide +kernel
theorem dX2_releaseDueJobs_31 : decode cX2_releaseDueJobs 31 = .ok (.if_icmp .ne 27, 3) := by decide +kernel
theorem dX2_releaseDueJobs_34 : decode cX2_releaseDueJobs 34 = .ok (.aload_n 0, 1) := by decide +kernel
theorem dX2_releaseDueJobs_35 : decode cX2_releaseDueJobs 35 = .ok (.getfield 12, 3) := by decide +kernel
theorem dX2_releaseDueJobs_38 : decode cX2_releaseDueJobs 38 = .ok (.iload_n 2, 1) := by decide +kernel
theorem dX2_releaseDueJobs_39 : decode cX2_releaseDueJobs 39 = .ok (.invokevirtual 99, 3) := by decide +kernel
theorem dX2_releaseDueJobs_42 : decode cX2_releaseDueJobs 42 = .ok (.ifCond .ne 16, 3) := by decide +kernel
theorem dX2_releaseDueJobs_45 : decode cX2_releaseDueJobs 45 = .ok (.aload_n 0, 1) := by decide +kernel
theorem dX2_releaseDueJobs_46 : decode cX2_releaseDueJobs 46 = .ok (.dup, 1) := by decide +kernel
theorem dX2_releaseDueJobs_47 : decode cX2_releaseDueJobs 47 = .ok (.getfield 86, 3) := by decide +kernel
theorem dX2_releaseDueJobs_50 : decode cX2_releaseDueJobs 50 = .ok (.iconst 1, 1) := by decide +kernel
theorem dX2_releaseDueJobs_51 : decode cX2_releaseDueJobs 51 = .ok (.iadd, 1) := by decide +kernel
theorem dX2_releaseDueJobs_52 : decode cX2_releaseDueJobs 52 = .ok (.putfield 86, 3) := by decide +kernel
theorem dX2_releaseDueJobs_55 : decode cX2_releaseDueJobs 55 = .ok (.goto 9, 3) := by decide +kernel
theorem dX2_releaseDueJobs_58 : decode cX2_releaseDueJobs 58 = .ok (.aload_n 0, 1) := by decide +kernel
theorem dX2_releaseDueJobs_59 : decode cX2_releaseDueJobs 59 = .ok (.iload_n 2, 1) := by decide +kernel
theorem dX2_releaseDueJobs_60 : decode cX2_releaseDueJobs 60 = .ok (.iload_n 1, 1) := by decide +kernel
theorem dX2_releaseDueJobs_61 : decode cX2_releaseDueJobs 61 = .ok (.invokevirtual 103, 3) := by decide +kernel
theorem dX2_releaseDueJobs_64 : decode cX2_releaseDueJobs 64 = .ok (.iinc 2 1, 3) := by decide +kernel
theorem dX2_releaseDueJobs_67 : decode cX2_releaseDueJobs 67 = .ok (.goto (-65), 3) := by decide +kernel
theorem dX2_releaseDueJobs_70 : decode cX2_releaseDueJobs 70 = .ok (.return_, 1) := by decide +kernel
set_option maxRecDepth 20000 in
theorem ggX2_releaseJob_X0_hasHighBudget : GoodIn wsX2_releaseJob wsX0_hasHighBudget := goodIn_r _ [10, 11, 35, 36, 37, 38, 39, 40, 41, 42, 43] (by decide +kernel) (by decide +kernel)
set_option maxRecDepth 20000 in
theorem gX2_releaseJob_X0_hasHighBudget : GoodIn wsX2_releaseJob (wsV RX2 99 RX0 yX0_hasHighBudget wsX0_hasHighBudget) := goodIn_app (goodIn_of _ (by decide +kernel)) ggX2_releaseJob_X0_hasHighBudget
set_option maxRecDepth 20000 in
theorem ggX2_releaseJob_X2_drawOverrun : GoodIn wsX2_releaseJob wsX2_drawOverrun := goodIn_r _ [16, 17, 18, 19, 20, 21, 22, 23, 24, 25, 26, 27, 28, 29, 30, 31, 32, 33, 34] (by decide +kernel) (by decide +kernel)
set_option maxRecDepth 20000 in
theorem gX2_releaseJob_X2_drawOverrun : GoodIn wsX2_releaseJob (wsV RX2 106 RX2 yX2_drawOverrun wsX2_drawOverrun) := goodIn_app (goodIn_of _ (by decide +kernel)) ggX2_releaseJob_X2_drawOverrun
theorem dX2_releaseJob_0 : decode cX2_releaseJob 0 = .ok (.aload_n 0, 1) := by decide +kernel
theorem dX2_releaseJob_1 : decode cX2_releaseJob 1 = .ok (.getfield 12, 3) := by decide +kernel
theorem dX2_releaseJob_4 : decode cX2_releaseJob 4 = .ok (.iload_n 1, 1) := by decide +kernel
theorem dX2_releaseJob_5 : decode cX2_releaseJob 5 = .ok (.invokevirtual 99, 3) := by decide +kernel
theorem dX2_releaseJob_8 : decode cX2_releaseJob 8 = .ok (.ifCond .eq 14, 3) := by decide +kernel
theorem dX2_releaseJob_11 : decode cX2_releaseJob 11 = .ok (.aload_n 0, 1) := by decide +kernel
theorem dX2_releaseJob_12 : decode cX2_releaseJob 12 = .ok (.invokevirtual 106, 3) := by decide +kernel
theorem dX2_releaseJob_15 : decode cX2_releaseJob 15 = .ok (.ifCond .eq 7, 3) := by decide +kernel
theorem dX2_releaseJob_18 : decode cX2_releaseJob 18 = .ok (.iconst 1, 1) := by decide +kernel
theorem dX2_releaseJob_19 : decode cX2_releaseJob 19 = .ok (.goto 4, 3) := by decide +kernel
theorem dX2_releaseJob_22 : decode cX2_releaseJob 22 = .ok (.iconst 0, 1) := by decide +kernel
theorem dX2_releaseJob_23 : decode cX2_releaseJob 23 = .ok (.istore_n 3, 1) := by decide +kernel
theorem dX2_releaseJob_24 : decode cX2_releaseJob 24 = .ok (.aload_n 0, 1) := by decide +kernel
theorem dX2_releaseJob_25 : decode cX2_releaseJob 25 = .ok (.getfield 30, 3) := by decide +kernel
theorem dX2_releaseJob_28 : decode cX2_releaseJob 28 = .ok (.iload_n 1, 1) := by decide +kernel
theorem dX2_releaseJob_29 : decode cX2_releaseJob 29 = .ok (.aaload, 1) := by decide +kernel
theorem dX2_releaseJob_30 : decode cX2_releaseJob 30 = .ok (.iload_n 2, 1) := by decide +kernel
theorem dX2_releaseJob_31 : decode cX2_releaseJob 31 = .ok (.iload_n 3, 1) := by decide +kernel
theorem dX2_releaseJob_32 : decode cX2_releaseJob 32 = .ok (.ifCond .eq 15, 3) := by decide +kernel
theorem dX2_releaseJob_35 : decode cX2_releaseJob 35 = .ok (.aload_n 0, 1) := by decide +kernel
theorem dX2_releaseJob_36 : decode cX2_releaseJob 36 = .ok (.getfield 12, 3) := by decide +kernel
theorem dX2_releaseJob_39 : decode cX2_releaseJob 39 = .ok (.getfield 110, 3) := by decide +kernel
theorem dX2_releaseJob_42 : decode cX2_releaseJob 42 = .ok (.iload_n 1, 1) := by decide +kernel
theorem dX2_releaseJob_43 : decode cX2_releaseJob 43 = .ok (.iaload, 1) := by decide +kernel
theorem dX2_releaseJob_44 : decode cX2_releaseJob 44 = .ok (.goto 12, 3) := by decide +kernel
theorem dX2_releaseJob_47 : decode cX2_releaseJob 47 = .ok (.aload_n 0, 1) := by decide +kernel
theorem dX2_releaseJob_48 : decode cX2_releaseJob 48 = .ok (.getfield 12, 3) := by decide +kernel
theorem dX2_releaseJob_51 : decode cX2_releaseJob 51 = .ok (.getfield 113, 3) := by decide +kernel
theorem dX2_releaseJob_54 : decode cX2_releaseJob 54 = .ok (.iload_n 1, 1) := by decide +kernel
theorem dX2_releaseJob_55 : decode cX2_releaseJob 55 = .ok (.iaload, 1) := by decide +kernel
theorem dX2_releaseJob_56 : decode cX2_releaseJob 56 = .ok (.iastore, 1) := by decide +kernel
theorem dX2_releaseJob_57 : decode cX2_releaseJob 57 = .ok (.aload_n 0, 1) := by decide +kernel
theorem dX2_releaseJob_58 : decode cX2_releaseJob 58 = .ok (.getfield 18, 3) := by decide +kernel
theorem dX2_releaseJob_61 : decode cX2_releaseJob 61 = .ok (.iload_n 1, 1) := by decide +kernel
theorem dX2_releaseJob_62 : decode cX2_releaseJob 62 = .ok (.iaload, 1) := by decide +kernel
theorem dX2_releaseJob_63 : decode cX2_releaseJob 63 = .ok (.ifCond .ne 17, 3) := by decide +kernel
theorem dX2_releaseJob_66 : decode cX2_releaseJob 66 = .ok (.aload_n 0, 1) := by decide +kernel
theorem dX2_releaseJob_67 : decode cX2_releaseJob 67 = .ok (.getfield 22, 3) := by decide +kernel
theorem dX2_releaseJob_70 : decode cX2_releaseJob 70 = .ok (.iload_n 1, 1) := by decide +kernel
theorem dX2_releaseJob_71 : decode cX2_releaseJob 71 = .ok (.iload_n 2, 1) := by decide +kernel
theorem dX2_releaseJob_72 : decode cX2_releaseJob 72 = .ok (.iastore, 1) := by decide +kernel
theorem dX2_releaseJob_73 : decode cX2_releaseJob 73 = .ok (.aload_n 0, 1) := by decide +kernel
theorem dX2_releaseJob_74 : decode cX2_releaseJob 74 = .ok (.getfield 25, 3) := by decide +kernel
theorem dX2_releaseJob_77 : decode cX2_releaseJob 77 = .ok (.iload_n 1, 1) := by decide +kernel
theorem dX2_releaseJob_78 : decode cX2_releaseJob 78 = .ok (.iconst 0, 1) := by decide +kernel
theorem dX2_releaseJob_79 : decode cX2_releaseJob 79 = .ok (.iastore, 1) := by decide +kernel
theorem dX2_releaseJob_80 : decode cX2_releaseJob 80 = .ok (.aload_n 0, 1) := by decide +kernel
theorem dX2_releaseJob_81 : decode cX2_releaseJob 81 = .ok (.getfield 18, 3) := by decide +kernel
theorem dX2_releaseJob_84 : decode cX2_releaseJob 84 = .ok (.iload_n 1, 1) := by decide +kernel
theorem dX2_releaseJob_85 : decode cX2_releaseJob 85 = .ok (.dup2, 1) := by decide +kernel
theorem dX2_releaseJob_86 : decode cX2_releaseJob 86 = .ok (.iaload, 1) := by decide +kernel
theorem dX2_releaseJob_87 : decode cX2_releaseJob 87 = .ok (.iconst 1, 1) := by decide +kernel
theorem dX2_releaseJob_88 : decode cX2_releaseJob 88 = .ok (.iadd, 1) := by decide +kernel
theorem dX2_releaseJob_89 : decode cX2_releaseJob 89 = .ok (.iastore, 1) := by decide +kernel
theorem dX2_releaseJob_90 : decode cX2_releaseJob 90 = .ok (.return_, 1) := by decide +kernel
theorem dX2_drawOverrun_0 : decode cX2_drawOverrun 0 = .ok (.aload_n 0, 1) := by decide +kernel
theorem dX2_drawOverrun_1 : decode cX2_drawOverrun 1 = .ok (.aload_n 0, 1) := by decide +kernel
theorem dX2_drawOverrun_2 : decode cX2_drawOverrun 2 = .ok (.getfield 43, 3) := by decide +kernel
theorem dX2_drawOverrun_5 : decode cX2_drawOverrun 5 = .ok (.ldc 116, 2) := by decide +kernel
theorem dX2_drawOverrun_7 : decode cX2_drawOverrun 7 = .ok (.imul, 1) := by decide +kernel
theorem dX2_drawOverrun_8 : decode cX2_drawOverrun 8 = .ok (.sipush 12345, 3) := by decide +kernel
theorem dX2_drawOverrun_11 : decode cX2_drawOverrun 11 = .ok (.iadd, 1) := by decide +kernel
theorem dX2_drawOverrun_12 : decode cX2_drawOverrun 12 = .ok (.putfield 43, 3) := by decide +kernel
theorem dX2_drawOverrun_15 : decode cX2_drawOverrun 15 = .ok (.aload_n 0, 1) := by decide +kernel
theorem dX2_drawOverrun_16 : decode cX2_drawOverrun 16 = .ok (.getfield 43, 3) := by decide +kernel
theorem dX2_drawOverrun_19 : decode cX2_drawOverrun 19 = .ok (.bipush 16, 2) := by decide +kernel
theorem dX2_drawOverrun_21 : decode cX2_drawOverrun 21 = .ok (.iushr, 1) := by decide +kernel
theorem dX2_drawOverrun_22 : decode cX2_drawOverrun 22 = .ok (.bipush 100, 2) := by decide +kernel
theorem dX2_drawOverrun_24 : decode cX2_drawOverrun 24 = .ok (.irem, 1) := by decide +kernel
theorem dX2_drawOverrun_25 : decode cX2_drawOverrun 25 = .ok (.aload_n 0, 1) := by decide +kernel
theorem dX2_drawOverrun_26 : decode cX2_drawOverrun 26 = .ok (.getfield 47, 3) := by decide +kernel
theorem dX2_drawOverrun_29 : decode cX2_drawOverrun 29 = .ok (.if_icmp .ge 7, 3) := by decide +kernel
theorem dX2_drawOverrun_32 : decode cX2_drawOverrun 32 = .ok (.iconst 1, 1) := by decide +kernel
theorem dX2_drawOverrun_33 : decode cX2_drawOverrun 33 = .ok (.goto 4, 3) := by decide +kernel
theorem dX2_drawOverrun_36 : decode cX2_drawOverrun 36 = .ok (.iconst 0, 1) := by decide +kernel
theorem dX2_drawOverrun_37 : decode cX2_drawOverrun 37 = .ok (.ireturn, 1) := by decide +kernel
set_option maxRecDepth 20000 in
theorem ggX2_earliestTask_X2_effectiveDeadline : GoodIn wsX2_earliestTask wsX2_effectiveDeadline := goodIn_r _ [7, 8, 1, 9, 10, 11, 12, 13, 14, 15, 16, 17, 18, 19, 20, 21, 22, 23, 24, 25, 26, 27, 28, 29, 30, 31, 32, 33, 34, 35, 36, 37, 38, 39, 40, 41] (by decide +kernel) (by decide +kernel)
set_option maxRecDepth 20000 in
theorem gX2_earliestTask_X2_effectiveDeadline : GoodIn wsX2_earliestTask (wsV RX2 117 RX2 yX2_effectiveDeadline wsX2_effectiveDeadline) := goodIn_app (goodIn_of _ (by decide +kernel)) ggX2_earliestTask_X2_effectiveDeadline
theorem dX2_earliestTask_0 : decode cX2_earliestTask 0 = .ok (.iconst (-1), 1) := by decide +kernel
theorem dX2_earliestTask_1 : decode cX2_earliestTask 1 = .ok (.istore_n 1, 1) := by decide +kernel
theorem dX2_earliestTask_2 : decode cX2_earliestTask 2 = .ok (.iconst 0, 1) := by decide +kernel
theorem dX2_earliestTask_3 : decode cX2_earliestTask 3 = .ok (.istore_n 2, 1) := by decide +kernel
theorem dX2_earliestTask_4 : decode cX2_earliestTask 4 = .ok (.iconst 0, 1) := by decide +kernel
theorem dX2_earliestTask_5 : decode cX2_earliestTask 5 = .ok (.istore_n 3, 1) := by decide +kernel
theorem dX2_earliestTask_6 : decode cX2_earliestTask 6 = .ok (.iload_n 3, 1) := by decide +kernel
theorem dX2_earliestTask_7 : decode cX2_earliestTask 7 = .ok (.aload_n 0, 1) := by decide +kernel
theorem dX2_earliestTask_8 : decode cX2_earliestTask 8 = .ok (.getfield 12, 3) := by decide +kernel
theorem dX2_earliestTask_11 : decode cX2_earliestTask 11 = .ok (.getfield 92, 3) := by decide +kernel
theorem dX2_earliestTask_14 : decode cX2_earliestTask 14 = .ok (.if_icmp .ge 40, 3) := by decide +kernel
theorem dX2_earliestTask_17 : decode cX2_earliestTask 17 = .ok (.aload_n 0, 1) := by decide +kernel
theorem dX2_earliestTask_18 : decode cX2_earliestTask 18 = .ok (.getfield 18, 3) := by decide +kernel
theorem dX2_earliestTask_21 : decode cX2_earliestTask 21 = .ok (.iload_n 3, 1) := by decide +kernel
theorem dX2_earliestTask_22 : decode cX2_earliestTask 22 = .ok (.iaload, 1) := by decide +kernel
theorem dX2_earliestTask_23 : decode cX2_earliestTask 23 = .ok (.ifCond .le 25, 3) := by decide +kernel
theorem dX2_earliestTask_26 : decode cX2_earliestTask 26 = .ok (.aload_n 0, 1) := by decide +kernel
theorem dX2_earliestTask_27 : decode cX2_earliestTask 27 = .ok (.iload_n 3, 1) := by decide +kernel
theorem dX2_earliestTask_28 : decode cX2_earliestTask 28 = .ok (.invokevirtual 117, 3) := by decide +kernel
theorem dX2_earliestTask_31 : decode cX2_earliestTask 31 = .ok (.istore 4, 2) := by decide +kernel
theorem dX2_earliestTask_33 : decode cX2_earliestTask 33 = .ok (.iload_n 1, 1) := by decide +kernel
theorem dX2_earliestTask_34 : decode cX2_earliestTask 34 = .ok (.ifCond .lt 9, 3) := by decide +kernel
theorem dX2_earliestTask_37 : decode cX2_earliestTask 37 = .ok (.iload 4, 2) := by decide +kernel
theorem dX2_earliestTask_39 : decode cX2_earliestTask 39 = .ok (.iload_n 2, 1) := by decide +kernel
theorem dX2_earliestTask_40 : decode cX2_earliestTask 40 = .ok (.if_icmp .ge 8, 3) := by decide +kernel
theorem dX2_earliestTask_43 : decode cX2_earliestTask 43 = .ok (.iload_n 3, 1) := by decide +kernel
theorem dX2_earliestTask_44 : decode cX2_earliestTask 44 = .ok (.istore_n 1, 1) := by decide +kernel
theorem dX2_earliestTask_45 : decode cX2_earliestTask 45 = .ok (.iload 4, 2) := by decide +kernel
theorem dX2_earliestTask_47 : decode cX2_earliestTask 47 = .ok (.istore_n 2, 1) := by decide +kernel
theorem dX2_earliestTask_48 : decode cX2_earliestTask 48 = .ok (.iinc 3 1, 3) := by decide +kernel
theorem dX2_earliestTask_51 : decode cX2_earliestTask 51 = .ok (.goto (-45), 3) := by decide +kernel
theorem dX2_earliestTask_54 : decode cX2_earliestTask 54 = .ok (.iload_n 1, 1) := by decide +kernel
theorem dX2_earliestTask_55 : decode cX2_earliestTask 55 = .ok (.ireturn, 1) := by decide +kernel
set_option maxRecDepth 20000 in
theorem ggX2_effectiveDeadline_X0_deadlineWithScale : GoodIn wsX2_effectiveDeadline wsX0_deadlineWithScale := goodIn_r _ [8, 9, 10, 11, 27, 28, 29, 30, 31, 32, 33, 34, 35] (by decide +kernel) (by decide +kernel)
set_option maxRecDepth 20000 in
theorem gX2_effectiveDeadline_X0_deadlineWithScale : GoodIn wsX2_effectiveDeadline (wsV RX2 123 RX0 yX0_deadlineWithScale wsX0_deadlineWithScale) := goodIn_app (goodIn_of _ (by decide +kernel)) ggX2_effectiveDeadline_X0_deadlineWithScale
theorem dX2_effectiveDeadline_0 : decode cX2_effectiveDeadline 0 = .ok (.aload_n 0, 1) := by decide +kernel
theorem dX2_effectiveDeadline_1 : decode cX2_effectiveDeadline 1 = .ok (.getfield 63, 3) := by decide +kernel
theorem dX2_effectiveDeadline_4 : decode cX2_effectiveDeadline 4 = .ok (.ifCond .ne 21, 3) := by decide +kernel
theorem dX2_effectiveDeadline_7 : decode cX2_effectiveDeadline 7 = .ok (.aload_n 0, 1) := by decide +kernel
theorem dX2_effectiveDeadline_8 : decode cX2_effectiveDeadline 8 = .ok (.getfield 12, 3) := by decide +kernel
theorem dX2_effectiveDeadline_11 : decode cX2_effectiveDeadline 11 = .ok (.iload_n 1, 1) := by decide +kernel
theorem dX2_effectiveDeadline_12 : decode cX2_effectiveDeadline 12 = .ok (.aload_n 0, 1) := by decide +kernel
theorem dX2_effectiveDeadline_13 : decode cX2_effectiveDeadline 13 = .ok (.getfield 12, 3) := by decide +kernel
theorem dX2_effectiveDeadline_16 : decode cX2_effectiveDeadline 16 = .ok (.getfield 120, 3) := by decide +kernel
theorem dX2_effectiveDeadline_19 : decode cX2_effectiveDeadline 19 = .ok (.invokevirtual 123, 3) := by decide +kernel
theorem dX2_effectiveDeadline_22 : decode cX2_effectiveDeadline 22 = .ok (.goto 12, 3) := by decide +kernel
theorem dX2_effectiveDeadline_25 : decode cX2_effectiveDeadline 25 = .ok (.aload_n 0, 1) := by decide +kernel
theorem dX2_effectiveDeadline_26 : decode cX2_effectiveDeadline 26 = .ok (.getfield 12, 3) := by decide +kernel
theorem dX2_effectiveDeadline_29 : decode cX2_effectiveDeadline 29 = .ok (.getfield 126, 3) := by decide +kernel
theorem dX2_effectiveDeadline_32 : decode cX2_effectiveDeadline 32 = .ok (.iload_n 1, 1) := by decide +kernel
theorem dX2_effectiveDeadline_33 : decode cX2_effectiveDeadline 33 = .ok (.iaload, 1) := by decide +kernel
theorem dX2_effectiveDeadline_34 : decode cX2_effectiveDeadline 34 = .ok (.istore_n 2, 1) := by decide +kernel
theorem dX2_effectiveDeadline_35 : decode cX2_effectiveDeadline 35 = .ok (.aload_n 0, 1) := by decide +kernel
theorem dX2_effectiveDeadline_36 : decode cX2_effectiveDeadline 36 = .ok (.getfield 22, 3) := by decide +kernel
theorem dX2_effectiveDeadline_39 : decode cX2_effectiveDeadline 39 = .ok (.iload_n 1, 1) := by decide +kernel
theorem dX2_effectiveDeadline_40 : decode cX2_effectiveDeadline 40 = .ok (.iaload, 1) := by decide +kernel
theorem dX2_effectiveDeadline_41 : decode cX2_effectiveDeadline 41 = .ok (.iload_n 2, 1) := by decide +kernel
theorem dX2_effectiveDeadline_42 : decode cX2_effectiveDeadline 42 = .ok (.iadd, 1) := by decide +kernel
theorem dX2_effectiveDeadline_43 : decode cX2_effectiveDeadline 43 = .ok (.ireturn, 1) := by decide +kernel
set_option maxRecDepth 20000 in
theorem ggX2_runOldestJob_X2_completeOldestJob : GoodIn wsX2_runOldestJob wsX2_completeOldestJob := goodIn_r _ [11, 3, 12, 13, 14, 15, 16, 17, 5, 18, 1, 19, 20, 21, 10, 22, 23, 24, 25, 26, 27, 28, 29, 30, 31, 42, 43, 44, 45, 46, 47, 48, 49, 50, 51, 52, 53, 54, 55, 56, 57, 58, 59, 60, 61, 62, 63, 64, 65] (by decide +kernel) (by decide +kernel)
set_option maxRecDepth 20000 in
theorem gX2_runOldestJob_X2_completeOldestJob : GoodIn wsX2_runOldestJob (wsV RX2 129 RX2 yX2_completeOldestJob wsX2_completeOldestJob) := goodIn_app (goodIn_of _ (by decide +kernel)) ggX2_runOldestJob_X2_completeOldestJob
set_option maxRecDepth 20000 in
theorem ggX2_runOldestJob_X0_hasHighBudget : GoodIn wsX2_runOldestJob wsX0_hasHighBudget := goodIn_r _ [35, 36, 57, 58, 59, 60, 61, 62, 63, 64, 65] (by decide +kernel) (by decide +kernel)
set_option maxRecDepth 20000 in
theorem gX2_runOldestJob_X0_hasHighBudget : GoodIn wsX2_runOldestJob (wsV RX2 99 RX0 yX0_hasHighBudget wsX0_hasHighBudget) := goodIn_app (goodIn_of _ (by decide +kernel)) ggX2_runOldestJob_X0_hasHighBudget
set_option maxRecDepth 20000 in
theorem ggX2_runOldestJob_X2_dropPendingJobs : GoodIn wsX2_runOldestJob wsX2_dropPendingJobs := goodIn_r _ [40, 5, 41, 18, 32, 33, 34, 28, 35, 36, 42, 43, 44, 45, 46, 47, 48, 49, 50, 51, 52, 53, 54, 55, 56, 57, 58, 59, 60, 61, 62, 63, 64, 65] (by decide +kernel) (by decide +kernel)
set_option maxRecDepth 20000 in
theorem gX2_runOldestJob_X2_dropPendingJobs : GoodIn wsX2_runOldestJob (wsV RX2 132 RX2 yX2_dropPendingJobs wsX2_dropPendingJobs) := goodIn_app (goodIn_of _ (by decide +kernel)) ggX2_runOldestJob_X2_dropPendingJobs
theorem dX2_runOldestJob_0 : decode cX2_runOldestJob 0 = .ok (.aload_n 0, 1) := by decide +kernel
theorem dX2_runOldestJob_1 : decode cX2_runOldestJob 1 = .ok (.getfield 25, 3) := by decide +kernel
theorem dX2_runOldestJob_4 : decode cX2_runOldestJob 4 = .ok (.iload_n 1, 1) := by decide +kernel
theorem dX2_runOldestJob_5 : decode cX2_runOldestJob 5 = .ok (.dup2, 1) := by decide +kernel
theorem dX2_runOldestJob_6 : decode cX2_runOldestJob 6 = .ok (.iaload, 1) := by decide +kernel
theorem dX2_runOldestJob_7 : decode cX2_runOldestJob 7 = .ok (.iconst 1, 1) := by decide +kernel
theorem dX2_runOldestJob_8 : decode cX2_runOldestJob 8 = .ok (.iadd, 1) := by decide +kernel
theorem dX2_runOldestJob_9 : decode cX2_runOldestJob 9 = .ok (.iastore, 1) := by decide +kernel
theorem dX2_runOldestJob_10 : decode cX2_runOldestJob 10 = .ok (.aload_n 0, 1) := by decide +kernel
theorem dX2_runOldestJob_11 : decode cX2_runOldestJob 11 = .ok (.getfield 25, 3) := by decide +kernel
theorem dX2_runOldestJob_14 : decode cX2_runOldestJob 14 = .ok (.iload_n 1, 1) := by decide +kernel
theorem dX2_runOldestJob_15 : decode cX2_runOldestJob 15 = .ok (.iaload, 1) := by decide +kernel
theorem dX2_runOldestJob_16 : decode cX2_runOldestJob 16 = .ok (.aload_n 0, 1) := by decide +kernel
theorem dX2_runOldestJob_17 : decode cX2_runOldestJob 17 = .ok (.getfield 30, 3) := by decide +kernel
theorem dX2_runOldestJob_20 : decode cX2_runOldestJob 20 = .ok (.iload_n 1, 1) := by decide +kernel
theorem dX2_runOldestJob_21 : decode cX2_runOldestJob 21 = .ok (.aaload, 1) := by decide +kernel
theorem dX2_runOldestJob_22 : decode cX2_runOldestJob 22 = .ok (.aload_n 0, 1) := by decide +kernel
theorem dX2_runOldestJob_23 : decode cX2_runOldestJob 23 = .ok (.getfield 22, 3) := by decide +kernel
theorem dX2_runOldestJob_26 : decode cX2_runOldestJob 26 = .ok (.iload_n 1, 1) := by decide +kernel
theorem dX2_runOldestJob_27 : decode cX2_runOldestJob 27 = .ok (.iaload, 1) := by decide +kernel
theorem dX2_runOldestJob_28 : decode cX2_runOldestJob 28 = .ok (.iaload, 1) := by decide +kernel
theorem dX2_runOldestJob_29 : decode cX2_runOldestJob 29 = .ok (.if_icmp .ne 14, 3) := by decide +kernel
theorem dX2_runOldestJob_32 : decode cX2_runOldestJob 32 = .ok (.aload_n 0, 1) := by decide +kernel
theorem dX2_runOldestJob_33 : decode cX2_runOldestJob 33 = .ok (.iload_n 1, 1) := by decide +kernel
theorem dX2_runOldestJob_34 : decode cX2_runOldestJob 34 = .ok (.iload_n 2, 1) := by decide +kernel
theorem dX2_runOldestJob_35 : decode cX2_runOldestJob 35 = .ok (.iconst 1, 1) := by decide +kernel
theorem dX2_runOldestJob_36 : decode cX2_runOldestJob 36 = .ok (.iadd, 1) := by decide +kernel
theorem dX2_runOldestJob_37 : decode cX2_runOldestJob 37 = .ok (.invokevirtual 129, 3) := by decide +kernel
theorem dX2_runOldestJob_40 : decode cX2_runOldestJob 40 = .ok (.goto 58, 3) := by decide +kernel
theorem dX2_runOldestJob_43 : decode cX2_runOldestJob 43 = .ok (.aload_n 0, 1) := by decide +kernel
theorem dX2_runOldestJob_44 : decode cX2_runOldestJob 44 = .ok (.getfield 63, 3) := by decide +kernel
theorem dX2_runOldestJob_47 : decode cX2_runOldestJob 47 = .ok (.ifCond .ne 51, 3) := by decide +kernel
theorem dX2_runOldestJob_50 : decode cX2_runOldestJob 50 = .ok (.aload_n 0, 1) := by decide +kernel
theorem dX2_runOldestJob_51 : decode cX2_runOldestJob 51 = .ok (.getfield 12, 3) := by decide +kernel
theorem dX2_runOldestJob_54 : decode cX2_runOldestJob 54 = .ok (.iload_n 1, 1) := by decide +kernel
theorem dX2_runOldestJob_55 : decode cX2_runOldestJob 55 = .ok (.invokevirtual 99, 3) := by decide +kernel
theorem dX2_runOldestJob_58 : decode cX2_runOldestJob 58 = .ok (.ifCond .eq 40, 3) := by decide +kernel
theorem dX2_runOldestJob_61 : decode cX2_runOldestJob 61 = .ok (.aload_n 0, 1) := by decide +kernel
theorem dX2_runOldestJob_62 : decode cX2_runOldestJob 62 = .ok (.getfield 25, 3) := by decide +kernel
theorem dX2_runOldestJob_65 : decode cX2_runOldestJob 65 = .ok (.iload_n 1, 1) := by decide +kernel
theorem dX2_runOldestJob_66 : decode cX2_runOldestJob 66 = .ok (.iaload, 1) := by decide +kernel
theorem dX2_runOldestJob_67 : decode cX2_runOldestJob 67 = .ok (.aload_n 0, 1) := by decide +kernel
theorem dX2_runOldestJob_68 : decode cX2_runOldestJob 68 = .ok (.getfield 12, 3) := by decide +kernel
theorem dX2_runOldestJob_71 : decode cX2_runOldestJob 71 = .ok (.getfield 113, 3) := by decide +kernel
theorem dX2_runOldestJob_74 : decode cX2_runOldestJob 74 = .ok (.iload_n 1, 1) := by decide +kernel
theorem dX2_runOldestJob_75 : decode cX2_runOldestJob 75 = .ok (.iaload, 1) := by decide +kernel
theorem dX2_runOldestJob_76 : decode cX2_runOldestJob 76 = .ok (.if_icmp .ne 22, 3) := by decide +kernel
theorem dX2_runOldestJob_79 : decode cX2_runOldestJob 79 = .ok (.aload_n 0, 1) := by decide +kernel
theorem dX2_runOldestJob_80 : decode cX2_runOldestJob 80 = .ok (.iconst 1, 1) := by decide +kernel
theorem dX2_runOldestJob_81 : decode cX2_runOldestJob 81 = .ok (.putfield 63, 3) := by decide +kernel
theorem dX2_runOldestJob_84 : decode cX2_runOldestJob 84 = .ok (.aload_n 0, 1) := by decide +kernel
theorem dX2_runOldestJob_85 : decode cX2_runOldestJob 85 = .ok (.dup, 1) := by decide +kernel
theorem dX2_runOldestJob_86 : decode cX2_runOldestJob 86 = .ok (.getfield 89, 3) := by decide +kernel
theorem dX2_runOldestJob_89 : decode cX2_runOldestJob 89 = .ok (.iconst 1, 1) := by decide +kernel
theorem dX2_runOldestJob_90 : decode cX2_runOldestJob 90 = .ok (.iadd, 1) := by decide +kernel
theorem dX2_runOldestJob_91 : decode cX2_runOldestJob 91 = .ok (.putfield 89, 3) := by decide +kernel
theorem dX2_runOldestJob_94 : decode cX2_runOldestJob 94 = .ok (.aload_n 0, 1) := by decide +kernel
theorem dX2_runOldestJob_95 : decode cX2_runOldestJob 95 = .ok (.invokevirtual 132, 3) := by decide +kernel
theorem dX2_runOldestJob_98 : decode cX2_runOldestJob 98 = .ok (.return_, 1) := by decide +kernel
set_option maxRecDepth 20000 in
theorem ggX2_completeOldestJob_X2_countLateJob : GoodIn wsX2_completeOldestJob wsX2_countLateJob := goodIn_r _ [15, 8, 16, 17, 25, 26, 27, 28, 29, 30, 31, 32, 33, 34, 35, 36, 37, 38, 39, 40, 41, 42, 43, 44, 45, 46, 47, 48] (by decide +kernel) (by decide +kernel)
set_option maxRecDepth 20000 in
theorem gX2_completeOldestJob_X2_countLateJob : GoodIn wsX2_completeOldestJob (wsV RX2 138 RX2 yX2_countLateJob wsX2_countLateJob) := goodIn_app (goodIn_of _ (by decide +kernel)) ggX2_completeOldestJob_X2_countLateJob
set_option maxRecDepth 20000 in
theorem ggX2_completeOldestJob_X0_effectivePeriod : GoodIn wsX2_completeOldestJob wsX0_effectivePeriod := goodIn_r _ [22, 23, 24, 40, 41, 42, 43, 44, 45, 46, 47, 48] (by decide +kernel) (by decide +kernel)
set_option maxRecDepth 20000 in
theorem gX2_completeOldestJob_X0_effectivePeriod : GoodIn wsX2_completeOldestJob (wsV RX2 95 RX0 yX0_effectivePeriod wsX0_effectivePeriod) := goodIn_app (goodIn_of _ (by decide +kernel)) ggX2_completeOldestJob_X0_effectivePeriod
theorem dX2_completeOldestJob_0 : decode cX2_completeOldestJob 0 = .ok (.iload_n 2, 1) := by decide +kernel
theorem dX2_completeOldestJob_1 : decode cX2_completeOldestJob 1 = .ok (.aload_n 0, 1) := by decide +kernel
theorem dX2_completeOldestJob_2 : decode cX2_completeOldestJob 2 = .ok (.getfield 22, 3) := by decide +kernel
theorem dX2_completeOldestJob_5 : decode cX2_completeOldestJob 5 = .ok (.iload_n 1, 1) := by decide +kernel
theorem dX2_completeOldestJob_6 : decode cX2_completeOldestJob 6 = .ok (.iaload, 1) := by decide +kernel
theorem dX2_completeOldestJob_7 : decode cX2_completeOldestJob 7 = .ok (.isub, 1) := by decide +kernel
theorem dX2_completeOldestJob_8 : decode cX2_completeOldestJob 8 = .ok (.istore_n 3, 1) := by decide +kernel
theorem dX2_completeOldestJob_9 : decode cX2_completeOldestJob 9 = .ok (.aload_n 0, 1) := by decide +kernel
theorem dX2_completeOldestJob_10 : decode cX2_completeOldestJob 10 = .ok (.getfield 33, 3) := by decide +kernel
theorem dX2_completeOldestJob_13 : decode cX2_completeOldestJob 13 = .ok (.iload_n 1, 1) := by decide +kernel
theorem dX2_completeOldestJob_14 : decode cX2_completeOldestJob 14 = .ok (.aload_n 0, 1) := by decide +kernel
theorem dX2_completeOldestJob_15 : decode cX2_completeOldestJob 15 = .ok (.getfield 33, 3) := by decide +kernel
theorem dX2_completeOldestJob_18 : decode cX2_completeOldestJob 18 = .ok (.iload_n 1, 1) := by decide +kernel
theorem dX2_completeOldestJob_19 : decode cX2_completeOldestJob 19 = .ok (.iaload, 1) := by decide +kernel
theorem dX2_completeOldestJob_20 : decode cX2_completeOldestJob 20 = .ok (.iload_n 3, 1) := by decide +kernel
theorem dX2_completeOldestJob_21 : decode cX2_completeOldestJob 21 = .ok (.invokestatic 135, 3) := by decide +kernel
theorem dX2_completeOldestJob_24 : decode cX2_completeOldestJob 24 = .ok (.iastore, 1) := by decide +kernel
theorem dX2_completeOldestJob_25 : decode cX2_completeOldestJob 25 = .ok (.aload_n 0, 1) := by decide +kernel
theorem dX2_completeOldestJob_26 : decode cX2_completeOldestJob 26 = .ok (.dup, 1) := by decide +kernel
theorem dX2_completeOldestJob_27 : decode cX2_completeOldestJob 27 = .ok (.getfield 83, 3) := by decide +kernel
theorem dX2_completeOldestJob_30 : decode cX2_completeOldestJob 30 = .ok (.iconst 1, 1) := by decide +kernel
theorem dX2_completeOldestJob_31 : decode cX2_completeOldestJob 31 = .ok (.iadd, 1) := by decide +kernel
theorem dX2_completeOldestJob_32 : decode cX2_completeOldestJob 32 = .ok (.putfield 83, 3) := by decide +kernel
theorem dX2_completeOldestJob_35 : decode cX2_completeOldestJob 35 = .ok (.iload_n 3, 1) := by decide +kernel
theorem dX2_completeOldestJob_36 : decode cX2_completeOldestJob 36 = .ok (.aload_n 0, 1) := by decide +kernel
theorem dX2_completeOldestJob_37 : decode cX2_completeOldestJob 37 = .ok (.getfield 12, 3) := by decide +kernel
theorem dX2_completeOldestJob_40 : decode cX2_completeOldestJob 40 = .ok (.getfield 126, 3) := by decide +kernel
theorem dX2_completeOldestJob_43 : decode cX2_completeOldestJob 43 = .ok (.iload_n 1, 1) := by decide +kernel
theorem dX2_completeOldestJob_44 : decode cX2_completeOldestJob 44 = .ok (.iaload, 1) := by decide +kernel
theorem dX2_completeOldestJob_45 : decode cX2_completeOldestJob 45 = .ok (.if_icmp .le 14, 3) := by decide +kernel
theorem dX2_completeOldestJob_48 : decode cX2_completeOldestJob 48 = .ok (.aload_n 0, 1) := by decide +kernel
theorem dX2_completeOldestJob_49 : decode cX2_completeOldestJob 49 = .ok (.iload_n 1, 1) := by decide +kernel
theorem dX2_completeOldestJob_50 : decode cX2_completeOldestJob 50 = .ok (.aload_n 0, 1) := by decide +kernel
theorem dX2_completeOldestJob_51 : decode cX2_completeOldestJob 51 = .ok (.getfield 22, 3) := by decide +kernel
theorem dX2_completeOldestJob_54 : decode cX2_completeOldestJob 54 = .ok (.iload_n 1, 1) := by decide +kernel
theorem dX2_completeOldestJob_55 : decode cX2_completeOldestJob 55 = .ok (.iaload, 1) := by decide +kernel
theorem dX2_completeOldestJob_56 : decode cX2_completeOldestJob 56 = .ok (.invokevirtual 138, 3) := by decide +kernel
theorem dX2_completeOldestJob_59 : decode cX2_completeOldestJob 59 = .ok (.aload_n 0, 1) := by decide +kernel
theorem dX2_completeOldestJob_60 : decode cX2_completeOldestJob 60 = .ok (.getfield 18, 3) := by decide +kernel
theorem dX2_completeOldestJob_63 : decode cX2_completeOldestJob 63 = .ok (.iload_n 1, 1) := by decide +kernel
theorem dX2_completeOldestJob_64 : decode cX2_completeOldestJob 64 = .ok (.dup2, 1) := by decide +kernel
theorem dX2_completeOldestJob_65 : decode cX2_completeOldestJob 65 = .ok (.iaload, 1) := by decide +kernel
theorem dX2_completeOldestJob_66 : decode cX2_completeOldestJob 66 = .ok (.iconst 1, 1) := by decide +kernel
theorem dX2_completeOldestJob_67 : decode cX2_completeOldestJob 67 = .ok (.isub, 1) := by decide +kernel
theorem dX2_completeOldestJob_68 : decode cX2_completeOldestJob 68 = .ok (.iastore, 1) := by decide +kernel
theorem dX2_completeOldestJob_69 : decode cX2_completeOldestJob 69 = .ok (.aload_n 0, 1) := by decide +kernel
theorem dX2_completeOldestJob_70 : decode cX2_completeOldestJob 70 = .ok (.getfield 22, 3) := by decide +kernel
theorem dX2_completeOldestJob_73 : decode cX2_completeOldestJob 73 = .ok (.iload_n 1, 1) := by decide +kernel
theorem dX2_completeOldestJob_74 : decode cX2_completeOldestJob 74 = .ok (.dup2, 1) := by decide +kernel
theorem dX2_completeOldestJob_75 : decode cX2_completeOldestJob 75 = .ok (.iaload, 1) := by decide +kernel
theorem dX2_completeOldestJob_76 : decode cX2_completeOldestJob 76 = .ok (.aload_n 0, 1) := by decide +kernel
theorem dX2_completeOldestJob_77 : decode cX2_completeOldestJob 77 = .ok (.getfield 12, 3) := by decide +kernel
theorem dX2_completeOldestJob_80 : decode cX2_completeOldestJob 80 = .ok (.iload_n 1, 1) := by decide +kernel
theorem dX2_completeOldestJob_81 : decode cX2_completeOldestJob 81 = .ok (.invokevirtual 95, 3) := by decide +kernel
theorem dX2_completeOldestJob_84 : decode cX2_completeOldestJob 84 = .ok (.iadd, 1) := by decide +kernel
theorem dX2_completeOldestJob_85 : decode cX2_completeOldestJob 85 = .ok (.iastore, 1) := by decide +kernel
theorem dX2_completeOldestJob_86 : decode cX2_completeOldestJob 86 = .ok (.aload_n 0, 1) := by decide +kernel
theorem dX2_completeOldestJob_87 : decode cX2_completeOldestJob 87 = .ok (.getfield 25, 3) := by decide +kernel
theorem dX2_completeOldestJob_90 : decode cX2_completeOldestJob 90 = .ok (.iload_n 1, 1) := by decide +kernel
theorem dX2_completeOldestJob_91 : decode cX2_completeOldestJob 91 = .ok (.iconst 0, 1) := by decide +kernel
theorem dX2_completeOldestJob_92 : decode cX2_completeOldestJob 92 = .ok (.iastore, 1) := by decide +kernel
theorem dX2_completeOldestJob_93 : decode cX2_completeOldestJob 93 = .ok (.return_, 1) := by decide +kernel
set_option maxRecDepth 20000 in
theorem ggX2_dropPendingJobs_X0_hasHighBudget : GoodIn wsX2_dropPendingJobs wsX0_hasHighBudget := goodIn_r _ [8, 9, 25, 26, 27, 28, 29, 30, 31, 32, 33] (by decide +kernel) (by decide +kernel)
set_option maxRecDepth 20000 in
theorem gX2_dropPendingJobs_X0_hasHighBudget : GoodIn wsX2_dropPendingJobs (wsV RX2 99 RX0 yX0_hasHighBudget wsX0_hasHighBudget) := goodIn_app (goodIn_of _ (by decide +kernel)) ggX2_dropPendingJobs_X0_hasHighBudget
theorem dX2_dropPendingJobs_0 : decode cX2_dropPendingJobs 0 = .ok (.iconst 0, 1) := by decide +kernel
theorem dX2_dropPendingJobs_1 : decode cX2_dropPendingJobs 1 = .ok (.istore_n 1, 1) := by decide +kernel
theorem dX2_dropPendingJobs_2 : decode cX2_dropPendingJobs 2 = .ok (.iload_n 1, 1) := by decide +kernel
theorem dX2_dropPendingJobs_3 : decode cX2_dropPendingJobs 3 = .ok (.aload_n 0, 1) := by decide +kernel
theorem dX2_dropPendingJobs_4 : decode cX2_dropPendingJobs 4 = .ok (.getfield 12, 3) := by decide +kernel
theorem dX2_dropPendingJobs_7 : decode cX2_dropPendingJobs 7 = .ok (.getfield 92, 3) := by decide +kernel
theorem dX2_dropPendingJobs_10 : decode cX2_dropPendingJobs 10 = .ok (.if_icmp .ge 42, 3) := by decide +kernel
theorem dX2_dropPendingJobs_13 : decode cX2_dropPendingJobs 13 = .ok (.aload_n 0, 1) := by decide +kernel
theorem dX2_dropPendingJobs_14 : decode cX2_dropPendingJobs 14 = .ok (.getfield 12, 3) := by decide +kernel
theorem dX2_dropPendingJobs_17 : decode cX2_dropPendingJobs 17 = .ok (.iload_n 1, 1) := by decide +kernel
theorem dX2_dropPendingJobs_18 : decode cX2_dropPendingJobs 18 = .ok (.invokevirtual 99, 3) := by decide +kernel
theorem dX2_dropPendingJobs_21 : decode cX2_dropPendingJobs 21 = .ok (.ifCond .ne 25, 3) := by decide +kernel
theorem dX2_dropPendingJobs_24 : decode cX2_dropPendingJobs 24 = .ok (.aload_n 0, 1) := by decide +kernel
theorem dX2_dropPendingJobs_25 : decode cX2_dropPendingJobs 25 = .ok (.dup, 1) := by decide +kernel
theorem dX2_dropPendingJobs_26 : decode cX2_dropPendingJobs 26 = .ok (.getfield 86, 3) := by decide +kernel
theorem dX2_dropPendingJobs_29 : decode cX2_dropPendingJobs 29 = .ok (.aload_n 0, 1) := by decide +kernel
theorem dX2_dropPendingJobs_30 : decode cX2_dropPendingJobs 30 = .ok (.getfield 18, 3) := by decide +kernel
theorem dX2_dropPendingJobs_33 : decode cX2_dropPendingJobs 33 = .ok (.iload_n 1, 1) := by decide +kernel
theorem dX2_dropPendingJobs_34 : decode cX2_dropPendingJobs 34 = .ok (.iaload, 1) := by decide +kernel
theorem dX2_dropPendingJobs_35 : decode cX2_dropPendingJobs 35 = .ok (.iadd, 1) := by decide +kernel
theorem dX2_dropPendingJobs_36 : decode cX2_dropPendingJobs 36 = .ok (.putfield 86, 3) := by decide +kernel
theorem dX2_dropPendingJobs_39 : decode cX2_dropPendingJobs 39 = .ok (.aload_n 0, 1) := by decide +kernel
theorem dX2_dropPendingJobs_40 : decode cX2_dropPendingJobs 40 = .ok (.getfield 18, 3) := by decide +kernel
theorem dX2_dropPendingJobs_43 : decode cX2_dropPendingJobs 43 = .ok (.iload_n 1, 1) := by decide +kernel
theorem dX2_dropPendingJobs_44 : decode cX2_dropPendingJobs 44 = .ok (.iconst 0, 1) := by decide +kernel
theorem dX2_dropPendingJobs_45 : decode cX2_dropPendingJobs 45 = .ok (.iastore, 1) := by decide +kernel
theorem dX2_dropPendingJobs_46 : decode cX2_dropPendingJobs 46 = .ok (.iinc 1 1, 3) := by decide +kernel
theorem dX2_dropPendingJobs_49 : decode cX2_dropPendingJobs 49 = .ok (.goto (-47), 3) := by decide +kernel
theorem dX2_dropPendingJobs_52 : decode cX2_dropPendingJobs 52 = .ok (.return_, 1) := by decide +kernel
set_option maxRecDepth 20000 in
theorem ggX2_countLatePendingJobs_X0_effectivePeriod : GoodIn wsX2_countLatePendingJobs wsX0_effectivePeriod := goodIn_r _ [8, 9, 10, 33, 34, 35, 36, 37, 38, 39, 40, 41] (by decide +kernel) (by decide +kernel)
set_option maxRecDepth 20000 in
theorem gX2_countLatePendingJobs_X0_effectivePeriod : GoodIn wsX2_countLatePendingJobs (wsV RX2 95 RX0 yX0_effectivePeriod wsX0_effectivePeriod) := goodIn_app (goodIn_of _ (by decide +kernel)) ggX2_countLatePendingJobs_X0_effectivePeriod
set_option maxRecDepth 20000 in
theorem ggX2_countLatePendingJobs_X2_countLateJob : GoodIn wsX2_countLatePendingJobs wsX2_countLateJob := goodIn_r _ [15, 1, 16, 17, 18, 19, 20, 21, 22, 23, 24, 25, 26, 27, 28, 29, 30, 31, 32, 33, 34, 35, 36, 37, 38, 39, 40, 41] (by decide +kernel) (by decide +kernel)
set_option maxRecDepth 20000 in
theorem gX2_countLatePendingJobs_X2_countLateJob : GoodIn wsX2_countLatePendingJobs (wsV RX2 138 RX2 yX2_countLateJob wsX2_countLateJob) := goodIn_app (goodIn_of _ (by decide +kernel)) ggX2_countLatePendingJobs_X2_countLateJob
theorem dX2_countLatePendingJobs_0 : decode cX2_countLatePendingJobs 0 = .ok (.iconst 0, 1) := by decide +kernel
theorem dX2_countLatePendingJobs_1 : decode cX2_countLatePendingJobs 1 = .ok (.istore_n 1, 1) := by decide +kernel
theorem dX2_countLatePendingJobs_2 : decode cX2_countLatePendingJobs 2 = .ok (.iload_n 1, 1) := by decide +kernel
theorem dX2_countLatePendingJobs_3 : decode cX2_countLatePendingJobs 3 = .ok (.aload_n 0, 1) := by decide +kernel
theorem dX2_countLatePendingJobs_4 : decode cX2_countLatePendingJobs 4 = .ok (.getfield 12, 3) := by decide +kernel
theorem dX2_countLatePendingJobs_7 : decode cX2_countLatePendingJobs 7 = .ok (.getfield 92, 3) := by decide +kernel
theorem dX2_countLatePendingJobs_10 : decode cX2_countLatePendingJobs 10 = .ok (.if_icmp .ge 49, 3) := by decide +kernel
theorem dX2_countLatePendingJobs_13 : decode cX2_countLatePendingJobs 13 = .ok (.iconst 0, 1) := by decide +kernel
theorem dX2_countLatePendingJobs_14 : decode cX2_countLatePendingJobs 14 = .ok (.istore_n 2, 1) := by decide +kernel
theorem dX2_countLatePendingJobs_15 : decode cX2_countLatePendingJobs 15 = .ok (.iload_n 2, 1) := by decide +kernel
theorem dX2_countLatePendingJobs_16 : decode cX2_countLatePendingJobs 16 = .ok (.aload_n 0, 1) := by decide +kernel
theorem dX2_countLatePendingJobs_17 : decode cX2_countLatePendingJobs 17 = .ok (.getfield 18, 3) := by decide +kernel
theorem dX2_countLatePendingJobs_20 : decode cX2_countLatePendingJobs 20 = .ok (.iload_n 1, 1) := by decide +kernel
theorem dX2_countLatePendingJobs_21 : decode cX2_countLatePendingJobs 21 = .ok (.iaload, 1) := by decide +kernel
theorem dX2_countLatePendingJobs_22 : decode cX2_countLatePendingJobs 22 = .ok (.if_icmp .ge 31, 3) := by decide +kernel
theorem dX2_countLatePendingJobs_25 : decode cX2_countLatePendingJobs 25 = .ok (.aload_n 0, 1) := by decide +kernel
theorem dX2_countLatePendingJobs_26 : decode cX2_countLatePendingJobs 26 = .ok (.iload_n 1, 1) := by decide +kernel
theorem dX2_countLatePendingJobs_27 : decode cX2_countLatePendingJobs 27 = .ok (.aload_n 0, 1) := by decide +kernel
theorem dX2_countLatePendingJobs_28 : decode cX2_countLatePendingJobs 28 = .ok (.getfield 22, 3) := by decide +kernel
theorem dX2_countLatePendingJobs_31 : decode cX2_countLatePendingJobs 31 = .ok (.iload_n 1, 1) := by decide +kernel
theorem dX2_countLatePendingJobs_32 : decode cX2_countLatePendingJobs 32 = .ok (.iaload, 1) := by decide +kernel
theorem dX2_countLatePendingJobs_33 : decode cX2_countLatePendingJobs 33 = .ok (.iload_n 2, 1) := by decide +kernel
theorem dX2_countLatePendingJobs_34 : decode cX2_countLatePendingJobs 34 = .ok (.aload_n 0, 1) := by decide +kernel
theorem dX2_countLatePendingJobs_35 : decode cX2_countLatePendingJobs 35 = .ok (.getfield 12, 3) := by decide +kernel
theorem dX2_countLatePendingJobs_38 : decode cX2_countLatePendingJobs 38 = .ok (.iload_n 1, 1) := by decide +kernel
theorem dX2_countLatePendingJobs_39 : decode cX2_countLatePendingJobs 39 = .ok (.invokevirtual 95, 3) := by decide +kernel
theorem dX2_countLatePendingJobs_42 : decode cX2_countLatePendingJobs 42 = .ok (.imul, 1) := by decide +kernel
theorem dX2_countLatePendingJobs_43 : decode cX2_countLatePendingJobs 43 = .ok (.iadd, 1) := by decide +kernel
theorem dX2_countLatePendingJobs_44 : decode cX2_countLatePendingJobs 44 = .ok (.invokevirtual 138, 3) := by decide +kernel
theorem dX2_countLatePendingJobs_47 : decode cX2_countLatePendingJobs 47 = .ok (.iinc 2 1, 3) := by decide +kernel
theorem dX2_countLatePendingJobs_50 : decode cX2_countLatePendingJobs 50 = .ok (.goto (-35), 3) := by decide +kernel
theorem dX2_countLatePendingJobs_53 : decode cX2_countLatePendingJobs 53 = .ok (.iinc 1 1, 3) := by decide +kernel
theorem dX2_countLatePendingJobs_56 : decode cX2_countLatePendingJobs 56 = .ok (.goto (-54), 3) := by decide +kernel
theorem dX2_countLatePendingJobs_59 : decode cX2_countLatePendingJobs 59 = .ok (.return_, 1) := by decide +kernel
theorem dX2_countLateJob_0 : decode cX2_countLateJob 0 = .ok (.iload_n 2, 1) := by decide +kernel
theorem dX2_countLateJob_1 : decode cX2_countLateJob 1 = .ok (.aload_n 0, 1) := by decide +kernel
theorem dX2_countLateJob_2 : decode cX2_countLateJob 2 = .ok (.getfield 12, 3) := by decide +kernel
theorem dX2_countLateJob_5 : decode cX2_countLateJob 5 = .ok (.getfield 126, 3) := by decide +kernel
theorem dX2_countLateJob_8 : decode cX2_countLateJob 8 = .ok (.iload_n 1, 1) := by decide +kernel
theorem dX2_countLateJob_9 : decode cX2_countLateJob 9 = .ok (.iaload, 1) := by decide +kernel
theorem dX2_countLateJob_10 : decode cX2_countLateJob 10 = .ok (.iadd, 1) := by decide +kernel
theorem dX2_countLateJob_11 : decode cX2_countLateJob 11 = .ok (.aload_n 0, 1) := by decide +kernel
theorem dX2_countLateJob_12 : decode cX2_countLateJob 12 = .ok (.getfield 56, 3) := by decide +kernel
theorem dX2_countLateJob_15 : decode cX2_countLateJob 15 = .ok (.if_icmp .gt 13, 3) := by decide +kernel
theorem dX2_countLateJob_18 : decode cX2_countLateJob 18 = .ok (.aload_n 0, 1) := by decide +kernel
theorem dX2_countLateJob_19 : decode cX2_countLateJob 19 = .ok (.dup, 1) := by decide +kernel
theorem dX2_countLateJob_20 : decode cX2_countLateJob 20 = .ok (.getfield 80, 3) := by decide +kernel
theorem dX2_countLateJob_23 : decode cX2_countLateJob 23 = .ok (.iconst 1, 1) := by decide +kernel
theorem dX2_countLateJob_24 : decode cX2_countLateJob 24 = .ok (.iadd, 1) := by decide +kernel
theorem dX2_countLateJob_25 : decode cX2_countLateJob 25 = .ok (.putfield 80, 3) := by decide +kernel
theorem dX2_countLateJob_28 : decode cX2_countLateJob 28 = .ok (.return_, 1) := by decide +kernel
theorem dX3_init_0 : decode cX3_init 0 = .ok (.aload_n 0, 1) := by decide +kernel
theorem dX3_init_1 : decode cX3_init 1 = .ok (.invokespecial 3, 3) := by decide +kernel
theorem dX3_init_4 : decode cX3_init 4 = .ok (.aload_n 0, 1) := by decide +kernel
theorem dX3_init_5 : decode cX3_init 5 = .ok (.bipush 30, 2) := by decide +kernel
theorem dX3_init_7 : decode cX3_init 7 = .ok (.newarray .int, 2) := by decide +kernel
theorem dX3_init_9 : decode cX3_init 9 = .ok (.putfield 9, 3) := by decide +kernel
theorem dX3_init_12 : decode cX3_init 12 = .ok (.aload_n 0, 1) := by decide +kernel
theorem dX3_init_13 : decode cX3_init 13 = .ok (.bipush 6, 2) := by decide +kernel
theorem dX3_init_15 : decode cX3_init 15 = .ok (.newarray .int, 2) := by decide +kernel
theorem dX3_init_17 : decode cX3_init 17 = .ok (.putfield 15, 3) := by decide +kernel
theorem dX3_init_20 : decode cX3_init 20 = .ok (.aload_n 0, 1) := by decide +kernel
theorem dX3_init_21 : decode cX3_init 21 = .ok (.iconst (-1), 1) := by decide +kernel
theorem dX3_init_22 : decode cX3_init 22 = .ok (.putfield 18, 3) := by decide +kernel
theorem dX3_init_25 : decode cX3_init 25 = .ok (.return_, 1) := by decide +kernel
theorem dX3_append_0 : decode cX3_append 0 = .ok (.aload_n 0, 1) := by decide +kernel
theorem dX3_append_1 : decode cX3_append 1 = .ok (.getfield 9, 3) := by decide +kernel
theorem dX3_append_4 : decode cX3_append 4 = .ok (.aload_n 0, 1) := by decide +kernel
theorem dX3_append_5 : decode cX3_append 5 = .ok (.getfield 22, 3) := by decide +kernel
theorem dX3_append_8 : decode cX3_append 8 = .ok (.iload_n 1, 1) := by decide +kernel
theorem dX3_append_9 : decode cX3_append 9 = .ok (.iastore, 1) := by decide +kernel
theorem dX3_append_10 : decode cX3_append 10 = .ok (.aload_n 0, 1) := by decide +kernel
theorem dX3_append_11 : decode cX3_append 11 = .ok (.dup, 1) := by decide +kernel
theorem dX3_append_12 : decode cX3_append 12 = .ok (.getfield 22, 3) := by decide +kernel
theorem dX3_append_15 : decode cX3_append 15 = .ok (.iconst 1, 1) := by decide +kernel
theorem dX3_append_16 : decode cX3_append 16 = .ok (.iadd, 1) := by decide +kernel
theorem dX3_append_17 : decode cX3_append 17 = .ok (.putfield 22, 3) := by decide +kernel
theorem dX3_append_20 : decode cX3_append 20 = .ok (.return_, 1) := by decide +kernel
set_option maxRecDepth 20000 in
theorem ggX3_readAndEmpty_X3_findFault : GoodIn wsX3_readAndEmpty wsX3_findFault := goodIn_r _ [7, 8, 9, 2, 10, 11, 12, 6, 13, 14, 15, 16, 17, 18, 19, 20, 21] (by decide +kernel) (by decide +kernel)
set_option maxRecDepth 20000 in
theorem gX3_readAndEmpty_X3_findFault : GoodIn wsX3_readAndEmpty (wsV RX3 25 RX3 yX3_findFault wsX3_findFault) := goodIn_app (goodIn_of _ (by decide +kernel)) ggX3_readAndEmpty_X3_findFault
theorem dX3_readAndEmpty_0 : decode cX3_readAndEmpty 0 = .ok (.aload_n 0, 1) := by decide +kernel
theorem dX3_readAndEmpty_1 : decode cX3_readAndEmpty 1 = .ok (.aload_n 0, 1) := by decide +kernel
theorem dX3_readAndEmpty_2 : decode cX3_readAndEmpty 2 = .ok (.invokevirtual 25, 3) := by decide +kernel
theorem dX3_readAndEmpty_5 : decode cX3_readAndEmpty 5 = .ok (.putfield 18, 3) := by decide +kernel
theorem dX3_readAndEmpty_8 : decode cX3_readAndEmpty 8 = .ok (.aload_n 0, 1) := by decide +kernel
theorem dX3_readAndEmpty_9 : decode cX3_readAndEmpty 9 = .ok (.iconst 0, 1) := by decide +kernel
theorem dX3_readAndEmpty_10 : decode cX3_readAndEmpty 10 = .ok (.putfield 22, 3) := by decide +kernel
theorem dX3_readAndEmpty_13 : decode cX3_readAndEmpty 13 = .ok (.return_, 1) := by decide +kernel
set_option maxRecDepth 20000 in
theorem ggX3_findFault_X3_hasComma : GoodIn wsX3_findFault wsX3_hasComma := goodIn_r _ [8, 3, 1, 13, 14, 15, 16] (by decide +kernel) (by decide +kernel)
set_option maxRecDepth 20000 in
theorem gX3_findFault_X3_hasComma : GoodIn wsX3_findFault (wsV RX3 29 RX3 yX3_hasComma wsX3_hasComma) := goodIn_app (goodIn_of _ (by decide +kernel)) ggX3_findFault_X3_hasComma
set_option maxRecDepth 20000 in
theorem ggX3_findFault_X3_hasDigit : GoodIn wsX3_findFault wsX3_hasDigit := goodIn_r _ [12, 3, 1, 13, 14, 15, 16] (by decide +kernel) (by decide +kernel)
set_option maxRecDepth 20000 in
theorem gX3_findFault_X3_hasDigit : GoodIn wsX3_findFault (wsV RX3 33 RX3 yX3_hasDigit wsX3_hasDigit) := goodIn_app (goodIn_of _ (by decide +kernel)) ggX3_findFault_X3_hasDigit
theorem dX3_findFault_0 : decode cX3_findFault 0 = .ok (.iconst 0, 1) := by decide +kernel
theorem dX3_findFault_1 : decode cX3_findFault 1 = .ok (.istore_n 1, 1) := by decide +kernel
theorem dX3_findFault_2 : decode cX3_findFault 2 = .ok (.iconst 0, 1) := by decide +kernel
theorem dX3_findFault_3 : decode cX3_findFault 3 = .ok (.istore_n 2, 1) := by decide +kernel
theorem dX3_findFault_4 : decode cX3_findFault 4 = .ok (.iload_n 2, 1) := by decide +kernel
theorem dX3_findFault_5 : decode cX3_findFault 5 = .ok (.bipush 6, 2) := by decide +kernel
theorem dX3_findFault_7 : decode cX3_findFault 7 = .ok (.if_icmp .ge 82, 3) := by decide +kernel
theorem dX3_findFault_10 : decode cX3_findFault 10 = .ok (.iload_n 2, 1) := by decide +kernel
theorem dX3_findFault_11 : decode cX3_findFault 11 = .ok (.ifCond .le 16, 3) := by decide +kernel
theorem dX3_findFault_14 : decode cX3_findFault 14 = .ok (.aload_n 0, 1) := by decide +kernel
theorem dX3_findFault_15 : decode cX3_findFault 15 = .ok (.iload_n 1, 1) := by decide +kernel
theorem dX3_findFault_16 : decode cX3_findFault 16 = .ok (.invokevirtual 29, 3) := by decide +kernel
theorem dX3_findFault_19 : decode cX3_findFault 19 = .ok (.ifCond .ne 5, 3) := by decide +kernel
theorem dX3_findFault_22 : decode cX3_findFault 22 = .ok (.iload_n 1, 1) := by decide +kernel
theorem dX3_findFault_23 : decode cX3_findFault 23 = .ok (.ireturn, 1) := by decide +kernel
theorem dX3_findFault_24 : decode cX3_findFault 24 = .ok (.iinc 1 1, 3) := by decide +kernel
theorem dX3_findFault_27 : decode cX3_findFault 27 = .ok (.aload_n 0, 1) := by decide +kernel
theorem dX3_findFault_28 : decode cX3_findFault 28 = .ok (.iload_n 1, 1) := by decide +kernel
theorem dX3_findFault_29 : decode cX3_findFault 29 = .ok (.invokevirtual 33, 3) := by decide +kernel
theorem dX3_findFault_32 : decode cX3_findFault 32 = .ok (.ifCond .ne 5, 3) := by decide +kernel
theorem dX3_findFault_35 : decode cX3_findFault 35 = .ok (.iload_n 1, 1) := by decide +kernel
theorem dX3_findFault_36 : decode cX3_findFault 36 = .ok (.ireturn, 1) := by decide +kernel
theorem dX3_findFault_37 : decode cX3_findFault 37 = .ok (.aload_n 0, 1) := by decide +kernel
theorem dX3_findFault_38 : decode cX3_findFault 38 = .ok (.getfield 9, 3) := by decide +kernel
theorem dX3_findFault_41 : decode cX3_findFault 41 = .ok (.iload_n 1, 1) := by decide +kernel
theorem dX3_findFault_42 : decode cX3_findFault 42 = .ok (.iaload, 1) := by decide +kernel
theorem dX3_findFault_43 : decode cX3_findFault 43 = .ok (.bipush 48, 2) := by decide +kernel
theorem dX3_findFault_45 : decode cX3_findFault 45 = .ok (.isub, 1) := by decide +kernel
theorem dX3_findFault_46 : decode cX3_findFault 46 = .ok (.istore_n 3, 1) := by decide +kernel
theorem dX3_findFault_47 : decode cX3_findFault 47 = .ok (.iinc 1 1, 3) := by decide +kernel
theorem dX3_findFault_50 : decode cX3_findFault 50 = .ok (.aload_n 0, 1) := by decide +kernel
theorem dX3_findFault_51 : decode cX3_findFault 51 = .ok (.iload_n 1, 1) := by decide +kernel
theorem dX3_findFault_52 : decode cX3_findFault 52 = .ok (.invokevirtual 33, 3) := by decide +kernel
theorem dX3_findFault_55 : decode cX3_findFault 55 = .ok (.ifCond .eq 21, 3) := by decide +kernel
theorem dX3_findFault_58 : decode cX3_findFault 58 = .ok (.iload_n 3, 1) := by decide +kernel
theorem dX3_findFault_59 : decode cX3_findFault 59 = .ok (.bipush 10, 2) := by decide +kernel
theorem dX3_findFault_61 : decode cX3_findFault 61 = .ok (.imul, 1) := by decide +kernel
theorem dX3_findFault_62 : decode cX3_findFault 62 = .ok (.aload_n 0, 1) := by decide +kernel
theorem dX3_findFault_63 : decode cX3_findFault 63 = .ok (.getfield 9, 3) := by decide +kernel
theorem dX3_findFault_66 : decode cX3_findFault 66 = .ok (.iload_n 1, 1) := by decide +kernel
theorem dX3_findFault_67 : decode cX3_findFault 67 = .ok (.iaload, 1) := by decide +kernel
theorem dX3_findFault_68 : decode cX3_findFault 68 = .ok (.iadd, 1) := by decide +kernel
theorem dX3_findFault_69 : decode cX3_findFault 69 = .ok (.bipush 48, 2) := by decide +kernel
theorem dX3_findFault_71 : decode cX3_findFault 71 = .ok (.isub, 1) := by decide +kernel
theorem dX3_findFault_72 : decode cX3_findFault 72 = .ok (.istore_n 3, 1) := by decide +kernel
theorem dX3_findFault_73 : decode cX3_findFault 73 = .ok (.iinc 1 1, 3) := by decide +kernel
theorem dX3_findFault_76 : decode cX3_findFault 76 = .ok (.aload_n 0, 1) := by decide +kernel
theorem dX3_findFault_77 : decode cX3_findFault 77 = .ok (.getfield 15, 3) := by decide +kernel
theorem dX3_findFault_80 : decode cX3_findFault 80 = .ok (.iload_n 2, 1) := by decide +kernel
theorem dX3_findFault_81 : decode cX3_findFault 81 = .ok (.iload_n 3, 1) := by decide +kernel
theorem dX3_findFault_82 : decode cX3_findFault 82 = .ok (.iastore, 1) := by decide +kernel
theorem dX3_findFault_83 : decode cX3_findFault 83 = .ok (.iinc 2 1, 3) := by decide +kernel
theorem dX3_findFault_86 : decode cX3_findFault 86 = .ok (.goto (-82), 3) := by decide +kernel
theorem dX3_findFault_89 : decode cX3_findFault 89 = .ok (.iload_n 1, 1) := by decide +kernel
theorem dX3_findFault_90 : decode cX3_findFault 90 = .ok (.aload_n 0, 1) := by decide +kernel
theorem dX3_findFault_91 : decode cX3_findFault 91 = .ok (.getfield 22, 3) := by decide +kernel
theorem dX3_findFault_94 : decode cX3_findFault 94 = .ok (.if_icmp .ge 7, 3) := by decide +kernel
theorem dX3_findFault_97 : decode cX3_findFault 97 = .ok (.iload_n 1, 1) := by decide +kernel
theorem dX3_findFault_98 : decode cX3_findFault 98 = .ok (.goto 4, 3) := by decide +kernel
theorem dX3_findFault_101 : decode cX3_findFault 101 = .ok (.iconst (-1), 1) := by decide +kernel
theorem dX3_findFault_102 : decode cX3_findFault 102 = .ok (.ireturn, 1) := by decide +kernel
theorem dX3_hasComma_0 : decode cX3_hasComma 0 = .ok (.iload_n 1, 1) := by decide +kernel
theorem dX3_hasComma_1 : decode cX3_hasComma 1 = .ok (.aload_n 0, 1) := by decide +kernel
theorem dX3_hasComma_2 : decode cX3_hasComma 2 = .ok (.getfield 22, 3) := by decide +kernel
theorem dX3_hasComma_5 : decode cX3_hasComma 5 = .ok (.if_icmp .ge 18, 3) := by decide +kernel
theorem dX3_hasComma_8 : decode cX3_hasComma 8 = .ok (.aload_n 0, 1) := by decide +kernel
theorem dX3_hasComma_9 : decode cX3_hasComma 9 = .ok (.getfield 9, 3) := by decide +kernel
theorem dX3_hasComma_12 : decode cX3_hasComma 12 = .ok (.iload_n 1, 1) := by decide +kernel
theorem dX3_hasComma_13 : decode cX3_hasComma 13 = .ok (.iaload, 1) := by decide +kernel
theorem dX3_hasComma_14 : decode cX3_hasComma 14 = .ok (.bipush 44, 2) := by decide +kernel
theorem dX3_hasComma_16 : decode cX3_hasComma 16 = .ok (.if_icmp .ne 7, 3) := by decide +kernel
theorem dX3_hasComma_19 : decode cX3_hasComma 19 = .ok (.iconst 1, 1) := by decide +kernel
theorem dX3_hasComma_20 : decode cX3_hasComma 20 = .ok (.goto 4, 3) := by decide +kernel
theorem dX3_hasComma_23 : decode cX3_hasComma 23 = .ok (.iconst 0, 1) := by decide +kernel
theorem dX3_hasComma_24 : decode cX3_hasComma 24 = .ok (.ireturn, 1) := by decide +kernel
theorem dX3_hasDigit_0 : decode cX3_hasDigit 0 = .ok (.iload_n 1, 1) := by decide +kernel
theorem dX3_hasDigit_1 : decode cX3_hasDigit 1 = .ok (.aload_n 0, 1) := by decide +kernel
theorem dX3_hasDigit_2 : decode cX3_hasDigit 2 = .ok (.getfield 22, 3) := by decide +kernel
theorem dX3_hasDigit_5 : decode cX3_hasDigit 5 = .ok (.if_icmp .ge 29, 3) := by decide +kernel
theorem dX3_hasDigit_8 : decode cX3_hasDigit 8 = .ok (.aload_n 0, 1) := by decide +kernel
theorem dX3_hasDigit_9 : decode cX3_hasDigit 9 = .ok (.getfield 9, 3) := by decide +kernel
theorem dX3_hasDigit_12 : decode cX3_hasDigit 12 = .ok (.iload_n 1, 1) := by decide +kernel
theorem dX3_hasDigit_13 : decode cX3_hasDigit 13 = .ok (.iaload, 1) := by decide +kernel
theorem dX3_hasDigit_14 : decode cX3_hasDigit 14 = .ok (.bipush 48, 2) := by decide +kernel
theorem dX3_hasDigit_16 : decode cX3_hasDigit 16 = .ok (.if_icmp .lt 18, 3) := by decide +kernel
theorem dX3_hasDigit_19 : decode cX3_hasDigit 19 = .ok (.aload_n 0, 1) := by decide +kernel
theorem dX3_hasDigit_20 : decode cX3_hasDigit 20 = .ok (.getfield 9, 3) := by decide +kernel
theorem dX3_hasDigit_23 : decode cX3_hasDigit 23 = .ok (.iload_n 1, 1) := by decide +kernel
theorem dX3_hasDigit_24 : decode cX3_hasDigit 24 = .ok (.iaload, 1) := by decide +kernel
theorem dX3_hasDigit_25 : decode cX3_hasDigit 25 = .ok (.bipush 57, 2) := by decide +kernel
theorem dX3_hasDigit_27 : decode cX3_hasDigit 27 = .ok (.if_icmp .gt 7, 3) := by decide +kernel
theorem dX3_hasDigit_30 : decode cX3_hasDigit 30 = .ok (.iconst 1, 1) := by decide +kernel
theorem dX3_hasDigit_31 : decode cX3_hasDigit 31 = .ok (.goto 4, 3) := by decide +kernel
theorem dX3_hasDigit_34 : decode cX3_hasDigit 34 = .ok (.iconst 0, 1) := by decide +kernel
theorem dX3_hasDigit_35 : decode cX3_hasDigit 35 = .ok (.ireturn, 1) := by decide +kernel
