set_option maxRecDepth 20000 in
theorem ggX4_init_X0_init : GoodIn wsX4_init wsX0_init := goodIn_r _ [23, 24, 2, 3, 25, 26, 27, 28, 29, 30, 31, 32, 33, 57, 58, 59, 60, 61, 62, 63, 64, 65] (by decide +kernel) (by decide +kernel)
set_option maxRecDepth 20000 in
theorem gX4_init_X0_init_n11 : GoodIn wsX4_init (wsX0_init) := ggX4_init_X0_init
set_option maxRecDepth 20000 in
theorem ggX4_init_X1_init : GoodIn wsX4_init wsX1_init := goodIn_r _ [36, 37, 2, 3, 38, 39, 5, 6, 22, 23, 24, 25, 26, 27, 28, 29, 30, 31, 32, 33, 78, 79, 80, 57, 58, 59, 60, 61, 62, 63, 64, 65] (by decide +kernel) (by decide +kernel)
set_option maxRecDepth 20000 in
theorem gX4_init_X1_init : GoodIn wsX4_init (wsX1_init) := ggX4_init_X1_init
set_option maxRecDepth 20000 in
theorem ggX4_init_X3_init : GoodIn wsX4_init wsX3_init := goodIn_r _ [41, 42, 2, 3, 25, 43, 44, 45, 81, 82, 83, 84] (by decide +kernel) (by decide +kernel)
set_option maxRecDepth 20000 in
theorem gX4_init_X3_init_n31 : GoodIn wsX4_init (wsX3_init) := ggX4_init_X3_init
set_option maxRecDepth 20000 in
theorem ggX4_init_X2_init : GoodIn wsX4_init wsX2_init := goodIn_r _ [47, 48, 2, 3, 49, 5, 6, 50, 25, 51, 52, 53, 54, 55, 56, 22, 23, 24, 26, 27, 28, 29, 30, 31, 32, 33, 57, 58, 59, 60, 61, 62, 63, 64, 65, 85, 86, 87, 88, 89, 90, 91, 92, 93, 94, 95, 96, 97, 98, 99] (by decide +kernel) (by decide +kernel)
set_option maxRecDepth 20000 in
theorem gX4_init_X2_init_n38 : GoodIn wsX4_init (wsX2_init) := ggX4_init_X2_init
theorem dX4_init_0 : decode cX4_init 0 = .ok (.aload_n 0, 1) := by decide +kernel
theorem dX4_init_1 : decode cX4_init 1 = .ok (.invokespecial 3, 3) := by decide +kernel
theorem dX4_init_4 : decode cX4_init 4 = .ok (.aload_n 0, 1) := by decide +kernel
theorem dX4_init_5 : decode cX4_init 5 = .ok (.new 9, 3) := by decide +kernel
theorem dX4_init_8 : decode cX4_init 8 = .ok (.dup, 1) := by decide +kernel
theorem dX4_init_9 : decode cX4_init 9 = .ok (.invokespecial 11, 3) := by decide +kernel
theorem dX4_init_12 : decode cX4_init 12 = .ok (.putfield 12, 3) := by decide +kernel
theorem dX4_init_15 : decode cX4_init 15 = .ok (.aload_n 0, 1) := by decide +kernel
theorem dX4_init_16 : decode cX4_init 16 = .ok (.new 9, 3) := by decide +kernel
theorem dX4_init_19 : decode cX4_init 19 = .ok (.dup, 1) := by decide +kernel
theorem dX4_init_20 : decode cX4_init 20 = .ok (.invokespecial 11, 3) := by decide +kernel
theorem dX4_init_23 : decode cX4_init 23 = .ok (.putfield 16, 3) := by decide +kernel
theorem dX4_init_26 : decode cX4_init 26 = .ok (.aload_n 0, 1) := by decide +kernel
theorem dX4_init_27 : decode cX4_init 27 = .ok (.new 9, 3) := by decide +kernel
theorem dX4_init_30 : decode cX4_init 30 = .ok (.dup, 1) := by decide +kernel
theorem dX4_init_31 : decode cX4_init 31 = .ok (.invokespecial 11, 3) := by decide +kernel
theorem dX4_init_34 : decode cX4_init 34 = .ok (.putfield 19, 3) := by decide +kernel
theorem dX4_init_37 : decode cX4_init 37 = .ok (.aload_n 0, 1) := by decide +kernel
theorem dX4_init_38 : decode cX4_init 38 = .ok (.new 22, 3) := by decide +kernel
theorem dX4_init_41 : decode cX4_init 41 = .ok (.dup, 1) := by decide +kernel
theorem dX4_init_42 : decode cX4_init 42 = .ok (.invokespecial 24, 3) := by decide +kernel
theorem dX4_init_45 : decode cX4_init 45 = .ok (.putfield 25, 3) := by decide +kernel
theorem dX4_init_48 : decode cX4_init 48 = .ok (.aload_n 0, 1) := by decide +kernel
theorem dX4_init_49 : decode cX4_init 49 = .ok (.new 29, 3) := by decide +kernel
theorem dX4_init_52 : decode cX4_init 52 = .ok (.dup, 1) := by decide +kernel
theorem dX4_init_53 : decode cX4_init 53 = .ok (.invokespecial 31, 3) := by decide +kernel
theorem dX4_init_56 : decode cX4_init 56 = .ok (.putfield 32, 3) := by decide +kernel
theorem dX4_init_59 : decode cX4_init 59 = .ok (.aload_n 0, 1) := by decide +kernel
theorem dX4_init_60 : decode cX4_init 60 = .ok (.new 36, 3) := by decide +kernel
theorem dX4_init_63 : decode cX4_init 63 = .ok (.dup, 1) := by decide +kernel
theorem dX4_init_64 : decode cX4_init 64 = .ok (.invokespecial 38, 3) := by decide +kernel
theorem dX4_init_67 : decode cX4_init 67 = .ok (.putfield 39, 3) := by decide +kernel
theorem dX4_init_70 : decode cX4_init 70 = .ok (.return_, 1) := by decide +kernel
set_option maxRecDepth 20000 in
theorem ggX4_propose_X4_timesAreInRange : GoodIn wsX4_propose wsX4_timesAreInRange := goodIn_r _ [10] (by decide +kernel) (by decide +kernel)
set_option maxRecDepth 20000 in
theorem gX4_propose_X4_timesAreInRange : GoodIn wsX4_propose (va_wsS RX4 43 yX4_timesAreInRange wsX4_timesAreInRange) := goodIn_app (goodIn_of _ (by decide +kernel)) ggX4_propose_X4_timesAreInRange
set_option maxRecDepth 20000 in
theorem ggX4_propose_X4_ranksAreInRange : GoodIn wsX4_propose wsX4_ranksAreInRange := goodIn_r _ [13] (by decide +kernel) (by decide +kernel)
set_option maxRecDepth 20000 in
theorem gX4_propose_X4_ranksAreInRange : GoodIn wsX4_propose (va_wsS RX4 47 yX4_ranksAreInRange wsX4_ranksAreInRange) := goodIn_app (goodIn_of _ (by decide +kernel)) ggX4_propose_X4_ranksAreInRange
set_option maxRecDepth 20000 in
theorem ggX4_propose_X0_copyFrom : GoodIn wsX4_propose wsX0_copyFrom := goodIn_r _ [18, 19, 20, 21, 22, 23, 17, 24, 25, 26, 27, 28, 29, 30, 31, 113, 114, 115, 116, 117, 118, 119, 120, 121] (by decide +kernel) (by decide +kernel)
set_option maxRecDepth 20000 in
theorem gX4_propose_X0_copyFrom : GoodIn wsX4_propose (wsV RX4 67 RX0 yX0_copyFrom wsX0_copyFrom) := goodIn_app (goodIn_of _ (by decide +kernel)) ggX4_propose_X0_copyFrom
set_option maxRecDepth 20000 in
theorem ggX4_propose_X0_append : GoodIn wsX4_propose wsX0_append := goodIn_r _ [35, 25, 19, 26, 27, 28, 29, 30, 31, 113, 114, 115, 116, 117, 118, 119, 120, 121] (by decide +kernel) (by decide +kernel)
set_option maxRecDepth 20000 in
theorem gX4_propose_X0_append : GoodIn wsX4_propose (wsV RX4 71 RX0 yX0_append wsX0_append) := goodIn_app (goodIn_of _ (by decide +kernel)) ggX4_propose_X0_append
set_option maxRecDepth 20000 in
theorem ggX4_propose_X0_takeGreatestScale : GoodIn wsX4_propose wsX0_takeGreatestScale := goodIn_r _ [39, 20, 40, 41, 42, 17, 43, 44, 45, 46, 47, 48, 49, 50, 51, 19, 28, 26, 52, 53, 54, 55, 27, 56, 57, 58, 59, 25, 31, 60, 61, 62, 63, 64, 65, 66, 67, 113, 114, 115, 116, 117, 118, 119, 120, 121] (by decide +kernel) (by decide +kernel)
set_option maxRecDepth 20000 in
theorem gX4_propose_X0_takeGreatestScale : GoodIn wsX4_propose (wsV RX4 75 RX0 yX0_takeGreatestScale wsX0_takeGreatestScale) := goodIn_app (goodIn_of _ (by decide +kernel)) ggX4_propose_X0_takeGreatestScale
set_option maxRecDepth 20000 in
theorem ggX4_propose_X0_degradeOnce : GoodIn wsX4_propose wsX0_degradeOnce := goodIn_r _ [71, 19, 31, 30, 29, 113, 114, 115, 116, 117, 118, 119, 120, 121] (by decide +kernel) (by decide +kernel)
set_option maxRecDepth 20000 in
theorem gX4_propose_X0_degradeOnce : GoodIn wsX4_propose (wsV RX4 79 RX0 yX0_degradeOnce wsX0_degradeOnce) := goodIn_app (goodIn_of _ (by decide +kernel)) ggX4_propose_X0_degradeOnce
set_option maxRecDepth 20000 in
theorem ggX4_propose_X4_recordRejection : GoodIn wsX4_propose wsX4_recordRejection := goodIn_r _ [75, 6, 76, 77, 78, 79, 80, 45, 46, 17, 47, 48, 49, 50, 51, 19, 28, 26, 52, 53, 54, 55, 27, 56, 57, 58, 59, 25, 31, 60, 61, 62, 63, 64, 65, 66, 67, 81, 101, 102, 103, 104, 105, 106, 107, 108, 109, 110, 111, 112, 113, 114, 115, 116, 117, 118, 119, 120, 121] (by decide +kernel) (by decide +kernel)
set_option maxRecDepth 20000 in
theorem gX4_propose_X4_recordRejection : GoodIn wsX4_propose (wsV RX4 82 RX4 yX4_recordRejection wsX4_recordRejection) := goodIn_app (goodIn_of _ (by decide +kernel)) ggX4_propose_X4_recordRejection
set_option maxRecDepth 20000 in
theorem ggX4_propose_X4_commitTrial : GoodIn wsX4_propose wsX4_commitTrial := goodIn_r _ [85, 86, 5, 6, 87, 88, 89, 90, 91, 92, 93, 94, 95, 96, 97, 98, 99, 100, 15, 16, 17, 18, 19, 20, 21, 22, 23, 24, 25, 26, 27, 28, 29, 30, 31, 14, 101, 102, 103, 104, 105, 106, 107, 108, 109, 110, 111, 112, 122, 123, 124, 113, 114, 115, 116, 117, 118, 119, 120, 121] (by decide +kernel) (by decide +kernel)
set_option maxRecDepth 20000 in
theorem gX4_propose_X4_commitTrial : GoodIn wsX4_propose (wsV RX4 85 RX4 yX4_commitTrial wsX4_commitTrial) := goodIn_app (goodIn_of _ (by decide +kernel)) ggX4_propose_X4_commitTrial
theorem dX4_propose_0 : decode cX4_propose 0 = .ok (.iload_n 1, 1) := by decide +kernel
theorem dX4_propose_1 : decode cX4_propose 1 = .ok (.iload_n 2, 1) := by decide +kernel
theorem dX4_propose_2 : decode cX4_propose 2 = .ok (.iload_n 3, 1) := by decide +kernel
theorem dX4_propose_3 : decode cX4_propose 3 = .ok (.iload 4, 2) := by decide +kernel
theorem dX4_propose_5 : decode cX4_propose 5 = .ok (.invokestatic 43, 3) := by decide +kernel
theorem dX4_propose_8 : decode cX4_propose 8 = .ok (.ifCond .eq 15, 3) := by decide +kernel
theorem dX4_propose_11 : decode cX4_propose 11 = .ok (.iload 4, 2) := by decide +kernel
theorem dX4_propose_13 : decode cX4_propose 13 = .ok (.iload 5, 2) := by decide +kernel
theorem dX4_propose_15 : decode cX4_propose 15 = .ok (.iload 6, 2) := by decide +kernel
theorem dX4_propose_17 : decode cX4_propose 17 = .ok (.invokestatic 47, 3) := by decide +kernel
theorem dX4_propose_20 : decode cX4_propose 20 = .ok (.ifCond .ne 13, 3) := by decide +kernel
theorem dX4_propose_23 : decode cX4_propose 23 = .ok (.new 51, 3) := by decide +kernel
theorem dX4_propose_26 : decode cX4_propose 26 = .ok (.dup, 1) := by decide +kernel
theorem dX4_propose_27 : decode cX4_propose 27 = .ok (.ldc 53, 2) := by decide +kernel
theorem dX4_propose_29 : decode cX4_propose 29 = .ok (.invokespecial 55, 3) := by decide +kernel
theorem dX4_propose_32 : decode cX4_propose 32 = .ok (.athrow, 1) := by decide +kernel
theorem dX4_propose_33 : decode cX4_propose 33 = .ok (.aload_n 0, 1) := by decide +kernel
theorem dX4_propose_34 : decode cX4_propose 34 = .ok (.getfield 12, 3) := by decide +kernel
theorem dX4_propose_37 : decode cX4_propose 37 = .ok (.getfield 58, 3) := by decide +kernel
theorem dX4_propose_40 : decode cX4_propose 40 = .ok (.bipush 8, 2) := by decide +kernel
theorem dX4_propose_42 : decode cX4_propose 42 = .ok (.if_icmp .lt 13, 3) := by decide +kernel
theorem dX4_propose_45 : decode cX4_propose 45 = .ok (.new 62, 3) := by decide +kernel
theorem dX4_propose_48 : decode cX4_propose 48 = .ok (.dup, 1) := by decide +kernel
theorem dX4_propose_49 : decode cX4_propose 49 = .ok (.ldc 64, 2) := by decide +kernel
theorem dX4_propose_51 : decode cX4_propose 51 = .ok (.invokespecial 66, 3) := by decide +kernel
theorem dX4_propose_54 : decode cX4_propose 54 = .ok (.athrow, 1) := by decide +kernel
theorem dX4_propose_55 : decode cX4_propose 55 = .ok (.aload_n 0, 1) := by decide +kernel
theorem dX4_propose_56 : decode cX4_propose 56 = .ok (.getfield 16, 3) := by decide +kernel
theorem dX4_propose_59 : decode cX4_propose 59 = .ok (.aload_n 0, 1) := by decide +kernel
theorem dX4_propose_60 : decode cX4_propose 60 = .ok (.getfield 12, 3) := by decide +kernel
theorem dX4_propose_63 : decode cX4_propose 63 = .ok (.invokevirtual 67, 3) := by decide +kernel
theorem dX4_propose_66 : decode cX4_propose 66 = .ok (.aload_n 0, 1) := by decide +kernel
theorem dX4_propose_67 : decode cX4_propose 67 = .ok (.getfield 16, 3) := by decide +kernel
theorem dX4_propose_70 : decode cX4_propose 70 = .ok (.iload_n 1, 1) := by decide +kernel
theorem dX4_propose_71 : decode cX4_propose 71 = .ok (.iload_n 2, 1) := by decide +kernel
theorem dX4_propose_72 : decode cX4_propose 72 = .ok (.iload_n 3, 1) := by decide +kernel
theorem dX4_propose_73 : decode cX4_propose 73 = .ok (.iload 4, 2) := by decide +kernel
theorem dX4_propose_75 : decode cX4_propose 75 = .ok (.iload 5, 2) := by decide +kernel
theorem dX4_propose_77 : decode cX4_propose 77 = .ok (.iload 6, 2) := by decide +kernel
theorem dX4_propose_79 : decode cX4_propose 79 = .ok (.invokevirtual 71, 3) := by decide +kernel
theorem dX4_propose_82 : decode cX4_propose 82 = .ok (.aload_n 0, 1) := by decide +kernel
theorem dX4_propose_83 : decode cX4_propose 83 = .ok (.getfield 16, 3) := by decide +kernel
theorem dX4_propose_86 : decode cX4_propose 86 = .ok (.invokevirtual 75, 3) := by decide +kernel
theorem dX4_propose_89 : decode cX4_propose 89 = .ok (.istore 7, 2) := by decide +kernel
theorem dX4_propose_91 : decode cX4_propose 91 = .ok (.iconst 0, 1) := by decide +kernel
theorem dX4_propose_92 : decode cX4_propose 92 = .ok (.istore 8, 2) := by decide +kernel
theorem dX4_propose_94 : decode cX4_propose 94 = .ok (.iload 8, 2) := by decide +kernel
theorem dX4_propose_96 : decode cX4_propose 96 = .ok (.bipush 16, 2) := by decide +kernel
theorem dX4_propose_98 : decode cX4_propose 98 = .ok (.if_icmp .ge 33, 3) := by decide +kernel
theorem dX4_propose_101 : decode cX4_propose 101 = .ok (.iload 7, 2) := by decide +kernel
theorem dX4_propose_103 : decode cX4_propose 103 = .ok (.ifCond .ne 28, 3) := by decide +kernel
theorem dX4_propose_106 : decode cX4_propose 106 = .ok (.aload_n 0, 1) := by decide +kernel
theorem dX4_propose_107 : decode cX4_propose 107 = .ok (.getfield 16, 3) := by decide +kernel
theorem dX4_propose_110 : decode cX4_propose 110 = .ok (.invokevirtual 79, 3) := by decide +kernel
theorem dX4_propose_113 : decode cX4_propose 113 = .ok (.ifCond .eq 18, 3) := by decide +kernel
theorem dX4_propose_116 : decode cX4_propose 116 = .ok (.aload_n 0, 1) := by decide +kernel
theorem dX4_propose_117 : decode cX4_propose 117 = .ok (.getfield 16, 3) := by decide +kernel
theorem dX4_propose_120 : decode cX4_propose 120 = .ok (.invokevirtual 75, 3) := by decide +kernel
theorem dX4_propose_123 : decode cX4_propose 123 = .ok (.istore 7, 2) := by decide +kernel
theorem dX4_propose_125 : decode cX4_propose 125 = .ok (.iinc 8 1, 3) := by decide +kernel
theorem dX4_propose_128 : decode cX4_propose 128 = .ok (.goto (-34), 3) := by decide +kernel
theorem dX4_propose_131 : decode cX4_propose 131 = .ok (.iload 7, 2) := by decide +kernel
theorem dX4_propose_133 : decode cX4_propose 133 = .ok (.ifCond .ne 9, 3) := by decide +kernel
theorem dX4_propose_136 : decode cX4_propose 136 = .ok (.aload_n 0, 1) := by decide +kernel
theorem dX4_propose_137 : decode cX4_propose 137 = .ok (.invokevirtual 82, 3) := by decide +kernel
theorem dX4_propose_140 : decode cX4_propose 140 = .ok (.iconst (-1), 1) := by decide +kernel
theorem dX4_propose_141 : decode cX4_propose 141 = .ok (.ireturn, 1) := by decide +kernel
theorem dX4_propose_142 : decode cX4_propose 142 = .ok (.aload_n 0, 1) := by decide +kernel
theorem dX4_propose_143 : decode cX4_propose 143 = .ok (.invokevirtual 85, 3) := by decide +kernel
theorem dX4_propose_146 : decode cX4_propose 146 = .ok (.aload_n 0, 1) := by decide +kernel
theorem dX4_propose_147 : decode cX4_propose 147 = .ok (.getfield 12, 3) := by decide +kernel
theorem dX4_propose_150 : decode cX4_propose 150 = .ok (.getfield 58, 3) := by decide +kernel
theorem dX4_propose_153 : decode cX4_propose 153 = .ok (.iconst 1, 1) := by decide +kernel
theorem dX4_propose_154 : decode cX4_propose 154 = .ok (.isub, 1) := by decide +kernel
theorem dX4_propose_155 : decode cX4_propose 155 = .ok (.ireturn, 1) := by decide +kernel
set_option maxRecDepth 20000 in
theorem ggX4_proposeText_X3_readAndEmpty : GoodIn wsX4_proposeText wsX3_readAndEmpty := goodIn_r _ [8, 9, 10, 11, 12, 13, 7, 14, 15, 16, 17, 18, 19, 20, 21, 22, 23, 24, 139, 140, 141, 142] (by decide +kernel) (by decide +kernel)
set_option maxRecDepth 20000 in
theorem gX4_proposeText_X3_readAndEmpty : GoodIn wsX4_proposeText (wsV RX4 88 RX3 yX3_readAndEmpty wsX3_readAndEmpty) := goodIn_app (goodIn_of _ (by decide +kernel)) ggX4_proposeText_X3_readAndEmpty
set_option maxRecDepth 20000 in
theorem ggX4_proposeText_X4_propose : GoodIn wsX4_proposeText wsX4_propose := goodIn_ca (goodIn_ca (goodIn_r _ [29, 1, 2, 30, 31, 32, 33, 34, 35, 28, 36, 37, 38, 39, 40, 41, 42, 43, 44, 45, 46, 47, 48, 49, 50, 51, 52, 53, 54, 55, 56, 57, 58, 59, 60, 61, 62, 63, 64, 65, 66, 67, 68, 69, 70, 71, 72, 73, 74, 75, 76, 77, 78, 79, 80, 81, 82, 83, 84, 85, 86, 87, 88, 89, 90, 91, 92, 93, 94, 95, 96, 97, 98, 99, 100, 101, 102, 103, 104, 105, 106, 107, 108, 109, 110, 111, 112, 113, 114, 115, 116, 117, 118, 119, 120, 121, 122, 123, 124, 125, 126, 127, 128, 129, 130, 131, 132, 133, 134, 135, 136, 137, 138, 143, 144, 145, 146, 147, 148, 149, 150, 151, 152, 153, 154] (by decide +kernel) (by decide +kernel)) (goodIn_sub (fun _ h => List.mem_cons_of_mem _ (List.mem_append_left _ (List.mem_append_right _ h))) (by decide +kernel))) (goodIn_sub (fun _ h => List.mem_cons_of_mem _ (List.mem_append_right _ h)) (by decide +kernel))
set_option maxRecDepth 20000 in
theorem gX4_proposeText_X4_propose : GoodIn wsX4_proposeText (wsV RX4 100 RX4 yX4_propose wsX4_propose) := goodIn_app (goodIn_of _ (by decide +kernel)) ggX4_proposeText_X4_propose
theorem dX4_proposeText_0 : decode cX4_proposeText 0 = .ok (.aload_n 0, 1) := by decide +kernel
theorem dX4_proposeText_1 : decode cX4_proposeText 1 = .ok (.getfield 32, 3) := by decide +kernel
theorem dX4_proposeText_4 : decode cX4_proposeText 4 = .ok (.invokevirtual 88, 3) := by decide +kernel
theorem dX4_proposeText_7 : decode cX4_proposeText 7 = .ok (.aload_n 0, 1) := by decide +kernel
theorem dX4_proposeText_8 : decode cX4_proposeText 8 = .ok (.getfield 32, 3) := by decide +kernel
theorem dX4_proposeText_11 : decode cX4_proposeText 11 = .ok (.getfield 91, 3) := by decide +kernel
theorem dX4_proposeText_14 : decode cX4_proposeText 14 = .ok (.ifCond .lt 13, 3) := by decide +kernel
theorem dX4_proposeText_17 : decode cX4_proposeText 17 = .ok (.new 51, 3) := by decide +kernel
theorem dX4_proposeText_20 : decode cX4_proposeText 20 = .ok (.dup, 1) := by decide +kernel
theorem dX4_proposeText_21 : decode cX4_proposeText 21 = .ok (.ldc 94, 2) := by decide +kernel
theorem dX4_proposeText_23 : decode cX4_proposeText 23 = .ok (.invokespecial 55, 3) := by decide +kernel
theorem dX4_proposeText_26 : decode cX4_proposeText 26 = .ok (.athrow, 1) := by decide +kernel
theorem dX4_proposeText_27 : decode cX4_proposeText 27 = .ok (.aload_n 0, 1) := by decide +kernel
theorem dX4_proposeText_28 : decode cX4_proposeText 28 = .ok (.getfield 32, 3) := by decide +kernel
theorem dX4_proposeText_31 : decode cX4_proposeText 31 = .ok (.getfield 96, 3) := by decide +kernel
theorem dX4_proposeText_34 : decode cX4_proposeText 34 = .ok (.astore_n 1, 1) := by decide +kernel
theorem dX4_proposeText_35 : decode cX4_proposeText 35 = .ok (.aload_n 0, 1) := by decide +kernel
theorem dX4_proposeText_36 : decode cX4_proposeText 36 = .ok (.aload_n 1, 1) := by decide +kernel
theorem dX4_proposeText_37 : decode cX4_proposeText 37 = .ok (.iconst 0, 1) := by decide +kernel
theorem dX4_proposeText_38 : decode cX4_proposeText 38 = .ok (.iaload, 1) := by decide +kernel
theorem dX4_proposeText_39 : decode cX4_proposeText 39 = .ok (.aload_n 1, 1) := by decide +kernel
theorem dX4_proposeText_40 : decode cX4_proposeText 40 = .ok (.iconst 1, 1) := by decide +kernel
theorem dX4_proposeText_41 : decode cX4_proposeText 41 = .ok (.iaload, 1) := by decide +kernel
theorem dX4_proposeText_42 : decode cX4_proposeText 42 = .ok (.aload_n 1, 1) := by decide +kernel
theorem dX4_proposeText_43 : decode cX4_proposeText 43 = .ok (.iconst 2, 1) := by decide +kernel
theorem dX4_proposeText_44 : decode cX4_proposeText 44 = .ok (.iaload, 1) := by decide +kernel
theorem dX4_proposeText_45 : decode cX4_proposeText 45 = .ok (.aload_n 1, 1) := by decide +kernel
theorem dX4_proposeText_46 : decode cX4_proposeText 46 = .ok (.iconst 3, 1) := by decide +kernel
theorem dX4_proposeText_47 : decode cX4_proposeText 47 = .ok (.iaload, 1) := by decide +kernel
theorem dX4_proposeText_48 : decode cX4_proposeText 48 = .ok (.aload_n 1, 1) := by decide +kernel
theorem dX4_proposeText_49 : decode cX4_proposeText 49 = .ok (.iconst 4, 1) := by decide +kernel
theorem dX4_proposeText_50 : decode cX4_proposeText 50 = .ok (.iaload, 1) := by decide +kernel
theorem dX4_proposeText_51 : decode cX4_proposeText 51 = .ok (.aload_n 1, 1) := by decide +kernel
theorem dX4_proposeText_52 : decode cX4_proposeText 52 = .ok (.iconst 5, 1) := by decide +kernel
theorem dX4_proposeText_53 : decode cX4_proposeText 53 = .ok (.iaload, 1) := by decide +kernel
theorem dX4_proposeText_54 : decode cX4_proposeText 54 = .ok (.invokevirtual 100, 3) := by decide +kernel
theorem dX4_proposeText_57 : decode cX4_proposeText 57 = .ok (.ireturn, 1) := by decide +kernel
set_option maxRecDepth 20000 in
theorem ggX4_appendCharacter_X3_append : GoodIn wsX4_appendCharacter wsX3_append := goodIn_r _ [10, 11, 12, 25, 26, 27, 28] (by decide +kernel) (by decide +kernel)
set_option maxRecDepth 20000 in
theorem gX4_appendCharacter_X3_append : GoodIn wsX4_appendCharacter (wsV RX4 111 RX3 yX3_append wsX3_append) := goodIn_app (goodIn_of _ (by decide +kernel)) ggX4_appendCharacter_X3_append
theorem dX4_appendCharacter_0 : decode cX4_appendCharacter 0 = .ok (.iload_n 1, 1) := by decide +kernel
theorem dX4_appendCharacter_1 : decode cX4_appendCharacter 1 = .ok (.bipush 33, 2) := by decide +kernel
theorem dX4_appendCharacter_3 : decode cX4_appendCharacter 3 = .ok (.if_icmp .lt 9, 3) := by decide +kernel
theorem dX4_appendCharacter_6 : decode cX4_appendCharacter 6 = .ok (.iload_n 1, 1) := by decide +kernel
theorem dX4_appendCharacter_7 : decode cX4_appendCharacter 7 = .ok (.bipush 126, 2) := by decide +kernel
theorem dX4_appendCharacter_9 : decode cX4_appendCharacter 9 = .ok (.if_icmp .le 13, 3) := by decide +kernel
theorem dX4_appendCharacter_12 : decode cX4_appendCharacter 12 = .ok (.new 51, 3) := by decide +kernel
theorem dX4_appendCharacter_15 : decode cX4_appendCharacter 15 = .ok (.dup, 1) := by decide +kernel
theorem dX4_appendCharacter_16 : decode cX4_appendCharacter 16 = .ok (.ldc 104, 2) := by decide +kernel
theorem dX4_appendCharacter_18 : decode cX4_appendCharacter 18 = .ok (.invokespecial 55, 3) := by decide +kernel
theorem dX4_appendCharacter_21 : decode cX4_appendCharacter 21 = .ok (.athrow, 1) := by decide +kernel
theorem dX4_appendCharacter_22 : decode cX4_appendCharacter 22 = .ok (.aload_n 0, 1) := by decide +kernel
theorem dX4_appendCharacter_23 : decode cX4_appendCharacter 23 = .ok (.getfield 32, 3) := by decide +kernel
theorem dX4_appendCharacter_26 : decode cX4_appendCharacter 26 = .ok (.getfield 106, 3) := by decide +kernel
theorem dX4_appendCharacter_29 : decode cX4_appendCharacter 29 = .ok (.bipush 30, 2) := by decide +kernel
theorem dX4_appendCharacter_31 : decode cX4_appendCharacter 31 = .ok (.if_icmp .lt 13, 3) := by decide +kernel
theorem dX4_appendCharacter_34 : decode cX4_appendCharacter 34 = .ok (.new 62, 3) := by decide +kernel
theorem dX4_appendCharacter_37 : decode cX4_appendCharacter 37 = .ok (.dup, 1) := by decide +kernel
theorem dX4_appendCharacter_38 : decode cX4_appendCharacter 38 = .ok (.ldc 109, 2) := by decide +kernel
theorem dX4_appendCharacter_40 : decode cX4_appendCharacter 40 = .ok (.invokespecial 66, 3) := by decide +kernel
theorem dX4_appendCharacter_43 : decode cX4_appendCharacter 43 = .ok (.athrow, 1) := by decide +kernel
theorem dX4_appendCharacter_44 : decode cX4_appendCharacter 44 = .ok (.aload_n 0, 1) := by decide +kernel
theorem dX4_appendCharacter_45 : decode cX4_appendCharacter 45 = .ok (.getfield 32, 3) := by decide +kernel
theorem dX4_appendCharacter_48 : decode cX4_appendCharacter 48 = .ok (.iload_n 1, 1) := by decide +kernel
theorem dX4_appendCharacter_49 : decode cX4_appendCharacter 49 = .ok (.invokevirtual 111, 3) := by decide +kernel
theorem dX4_appendCharacter_52 : decode cX4_appendCharacter 52 = .ok (.aload_n 0, 1) := by decide +kernel
theorem dX4_appendCharacter_53 : decode cX4_appendCharacter 53 = .ok (.getfield 32, 3) := by decide +kernel
theorem dX4_appendCharacter_56 : decode cX4_appendCharacter 56 = .ok (.getfield 106, 3) := by decide +kernel
theorem dX4_appendCharacter_59 : decode cX4_appendCharacter 59 = .ok (.ireturn, 1) := by decide +kernel
theorem dX4_faultPosition_0 : decode cX4_faultPosition 0 = .ok (.aload_n 0, 1) := by decide +kernel
theorem dX4_faultPosition_1 : decode cX4_faultPosition 1 = .ok (.getfield 32, 3) := by decide +kernel
theorem dX4_faultPosition_4 : decode cX4_faultPosition 4 = .ok (.getfield 91, 3) := by decide +kernel
theorem dX4_faultPosition_7 : decode cX4_faultPosition 7 = .ok (.ireturn, 1) := by decide +kernel
set_option maxRecDepth 20000 in
theorem ggX4_withdraw_X4_requireTask : GoodIn wsX4_withdraw wsX4_requireTask := goodIn_ca (goodIn_r _ [7, 8, 9, 2, 83, 84, 85, 86, 87, 88, 89, 90, 91, 92, 93, 94, 95, 96, 97, 98, 99, 100, 101, 102, 103] (by decide +kernel) (by decide +kernel)) (goodIn_sub (fun _ h => List.mem_cons_of_mem _ (List.mem_append_right _ h)) (by decide +kernel))
set_option maxRecDepth 20000 in
theorem gX4_withdraw_X4_requireTask : GoodIn wsX4_withdraw (wsV RX4 114 RX4 yX4_requireTask wsX4_requireTask) := goodIn_app (goodIn_of _ (by decide +kernel)) ggX4_withdraw_X4_requireTask
set_option maxRecDepth 20000 in
theorem ggX4_withdraw_X0_copyFrom : GoodIn wsX4_withdraw wsX0_copyFrom := goodIn_r _ [14, 15, 16, 17, 18, 19, 13, 20, 21, 22, 23, 24, 25, 26, 27, 95, 96, 97, 98, 99, 100, 101, 102, 103] (by decide +kernel) (by decide +kernel)
set_option maxRecDepth 20000 in
theorem gX4_withdraw_X0_copyFrom : GoodIn wsX4_withdraw (wsV RX4 67 RX0 yX0_copyFrom wsX0_copyFrom) := goodIn_app (goodIn_of _ (by decide +kernel)) ggX4_withdraw_X0_copyFrom
set_option maxRecDepth 20000 in
theorem ggX4_withdraw_X0_removeAt : GoodIn wsX4_withdraw wsX0_removeAt := goodIn_r _ [31, 15, 17, 18, 19, 13, 20, 21, 22, 23, 24, 25, 26, 27, 95, 96, 97, 98, 99, 100, 101, 102, 103] (by decide +kernel) (by decide +kernel)
set_option maxRecDepth 20000 in
theorem gX4_withdraw_X0_removeAt : GoodIn wsX4_withdraw (wsV RX4 117 RX0 yX0_removeAt wsX0_removeAt) := goodIn_app (goodIn_of _ (by decide +kernel)) ggX4_withdraw_X0_removeAt
set_option maxRecDepth 20000 in
theorem ggX4_withdraw_X0_takeGreatestScale : GoodIn wsX4_withdraw wsX0_takeGreatestScale := goodIn_r _ [35, 16, 36, 37, 38, 13, 39, 40, 41, 42, 43, 44, 45, 46, 47, 15, 24, 22, 48, 49, 50, 51, 23, 52, 53, 54, 55, 21, 27, 56, 57, 58, 59, 60, 61, 62, 63, 95, 96, 97, 98, 99, 100, 101, 102, 103] (by decide +kernel) (by decide +kernel)
set_option maxRecDepth 20000 in
theorem gX4_withdraw_X0_takeGreatestScale : GoodIn wsX4_withdraw (wsV RX4 75 RX0 yX0_takeGreatestScale wsX0_takeGreatestScale) := goodIn_app (goodIn_of _ (by decide +kernel)) ggX4_withdraw_X0_takeGreatestScale
set_option maxRecDepth 20000 in
theorem ggX4_withdraw_X4_commitTrial : GoodIn wsX4_withdraw wsX4_commitTrial := goodIn_r _ [67, 68, 2, 1, 69, 70, 71, 72, 73, 74, 75, 76, 77, 78, 79, 80, 81, 82, 11, 12, 13, 14, 15, 16, 17, 18, 19, 20, 21, 22, 23, 24, 25, 26, 27, 10, 83, 84, 85, 86, 87, 88, 89, 90, 91, 92, 93, 94, 104, 105, 106, 95, 96, 97, 98, 99, 100, 101, 102, 103] (by decide +kernel) (by decide +kernel)
set_option maxRecDepth 20000 in
theorem gX4_withdraw_X4_commitTrial : GoodIn wsX4_withdraw (wsV RX4 85 RX4 yX4_commitTrial wsX4_commitTrial) := goodIn_app (goodIn_of _ (by decide +kernel)) ggX4_withdraw_X4_commitTrial
theorem dX4_withdraw_0 : decode cX4_withdraw 0 = .ok (.aload_n 0, 1) := by decide +kernel
theorem dX4_withdraw_1 : decode cX4_withdraw 1 = .ok (.iload_n 1, 1) := by decide +kernel
theorem dX4_withdraw_2 : decode cX4_withdraw 2 = .ok (.invokevirtual 114, 3) := by decide +kernel
theorem dX4_withdraw_5 : decode cX4_withdraw 5 = .ok (.aload_n 0, 1) := by decide +kernel
theorem dX4_withdraw_6 : decode cX4_withdraw 6 = .ok (.getfield 16, 3) := by decide +kernel
theorem dX4_withdraw_9 : decode cX4_withdraw 9 = .ok (.aload_n 0, 1) := by decide +kernel
theorem dX4_withdraw_10 : decode cX4_withdraw 10 = .ok (.getfield 12, 3) := by decide +kernel
theorem dX4_withdraw_13 : decode cX4_withdraw 13 = .ok (.invokevirtual 67, 3) := by decide +kernel
theorem dX4_withdraw_16 : decode cX4_withdraw 16 = .ok (.aload_n 0, 1) := by decide +kernel
theorem dX4_withdraw_17 : decode cX4_withdraw 17 = .ok (.getfield 16, 3) := by decide +kernel
theorem dX4_withdraw_20 : decode cX4_withdraw 20 = .ok (.iload_n 1, 1) := by decide +kernel
theorem dX4_withdraw_21 : decode cX4_withdraw 21 = .ok (.invokevirtual 117, 3) := by decide +kernel
theorem dX4_withdraw_24 : decode cX4_withdraw 24 = .ok (.aload_n 0, 1) := by decide +kernel
theorem dX4_withdraw_25 : decode cX4_withdraw 25 = .ok (.getfield 16, 3) := by decide +kernel
theorem dX4_withdraw_28 : decode cX4_withdraw 28 = .ok (.invokevirtual 75, 3) := by decide +kernel
theorem dX4_withdraw_31 : decode cX4_withdraw 31 = .ok (.pop, 1) := by decide +kernel
theorem dX4_withdraw_32 : decode cX4_withdraw 32 = .ok (.aload_n 0, 1) := by decide +kernel
theorem dX4_withdraw_33 : decode cX4_withdraw 33 = .ok (.invokevirtual 85, 3) := by decide +kernel
theorem dX4_withdraw_36 : decode cX4_withdraw 36 = .ok (.aload_n 0, 1) := by decide +kernel
theorem dX4_withdraw_37 : decode cX4_withdraw 37 = .ok (.getfield 12, 3) := by decide +kernel
theorem dX4_withdraw_40 : decode cX4_withdraw 40 = .ok (.getfield 58, 3) := by decide +kernel
theorem dX4_withdraw_43 : decode cX4_withdraw 43 = .ok (.ireturn, 1) := by decide +kernel
set_option maxRecDepth 20000 in
theorem ggX4_upgrade_X0_copyFrom : GoodIn wsX4_upgrade wsX0_copyFrom := goodIn_r _ [7, 8, 9, 10, 11, 12, 6, 13, 14, 15, 16, 17, 18, 19, 20, 90, 91, 92, 93, 94, 95, 96, 97, 98] (by decide +kernel) (by decide +kernel)
set_option maxRecDepth 20000 in
theorem gX4_upgrade_X0_copyFrom : GoodIn wsX4_upgrade (wsV RX4 67 RX0 yX0_copyFrom wsX0_copyFrom) := goodIn_app (goodIn_of _ (by decide +kernel)) ggX4_upgrade_X0_copyFrom
set_option maxRecDepth 20000 in
theorem ggX4_upgrade_X0_lowerLevel : GoodIn wsX4_upgrade wsX0_lowerLevel := goodIn_r _ [24, 20, 25, 26, 27, 6, 28, 9, 29, 30, 31, 32, 33, 34, 35, 36, 37, 38, 39, 40, 8, 17, 15, 41, 42, 43, 44, 16, 45, 46, 47, 48, 14, 49, 50, 51, 52, 53, 54, 55, 56, 90, 91, 92, 93, 94, 95, 96, 97, 98] (by decide +kernel) (by decide +kernel)
set_option maxRecDepth 20000 in
theorem gX4_upgrade_X0_lowerLevel : GoodIn wsX4_upgrade (wsV RX4 123 RX0 yX0_lowerLevel wsX0_lowerLevel) := goodIn_app (goodIn_of _ (by decide +kernel)) ggX4_upgrade_X0_lowerLevel
set_option maxRecDepth 20000 in
theorem ggX4_upgrade_X0_takeGreatestScale : GoodIn wsX4_upgrade wsX0_takeGreatestScale := goodIn_r _ [28, 9, 29, 30, 31, 6, 32, 33, 34, 35, 36, 37, 38, 39, 40, 8, 17, 15, 41, 42, 43, 44, 16, 45, 46, 47, 48, 14, 20, 49, 50, 51, 52, 53, 54, 55, 56, 90, 91, 92, 93, 94, 95, 96, 97, 98] (by decide +kernel) (by decide +kernel)
set_option maxRecDepth 20000 in
theorem gX4_upgrade_X0_takeGreatestScale : GoodIn wsX4_upgrade (wsV RX4 75 RX0 yX0_takeGreatestScale wsX0_takeGreatestScale) := goodIn_app (goodIn_of _ (by decide +kernel)) ggX4_upgrade_X0_takeGreatestScale
set_option maxRecDepth 20000 in
theorem ggX4_upgrade_X4_commitTrial : GoodIn wsX4_upgrade wsX4_commitTrial := goodIn_r _ [62, 63, 2, 1, 64, 65, 66, 67, 68, 69, 70, 71, 72, 73, 74, 75, 76, 77, 4, 5, 6, 7, 8, 9, 10, 11, 12, 13, 14, 15, 16, 17, 18, 19, 20, 3, 78, 79, 80, 81, 82, 83, 84, 85, 86, 87, 88, 89, 99, 100, 101, 90, 91, 92, 93, 94, 95, 96, 97, 98] (by decide +kernel) (by decide +kernel)
set_option maxRecDepth 20000 in
theorem gX4_upgrade_X4_commitTrial : GoodIn wsX4_upgrade (wsV RX4 85 RX4 yX4_commitTrial wsX4_commitTrial) := goodIn_app (goodIn_of _ (by decide +kernel)) ggX4_upgrade_X4_commitTrial
theorem dX4_upgrade_0 : decode cX4_upgrade 0 = .ok (.aload_n 0, 1) := by decide +kernel
theorem dX4_upgrade_1 : decode cX4_upgrade 1 = .ok (.getfield 16, 3) := by decide +kernel
theorem dX4_upgrade_4 : decode cX4_upgrade 4 = .ok (.aload_n 0, 1) := by decide +kernel
theorem dX4_upgrade_5 : decode cX4_upgrade 5 = .ok (.getfield 12, 3) := by decide +kernel
theorem dX4_upgrade_8 : decode cX4_upgrade 8 = .ok (.invokevirtual 67, 3) := by decide +kernel
theorem dX4_upgrade_11 : decode cX4_upgrade 11 = .ok (.iconst 0, 1) := by decide +kernel
theorem dX4_upgrade_12 : decode cX4_upgrade 12 = .ok (.istore_n 1, 1) := by decide +kernel
theorem dX4_upgrade_13 : decode cX4_upgrade 13 = .ok (.bipush 9, 2) := by decide +kernel
theorem dX4_upgrade_15 : decode cX4_upgrade 15 = .ok (.istore_n 2, 1) := by decide +kernel
theorem dX4_upgrade_16 : decode cX4_upgrade 16 = .ok (.iload_n 2, 1) := by decide +kernel
theorem dX4_upgrade_17 : decode cX4_upgrade 17 = .ok (.ifCond .lt 52, 3) := by decide +kernel
theorem dX4_upgrade_20 : decode cX4_upgrade 20 = .ok (.iconst 0, 1) := by decide +kernel
theorem dX4_upgrade_21 : decode cX4_upgrade 21 = .ok (.istore_n 3, 1) := by decide +kernel
theorem dX4_upgrade_22 : decode cX4_upgrade 22 = .ok (.iload_n 3, 1) := by decide +kernel
theorem dX4_upgrade_23 : decode cX4_upgrade 23 = .ok (.aload_n 0, 1) := by decide +kernel
theorem dX4_upgrade_24 : decode cX4_upgrade 24 = .ok (.getfield 16, 3) := by decide +kernel
theorem dX4_upgrade_27 : decode cX4_upgrade 27 = .ok (.getfield 58, 3) := by decide +kernel
theorem dX4_upgrade_30 : decode cX4_upgrade 30 = .ok (.if_icmp .ge 33, 3) := by decide +kernel
theorem dX4_upgrade_33 : decode cX4_upgrade 33 = .ok (.aload_n 0, 1) := by decide +kernel
theorem dX4_upgrade_34 : decode cX4_upgrade 34 = .ok (.getfield 16, 3) := by decide +kernel
theorem dX4_upgrade_37 : decode cX4_upgrade 37 = .ok (.getfield 120, 3) := by decide +kernel
theorem dX4_upgrade_40 : decode cX4_upgrade 40 = .ok (.iload_n 3, 1) := by decide +kernel
theorem dX4_upgrade_41 : decode cX4_upgrade 41 = .ok (.iaload, 1) := by decide +kernel
theorem dX4_upgrade_42 : decode cX4_upgrade 42 = .ok (.iload_n 2, 1) := by decide +kernel
theorem dX4_upgrade_43 : decode cX4_upgrade 43 = .ok (.if_icmp .ne 14, 3) := by decide +kernel
theorem dX4_upgrade_46 : decode cX4_upgrade 46 = .ok (.iload_n 1, 1) := by decide +kernel
theorem dX4_upgrade_47 : decode cX4_upgrade 47 = .ok (.aload_n 0, 1) := by decide +kernel
theorem dX4_upgrade_48 : decode cX4_upgrade 48 = .ok (.getfield 16, 3) := by decide +kernel
theorem dX4_upgrade_51 : decode cX4_upgrade 51 = .ok (.iload_n 3, 1) := by decide +kernel
theorem dX4_upgrade_52 : decode cX4_upgrade 52 = .ok (.invokevirtual 123, 3) := by decide +kernel
theorem dX4_upgrade_55 : decode cX4_upgrade 55 = .ok (.iadd, 1) := by decide +kernel
theorem dX4_upgrade_56 : decode cX4_upgrade 56 = .ok (.istore_n 1, 1) := by decide +kernel
theorem dX4_upgrade_57 : decode cX4_upgrade 57 = .ok (.iinc 3 1, 3) := by decide +kernel
theorem dX4_upgrade_60 : decode cX4_upgrade 60 = .ok (.goto (-38), 3) := by decide +kernel
theorem dX4_upgrade_63 : decode cX4_upgrade 63 = .ok (.iinc 2 (-1), 3) := by decide +kernel
theorem dX4_upgrade_66 : decode cX4_upgrade 66 = .ok (.goto (-50), 3) := by decide +kernel
theorem dX4_upgrade_69 : decode cX4_upgrade 69 = .ok (.aload_n 0, 1) := by decide +kernel
theorem dX4_upgrade_70 : decode cX4_upgrade 70 = .ok (.getfield 16, 3) := by decide +kernel
theorem dX4_upgrade_73 : decode cX4_upgrade 73 = .ok (.invokevirtual 75, 3) := by decide +kernel
theorem dX4_upgrade_76 : decode cX4_upgrade 76 = .ok (.pop, 1) := by decide +kernel
theorem dX4_upgrade_77 : decode cX4_upgrade 77 = .ok (.aload_n 0, 1) := by decide +kernel
theorem dX4_upgrade_78 : decode cX4_upgrade 78 = .ok (.invokevirtual 85, 3) := by decide +kernel
theorem dX4_upgrade_81 : decode cX4_upgrade 81 = .ok (.iload_n 1, 1) := by decide +kernel
theorem dX4_upgrade_82 : decode cX4_upgrade 82 = .ok (.ireturn, 1) := by decide +kernel
set_option maxRecDepth 20000 in
theorem ggX4_setLevel_X4_requireTask : GoodIn wsX4_setLevel wsX4_requireTask := goodIn_ca (goodIn_r _ [11, 12, 13, 5, 83, 84, 85, 86, 87, 88, 89, 90, 91, 92, 93, 94, 95, 96, 97, 98, 99, 100, 101, 102, 103] (by decide +kernel) (by decide +kernel)) (goodIn_sub (fun _ h => List.mem_cons_of_mem _ (List.mem_append_right _ h)) (by decide +kernel))
set_option maxRecDepth 20000 in
theorem gX4_setLevel_X4_requireTask : GoodIn wsX4_setLevel (wsV RX4 114 RX4 yX4_requireTask wsX4_requireTask) := goodIn_app (goodIn_of _ (by decide +kernel)) ggX4_setLevel_X4_requireTask
set_option maxRecDepth 20000 in
theorem ggX4_setLevel_X0_copyFrom : GoodIn wsX4_setLevel wsX0_copyFrom := goodIn_r _ [18, 19, 20, 21, 22, 23, 17, 24, 25, 26, 27, 28, 29, 30, 31, 95, 96, 97, 98, 99, 100, 101, 102, 103] (by decide +kernel) (by decide +kernel)
set_option maxRecDepth 20000 in
theorem gX4_setLevel_X0_copyFrom : GoodIn wsX4_setLevel (wsV RX4 67 RX0 yX0_copyFrom wsX0_copyFrom) := goodIn_app (goodIn_of _ (by decide +kernel)) ggX4_setLevel_X0_copyFrom
set_option maxRecDepth 20000 in
theorem ggX4_setLevel_X0_takeGreatestScale : GoodIn wsX4_setLevel wsX0_takeGreatestScale := goodIn_r _ [35, 20, 36, 37, 38, 17, 39, 40, 41, 42, 43, 44, 45, 46, 47, 19, 28, 26, 48, 49, 50, 51, 27, 52, 53, 54, 55, 25, 31, 56, 57, 58, 59, 60, 61, 62, 63, 95, 96, 97, 98, 99, 100, 101, 102, 103] (by decide +kernel) (by decide +kernel)
set_option maxRecDepth 20000 in
theorem gX4_setLevel_X0_takeGreatestScale : GoodIn wsX4_setLevel (wsV RX4 75 RX0 yX0_takeGreatestScale wsX0_takeGreatestScale) := goodIn_app (goodIn_of _ (by decide +kernel)) ggX4_setLevel_X0_takeGreatestScale
set_option maxRecDepth 20000 in
theorem ggX4_setLevel_X4_commitTrial : GoodIn wsX4_setLevel wsX4_commitTrial := goodIn_r _ [67, 68, 5, 6, 69, 70, 71, 72, 73, 74, 75, 76, 77, 78, 79, 80, 81, 82, 15, 16, 17, 18, 19, 20, 21, 22, 23, 24, 25, 26, 27, 28, 29, 30, 31, 14, 83, 84, 85, 86, 87, 88, 89, 90, 91, 92, 93, 94, 104, 105, 106, 95, 96, 97, 98, 99, 100, 101, 102, 103] (by decide +kernel) (by decide +kernel)
set_option maxRecDepth 20000 in
theorem gX4_setLevel_X4_commitTrial : GoodIn wsX4_setLevel (wsV RX4 85 RX4 yX4_commitTrial wsX4_commitTrial) := goodIn_app (goodIn_of _ (by decide +kernel)) ggX4_setLevel_X4_commitTrial
theorem dX4_setLevel_0 : decode cX4_setLevel 0 = .ok (.aload_n 0, 1) := by decide +kernel
theorem dX4_setLevel_1 : decode cX4_setLevel 1 = .ok (.iload_n 1, 1) := by decide +kernel
theorem dX4_setLevel_2 : decode cX4_setLevel 2 = .ok (.invokevirtual 114, 3) := by decide +kernel
theorem dX4_setLevel_5 : decode cX4_setLevel 5 = .ok (.iload_n 2, 1) := by decide +kernel
theorem dX4_setLevel_6 : decode cX4_setLevel 6 = .ok (.ifCond .lt 16, 3) := by decide +kernel
theorem dX4_setLevel_9 : decode cX4_setLevel 9 = .ok (.iload_n 2, 1) := by decide +kernel
theorem dX4_setLevel_10 : decode cX4_setLevel 10 = .ok (.aload_n 0, 1) := by decide +kernel
theorem dX4_setLevel_11 : decode cX4_setLevel 11 = .ok (.getfield 12, 3) := by decide +kernel
theorem dX4_setLevel_14 : decode cX4_setLevel 14 = .ok (.getfield 127, 3) := by decide +kernel
theorem dX4_setLevel_17 : decode cX4_setLevel 17 = .ok (.iload_n 1, 1) := by decide +kernel
theorem dX4_setLevel_18 : decode cX4_setLevel 18 = .ok (.iaload, 1) := by decide +kernel
theorem dX4_setLevel_19 : decode cX4_setLevel 19 = .ok (.if_icmp .le 13, 3) := by decide +kernel
theorem dX4_setLevel_22 : decode cX4_setLevel 22 = .ok (.new 51, 3) := by decide +kernel
theorem dX4_setLevel_25 : decode cX4_setLevel 25 = .ok (.dup, 1) := by decide +kernel
theorem dX4_setLevel_26 : decode cX4_setLevel 26 = .ok (.ldc 130, 2) := by decide +kernel
theorem dX4_setLevel_28 : decode cX4_setLevel 28 = .ok (.invokespecial 55, 3) := by decide +kernel
theorem dX4_setLevel_31 : decode cX4_setLevel 31 = .ok (.athrow, 1) := by decide +kernel
theorem dX4_setLevel_32 : decode cX4_setLevel 32 = .ok (.aload_n 0, 1) := by decide +kernel
theorem dX4_setLevel_33 : decode cX4_setLevel 33 = .ok (.getfield 12, 3) := by decide +kernel
theorem dX4_setLevel_36 : decode cX4_setLevel 36 = .ok (.getfield 132, 3) := by decide +kernel
theorem dX4_setLevel_39 : decode cX4_setLevel 39 = .ok (.iload_n 1, 1) := by decide +kernel
theorem dX4_setLevel_40 : decode cX4_setLevel 40 = .ok (.iaload, 1) := by decide +kernel
theorem dX4_setLevel_41 : decode cX4_setLevel 41 = .ok (.istore_n 3, 1) := by decide +kernel
theorem dX4_setLevel_42 : decode cX4_setLevel 42 = .ok (.aload_n 0, 1) := by decide +kernel
theorem dX4_setLevel_43 : decode cX4_setLevel 43 = .ok (.getfield 16, 3) := by decide +kernel
theorem dX4_setLevel_46 : decode cX4_setLevel 46 = .ok (.aload_n 0, 1) := by decide +kernel
theorem dX4_setLevel_47 : decode cX4_setLevel 47 = .ok (.getfield 12, 3) := by decide +kernel
theorem dX4_setLevel_50 : decode cX4_setLevel 50 = .ok (.invokevirtual 67, 3) := by decide +kernel
theorem dX4_setLevel_53 : decode cX4_setLevel 53 = .ok (.aload_n 0, 1) := by decide +kernel
theorem dX4_setLevel_54 : decode cX4_setLevel 54 = .ok (.getfield 16, 3) := by decide +kernel
theorem dX4_setLevel_57 : decode cX4_setLevel 57 = .ok (.getfield 132, 3) := by decide +kernel
theorem dX4_setLevel_60 : decode cX4_setLevel 60 = .ok (.iload_n 1, 1) := by decide +kernel
theorem dX4_setLevel_61 : decode cX4_setLevel 61 = .ok (.iload_n 2, 1) := by decide +kernel
theorem dX4_setLevel_62 : decode cX4_setLevel 62 = .ok (.iastore, 1) := by decide +kernel
theorem dX4_setLevel_63 : decode cX4_setLevel 63 = .ok (.aload_n 0, 1) := by decide +kernel
theorem dX4_setLevel_64 : decode cX4_setLevel 64 = .ok (.getfield 16, 3) := by decide +kernel
theorem dX4_setLevel_67 : decode cX4_setLevel 67 = .ok (.invokevirtual 75, 3) := by decide +kernel
theorem dX4_setLevel_70 : decode cX4_setLevel 70 = .ok (.ifCond .ne 13, 3) := by decide +kernel
theorem dX4_setLevel_73 : decode cX4_setLevel 73 = .ok (.new 62, 3) := by decide +kernel
theorem dX4_setLevel_76 : decode cX4_setLevel 76 = .ok (.dup, 1) := by decide +kernel
theorem dX4_setLevel_77 : decode cX4_setLevel 77 = .ok (.ldc 135, 2) := by decide +kernel
theorem dX4_setLevel_79 : decode cX4_setLevel 79 = .ok (.invokespecial 66, 3) := by decide +kernel
theorem dX4_setLevel_82 : decode cX4_setLevel 82 = .ok (.athrow, 1) := by decide +kernel
theorem dX4_setLevel_83 : decode cX4_setLevel 83 = .ok (.aload_n 0, 1) := by decide +kernel
theorem dX4_setLevel_84 : decode cX4_setLevel 84 = .ok (.invokevirtual 85, 3) := by decide +kernel
theorem dX4_setLevel_87 : decode cX4_setLevel 87 = .ok (.iload_n 3, 1) := by decide +kernel
theorem dX4_setLevel_88 : decode cX4_setLevel 88 = .ok (.ireturn, 1) := by decide +kernel
set_option maxRecDepth 20000 in
theorem ggX4_undo_X1_takeBackInto : GoodIn wsX4_undo wsX1_takeBackInto := goodIn_r _ [10, 11, 12, 13, 14, 15, 16, 17, 18, 19, 20, 21, 22, 23, 24, 25, 26, 27, 28, 29, 30, 31, 44, 45, 46, 47, 48, 49, 50, 51, 52, 53, 54, 55] (by decide +kernel) (by decide +kernel)
set_option maxRecDepth 20000 in
theorem gX4_undo_X1_takeBackInto : GoodIn wsX4_undo (wsV RX4 142 RX1 yX1_takeBackInto wsX1_takeBackInto) := goodIn_app (goodIn_of _ (by decide +kernel)) ggX4_undo_X1_takeBackInto
theorem dX4_undo_0 : decode cX4_undo 0 = .ok (.aload_n 0, 1) := by decide +kernel
theorem dX4_undo_1 : decode cX4_undo 1 = .ok (.getfield 25, 3) := by decide +kernel
theorem dX4_undo_4 : decode cX4_undo 4 = .ok (.getfield 137, 3) := by decide +kernel
theorem dX4_undo_7 : decode cX4_undo 7 = .ok (.ifCond .ne 13, 3) := by decide +kernel
theorem dX4_undo_10 : decode cX4_undo 10 = .ok (.new 62, 3) := by decide +kernel
theorem dX4_undo_13 : decode cX4_undo 13 = .ok (.dup, 1) := by decide +kernel
theorem dX4_undo_14 : decode cX4_undo 14 = .ok (.ldc 140, 2) := by decide +kernel
theorem dX4_undo_16 : decode cX4_undo 16 = .ok (.invokespecial 66, 3) := by decide +kernel
theorem dX4_undo_19 : decode cX4_undo 19 = .ok (.athrow, 1) := by decide +kernel
theorem dX4_undo_20 : decode cX4_undo 20 = .ok (.aload_n 0, 1) := by decide +kernel
theorem dX4_undo_21 : decode cX4_undo 21 = .ok (.getfield 25, 3) := by decide +kernel
theorem dX4_undo_24 : decode cX4_undo 24 = .ok (.aload_n 0, 1) := by decide +kernel
theorem dX4_undo_25 : decode cX4_undo 25 = .ok (.getfield 12, 3) := by decide +kernel
theorem dX4_undo_28 : decode cX4_undo 28 = .ok (.invokevirtual 142, 3) := by decide +kernel
theorem dX4_undo_31 : decode cX4_undo 31 = .ok (.aload_n 0, 1) := by decide +kernel
theorem dX4_undo_32 : decode cX4_undo 32 = .ok (.iconst 0, 1) := by decide +kernel
theorem dX4_undo_33 : decode cX4_undo 33 = .ok (.putfield 145, 3) := by decide +kernel
theorem dX4_undo_36 : decode cX4_undo 36 = .ok (.aload_n 0, 1) := by decide +kernel
theorem dX4_undo_37 : decode cX4_undo 37 = .ok (.getfield 25, 3) := by decide +kernel
theorem dX4_undo_40 : decode cX4_undo 40 = .ok (.getfield 137, 3) := by decide +kernel
theorem dX4_undo_43 : decode cX4_undo 43 = .ok (.ireturn, 1) := by decide +kernel
set_option maxRecDepth 20000 in
theorem ggX4_save_X0_copyFrom : GoodIn wsX4_save wsX0_copyFrom := goodIn_r _ [8, 9, 10, 11, 12, 13, 7, 14, 15, 16, 17, 18, 19, 20, 21, 34, 35, 36, 37, 38, 39, 40, 41, 42] (by decide +kernel) (by decide +kernel)
set_option maxRecDepth 20000 in
theorem gX4_save_X0_copyFrom : GoodIn wsX4_save (wsV RX4 67 RX0 yX0_copyFrom wsX0_copyFrom) := goodIn_app (goodIn_of _ (by decide +kernel)) ggX4_save_X0_copyFrom
theorem dX4_save_0 : decode cX4_save 0 = .ok (.aload_n 0, 1) := by decide +kernel
theorem dX4_save_1 : decode cX4_save 1 = .ok (.getfield 19, 3) := by decide +kernel
theorem dX4_save_4 : decode cX4_save 4 = .ok (.aload_n 0, 1) := by decide +kernel
theorem dX4_save_5 : decode cX4_save 5 = .ok (.getfield 12, 3) := by decide +kernel
theorem dX4_save_8 : decode cX4_save 8 = .ok (.invokevirtual 67, 3) := by decide +kernel
theorem dX4_save_11 : decode cX4_save 11 = .ok (.aload_n 0, 1) := by decide +kernel
theorem dX4_save_12 : decode cX4_save 12 = .ok (.iconst 1, 1) := by decide +kernel
theorem dX4_save_13 : decode cX4_save 13 = .ok (.putfield 149, 3) := by decide +kernel
theorem dX4_save_16 : decode cX4_save 16 = .ok (.return_, 1) := by decide +kernel
set_option maxRecDepth 20000 in
theorem ggX4_restore_X0_copyFrom : GoodIn wsX4_restore wsX0_copyFrom := goodIn_r _ [11, 12, 13, 14, 15, 16, 10, 17, 18, 19, 20, 21, 22, 23, 24, 57, 58, 59, 60, 61, 62, 63, 64, 65] (by decide +kernel) (by decide +kernel)
set_option maxRecDepth 20000 in
theorem gX4_restore_X0_copyFrom : GoodIn wsX4_restore (wsV RX4 67 RX0 yX0_copyFrom wsX0_copyFrom) := goodIn_app (goodIn_of _ (by decide +kernel)) ggX4_restore_X0_copyFrom
set_option maxRecDepth 20000 in
theorem ggX4_restore_X4_commitTrial : GoodIn wsX4_restore wsX4_commitTrial := goodIn_r _ [29, 30, 6, 4, 31, 32, 33, 34, 35, 36, 37, 38, 39, 40, 41, 42, 43, 44, 8, 9, 10, 11, 12, 13, 14, 15, 16, 17, 18, 19, 20, 21, 22, 23, 24, 7, 45, 46, 47, 48, 49, 50, 51, 52, 53, 54, 55, 56, 66, 67, 68, 57, 58, 59, 60, 61, 62, 63, 64, 65] (by decide +kernel) (by decide +kernel)
set_option maxRecDepth 20000 in
theorem gX4_restore_X4_commitTrial : GoodIn wsX4_restore (wsV RX4 85 RX4 yX4_commitTrial wsX4_commitTrial) := goodIn_app (goodIn_of _ (by decide +kernel)) ggX4_restore_X4_commitTrial
theorem dX4_restore_0 : decode cX4_restore 0 = .ok (.aload_n 0, 1) := by decide +kernel
theorem dX4_restore_1 : decode cX4_restore 1 = .ok (.getfield 149, 3) := by decide +kernel
theorem dX4_restore_4 : decode cX4_restore 4 = .ok (.ifCond .ne 13, 3) := by decide +kernel
theorem dX4_restore_7 : decode cX4_restore 7 = .ok (.new 62, 3) := by decide +kernel
theorem dX4_restore_10 : decode cX4_restore 10 = .ok (.dup, 1) := by decide +kernel
theorem dX4_restore_11 : decode cX4_restore 11 = .ok (.ldc 152, 2) := by decide +kernel
theorem dX4_restore_13 : decode cX4_restore 13 = .ok (.invokespecial 66, 3) := by decide +kernel
theorem dX4_restore_16 : decode cX4_restore 16 = .ok (.athrow, 1) := by decide +kernel
theorem dX4_restore_17 : decode cX4_restore 17 = .ok (.aload_n 0, 1) := by decide +kernel
theorem dX4_restore_18 : decode cX4_restore 18 = .ok (.getfield 16, 3) := by decide +kernel
theorem dX4_restore_21 : decode cX4_restore 21 = .ok (.aload_n 0, 1) := by decide +kernel
theorem dX4_restore_22 : decode cX4_restore 22 = .ok (.getfield 19, 3) := by decide +kernel
theorem dX4_restore_25 : decode cX4_restore 25 = .ok (.invokevirtual 67, 3) := by decide +kernel
theorem dX4_restore_28 : decode cX4_restore 28 = .ok (.aload_n 0, 1) := by decide +kernel
theorem dX4_restore_29 : decode cX4_restore 29 = .ok (.invokevirtual 85, 3) := by decide +kernel
theorem dX4_restore_32 : decode cX4_restore 32 = .ok (.aload_n 0, 1) := by decide +kernel
theorem dX4_restore_33 : decode cX4_restore 33 = .ok (.getfield 12, 3) := by decide +kernel
theorem dX4_restore_36 : decode cX4_restore 36 = .ok (.getfield 58, 3) := by decide +kernel
theorem dX4_restore_39 : decode cX4_restore 39 = .ok (.ireturn, 1) := by decide +kernel
theorem dX4_taskCount_0 : decode cX4_taskCount 0 = .ok (.aload_n 0, 1) := by decide +kernel
theorem dX4_taskCount_1 : decode cX4_taskCount 1 = .ok (.getfield 12, 3) := by decide +kernel
theorem dX4_taskCount_4 : decode cX4_taskCount 4 = .ok (.getfield 58, 3) := by decide +kernel
theorem dX4_taskCount_7 : decode cX4_taskCount 7 = .ok (.ireturn, 1) := by decide +kernel
theorem dX4_scale_0 : decode cX4_scale 0 = .ok (.aload_n 0, 1) := by decide +kernel
theorem dX4_scale_1 : decode cX4_scale 1 = .ok (.getfield 12, 3) := by decide +kernel
theorem dX4_scale_4 : decode cX4_scale 4 = .ok (.getfield 154, 3) := by decide +kernel
theorem dX4_scale_7 : decode cX4_scale 7 = .ok (.ireturn, 1) := by decide +kernel
set_option maxRecDepth 20000 in
theorem ggX4_period_X4_requireTask : GoodIn wsX4_period wsX4_requireTask := goodIn_ca (goodIn_r _ [6, 7, 8, 1, 16, 17, 18, 19, 20, 21, 22, 23, 24, 25, 26, 27, 28, 29, 30, 31, 32, 33, 34, 35, 36] (by decide +kernel) (by decide +kernel)) (goodIn_sub (fun _ h => List.mem_cons_of_mem _ (List.mem_append_right _ h)) (by decide +kernel))
set_option maxRecDepth 20000 in
theorem gX4_period_X4_requireTask : GoodIn wsX4_period (wsV RX4 114 RX4 yX4_requireTask wsX4_requireTask) := goodIn_app (goodIn_of _ (by decide +kernel)) ggX4_period_X4_requireTask
set_option maxRecDepth 20000 in
theorem ggX4_period_X0_effectivePeriod : GoodIn wsX4_period wsX0_effectivePeriod := goodIn_r _ [13, 14, 15, 28, 29, 30, 31, 32, 33, 34, 35, 36] (by decide +kernel) (by decide +kernel)
set_option maxRecDepth 20000 in
theorem gX4_period_X0_effectivePeriod : GoodIn wsX4_period (wsV RX4 157 RX0 yX0_effectivePeriod wsX0_effectivePeriod) := goodIn_app (goodIn_of _ (by decide +kernel)) ggX4_period_X0_effectivePeriod
theorem dX4_period_0 : decode cX4_period 0 = .ok (.aload_n 0, 1) := by decide +kernel
theorem dX4_period_1 : decode cX4_period 1 = .ok (.iload_n 1, 1) := by decide +kernel
theorem dX4_period_2 : decode cX4_period 2 = .ok (.invokevirtual 114, 3) := by decide +kernel
theorem dX4_period_5 : decode cX4_period 5 = .ok (.aload_n 0, 1) := by decide +kernel
theorem dX4_period_6 : decode cX4_period 6 = .ok (.getfield 12, 3) := by decide +kernel
theorem dX4_period_9 : decode cX4_period 9 = .ok (.iload_n 1, 1) := by decide +kernel
theorem dX4_period_10 : decode cX4_period 10 = .ok (.invokevirtual 157, 3) := by decide +kernel
theorem dX4_period_13 : decode cX4_period 13 = .ok (.ireturn, 1) := by decide +kernel
set_option maxRecDepth 20000 in
theorem ggX4_deadline_X4_requireTask : GoodIn wsX4_deadline wsX4_requireTask := goodIn_ca (goodIn_r _ [6, 7, 8, 1, 9, 10, 11, 12, 13, 14, 15, 16, 17, 18, 19, 20, 21, 22, 23, 24, 25, 26, 27, 28, 29] (by decide +kernel) (by decide +kernel)) (goodIn_sub (fun _ h => List.mem_cons_of_mem _ (List.mem_append_right _ h)) (by decide +kernel))
set_option maxRecDepth 20000 in
theorem gX4_deadline_X4_requireTask : GoodIn wsX4_deadline (wsV RX4 114 RX4 yX4_requireTask wsX4_requireTask) := goodIn_app (goodIn_of _ (by decide +kernel)) ggX4_deadline_X4_requireTask
theorem dX4_deadline_0 : decode cX4_deadline 0 = .ok (.aload_n 0, 1) := by decide +kernel
theorem dX4_deadline_1 : decode cX4_deadline 1 = .ok (.iload_n 1, 1) := by decide +kernel
theorem dX4_deadline_2 : decode cX4_deadline 2 = .ok (.invokevirtual 114, 3) := by decide +kernel
theorem dX4_deadline_5 : decode cX4_deadline 5 = .ok (.aload_n 0, 1) := by decide +kernel
theorem dX4_deadline_6 : decode cX4_deadline 6 = .ok (.getfield 12, 3) := by decide +kernel
theorem dX4_deadline_9 : decode cX4_deadline 9 = .ok (.getfield 160, 3) := by decide +kernel
theorem dX4_deadline_12 : decode cX4_deadline 12 = .ok (.iload_n 1, 1) := by decide +kernel
theorem dX4_deadline_13 : decode cX4_deadline 13 = .ok (.iaload, 1) := by decide +kernel
theorem dX4_deadline_14 : decode cX4_deadline 14 = .ok (.ireturn, 1) := by decide +kernel
set_option maxRecDepth 20000 in
theorem ggX4_virtualDeadline_X4_requireTask : GoodIn wsX4_virtualDeadline wsX4_requireTask := goodIn_ca (goodIn_r _ [6, 7, 8, 1, 17, 18, 19, 20, 21, 22, 23, 24, 25, 26, 27, 28, 29, 30, 31, 32, 33, 34, 35, 36, 37] (by decide +kernel) (by decide +kernel)) (goodIn_sub (fun _ h => List.mem_cons_of_mem _ (List.mem_append_right _ h)) (by decide +kernel))
set_option maxRecDepth 20000 in
theorem gX4_virtualDeadline_X4_requireTask : GoodIn wsX4_virtualDeadline (wsV RX4 114 RX4 yX4_requireTask wsX4_requireTask) := goodIn_app (goodIn_of _ (by decide +kernel)) ggX4_virtualDeadline_X4_requireTask
set_option maxRecDepth 20000 in
theorem ggX4_virtualDeadline_X0_deadlineWithScale : GoodIn wsX4_virtualDeadline wsX0_deadlineWithScale := goodIn_r _ [13, 14, 15, 16, 29, 30, 31, 32, 33, 34, 35, 36, 37] (by decide +kernel) (by decide +kernel)
set_option maxRecDepth 20000 in
theorem gX4_virtualDeadline_X0_deadlineWithScale : GoodIn wsX4_virtualDeadline (wsV RX4 163 RX0 yX0_deadlineWithScale wsX0_deadlineWithScale) := goodIn_app (goodIn_of _ (by decide +kernel)) ggX4_virtualDeadline_X0_deadlineWithScale
theorem dX4_virtualDeadline_0 : decode cX4_virtualDeadline 0 = .ok (.aload_n 0, 1) := by decide +kernel
theorem dX4_virtualDeadline_1 : decode cX4_virtualDeadline 1 = .ok (.iload_n 1, 1) := by decide +kernel
theorem dX4_virtualDeadline_2 : decode cX4_virtualDeadline 2 = .ok (.invokevirtual 114, 3) := by decide +kernel
theorem dX4_virtualDeadline_5 : decode cX4_virtualDeadline 5 = .ok (.aload_n 0, 1) := by decide +kernel
theorem dX4_virtualDeadline_6 : decode cX4_virtualDeadline 6 = .ok (.getfield 12, 3) := by decide +kernel
theorem dX4_virtualDeadline_9 : decode cX4_virtualDeadline 9 = .ok (.iload_n 1, 1) := by decide +kernel
theorem dX4_virtualDeadline_10 : decode cX4_virtualDeadline 10 = .ok (.aload_n 0, 1) := by decide +kernel
theorem dX4_virtualDeadline_11 : decode cX4_virtualDeadline 11 = .ok (.getfield 12, 3) := by decide +kernel
theorem dX4_virtualDeadline_14 : decode cX4_virtualDeadline 14 = .ok (.getfield 154, 3) := by decide +kernel
theorem dX4_virtualDeadline_17 : decode cX4_virtualDeadline 17 = .ok (.invokevirtual 163, 3) := by decide +kernel
theorem dX4_virtualDeadline_20 : decode cX4_virtualDeadline 20 = .ok (.ireturn, 1) := by decide +kernel
set_option maxRecDepth 20000 in
theorem ggX4_budget_X4_requireTask : GoodIn wsX4_budget wsX4_requireTask := goodIn_ca (goodIn_r _ [8, 9, 10, 3, 22, 23, 24, 25, 26, 27, 28, 29, 30, 31, 32, 33, 34, 35, 36, 37, 38, 39, 40, 41, 42] (by decide +kernel) (by decide +kernel)) (goodIn_sub (fun _ h => List.mem_cons_of_mem _ (List.mem_append_left _ (List.mem_append_right _ h))) (by decide +kernel))
set_option maxRecDepth 20000 in
theorem gX4_budget_X4_requireTask : GoodIn wsX4_budget (wsV RX4 114 RX4 yX4_requireTask wsX4_requireTask) := goodIn_app (goodIn_of _ (by decide +kernel)) ggX4_budget_X4_requireTask
set_option maxRecDepth 20000 in
theorem ggX4_budget_X4_requireMode : GoodIn wsX4_budget wsX4_requireMode := goodIn_ca (goodIn_r _ [13, 14, 15] (by decide +kernel) (by decide +kernel)) (goodIn_sub (fun _ h => List.mem_cons_of_mem _ (List.mem_append_right _ h)) (by decide +kernel))
set_option maxRecDepth 20000 in
theorem gX4_budget_X4_requireMode : GoodIn wsX4_budget (va_wsS RX4 167 yX4_requireMode wsX4_requireMode) := goodIn_app (goodIn_of _ (by decide +kernel)) ggX4_budget_X4_requireMode
set_option maxRecDepth 20000 in
theorem ggX4_budget_X0_hasHighBudget : GoodIn wsX4_budget wsX0_hasHighBudget := goodIn_r _ [20, 21, 34, 35, 36, 37, 38, 39, 40, 41, 42] (by decide +kernel) (by decide +kernel)
set_option maxRecDepth 20000 in
theorem gX4_budget_X0_hasHighBudget : GoodIn wsX4_budget (wsV RX4 173 RX0 yX0_hasHighBudget wsX0_hasHighBudget) := goodIn_app (goodIn_of _ (by decide +kernel)) ggX4_budget_X0_hasHighBudget
theorem dX4_budget_0 : decode cX4_budget 0 = .ok (.aload_n 0, 1) := by decide +kernel
theorem dX4_budget_1 : decode cX4_budget 1 = .ok (.iload_n 1, 1) := by decide +kernel
theorem dX4_budget_2 : decode cX4_budget 2 = .ok (.invokevirtual 114, 3) := by decide +kernel
theorem dX4_budget_5 : decode cX4_budget 5 = .ok (.iload_n 2, 1) := by decide +kernel
theorem dX4_budget_6 : decode cX4_budget 6 = .ok (.invokestatic 167, 3) := by decide +kernel
theorem dX4_budget_9 : decode cX4_budget 9 = .ok (.iload_n 2, 1) := by decide +kernel
theorem dX4_budget_10 : decode cX4_budget 10 = .ok (.ifCond .ne 13, 3) := by decide +kernel
theorem dX4_budget_13 : decode cX4_budget 13 = .ok (.aload_n 0, 1) := by decide +kernel
theorem dX4_budget_14 : decode cX4_budget 14 = .ok (.getfield 12, 3) := by decide +kernel
theorem dX4_budget_17 : decode cX4_budget 17 = .ok (.getfield 170, 3) := by decide +kernel
theorem dX4_budget_20 : decode cX4_budget 20 = .ok (.iload_n 1, 1) := by decide +kernel
theorem dX4_budget_21 : decode cX4_budget 21 = .ok (.iaload, 1) := by decide +kernel
theorem dX4_budget_22 : decode cX4_budget 22 = .ok (.ireturn, 1) := by decide +kernel
theorem dX4_budget_23 : decode cX4_budget 23 = .ok (.aload_n 0, 1) := by decide +kernel
theorem dX4_budget_24 : decode cX4_budget 24 = .ok (.getfield 12, 3) := by decide +kernel
theorem dX4_budget_27 : decode cX4_budget 27 = .ok (.iload_n 1, 1) := by decide +kernel
theorem dX4_budget_28 : decode cX4_budget 28 = .ok (.invokevirtual 173, 3) := by decide +kernel
theorem dX4_budget_31 : decode cX4_budget 31 = .ok (.ifCond .ne 13, 3) := by decide +kernel
theorem dX4_budget_34 : decode cX4_budget 34 = .ok (.new 177, 3) := by decide +kernel
theorem dX4_budget_37 : decode cX4_budget 37 = .ok (.dup, 1) := by decide +kernel
theorem dX4_budget_38 : decode cX4_budget 38 = .ok (.ldc 179, 2) := by decide +kernel
theorem dX4_budget_40 : decode cX4_budget 40 = .ok (.invokespecial 181, 3) := by decide +kernel
theorem dX4_budget_43 : decode cX4_budget 43 = .ok (.athrow, 1) := by decide +kernel
theorem dX4_budget_44 : decode cX4_budget 44 = .ok (.aload_n 0, 1) := by decide +kernel
theorem dX4_budget_45 : decode cX4_budget 45 = .ok (.getfield 12, 3) := by decide +kernel
theorem dX4_budget_48 : decode cX4_budget 48 = .ok (.getfield 182, 3) := by decide +kernel
theorem dX4_budget_51 : decode cX4_budget 51 = .ok (.iload_n 1, 1) := by decide +kernel
theorem dX4_budget_52 : decode cX4_budget 52 = .ok (.iaload, 1) := by decide +kernel
theorem dX4_budget_53 : decode cX4_budget 53 = .ok (.ireturn, 1) := by decide +kernel
set_option maxRecDepth 20000 in
theorem ggX4_level_X4_requireTask : GoodIn wsX4_level wsX4_requireTask := goodIn_ca (goodIn_r _ [6, 7, 8, 1, 9, 10, 11, 12, 13, 14, 15, 16, 17, 18, 19, 20, 21, 22, 23, 24, 25, 26, 27, 28, 29] (by decide +kernel) (by decide +kernel)) (goodIn_sub (fun _ h => List.mem_cons_of_mem _ (List.mem_append_right _ h)) (by decide +kernel))
set_option maxRecDepth 20000 in
theorem gX4_level_X4_requireTask : GoodIn wsX4_level (wsV RX4 114 RX4 yX4_requireTask wsX4_requireTask) := goodIn_app (goodIn_of _ (by decide +kernel)) ggX4_level_X4_requireTask
theorem dX4_level_0 : decode cX4_level 0 = .ok (.aload_n 0, 1) := by decide +kernel
theorem dX4_level_1 : decode cX4_level 1 = .ok (.iload_n 1, 1) := by decide +kernel
theorem dX4_level_2 : decode cX4_level 2 = .ok (.invokevirtual 114, 3) := by decide +kernel
theorem dX4_level_5 : decode cX4_level 5 = .ok (.aload_n 0, 1) := by decide +kernel
theorem dX4_level_6 : decode cX4_level 6 = .ok (.getfield 12, 3) := by decide +kernel
theorem dX4_level_9 : decode cX4_level 9 = .ok (.getfield 132, 3) := by decide +kernel
theorem dX4_level_12 : decode cX4_level 12 = .ok (.iload_n 1, 1) := by decide +kernel
theorem dX4_level_13 : decode cX4_level 13 = .ok (.iaload, 1) := by decide +kernel
theorem dX4_level_14 : decode cX4_level 14 = .ok (.ireturn, 1) := by decide +kernel
set_option maxRecDepth 20000 in
theorem ggX4_isCritical_X4_requireTask : GoodIn wsX4_isCritical wsX4_requireTask := goodIn_ca (goodIn_r _ [6, 7, 8, 1, 15, 16, 17, 18, 19, 20, 21, 22, 23, 24, 25, 26, 27, 28, 29, 30, 31, 32, 33, 34, 35] (by decide +kernel) (by decide +kernel)) (goodIn_sub (fun _ h => List.mem_cons_of_mem _ (List.mem_append_right _ h)) (by decide +kernel))
set_option maxRecDepth 20000 in
theorem gX4_isCritical_X4_requireTask : GoodIn wsX4_isCritical (wsV RX4 114 RX4 yX4_requireTask wsX4_requireTask) := goodIn_app (goodIn_of _ (by decide +kernel)) ggX4_isCritical_X4_requireTask
set_option maxRecDepth 20000 in
theorem ggX4_isCritical_X0_hasHighBudget : GoodIn wsX4_isCritical wsX0_hasHighBudget := goodIn_r _ [13, 14, 27, 28, 29, 30, 31, 32, 33, 34, 35] (by decide +kernel) (by decide +kernel)
set_option maxRecDepth 20000 in
theorem gX4_isCritical_X0_hasHighBudget : GoodIn wsX4_isCritical (wsV RX4 173 RX0 yX0_hasHighBudget wsX0_hasHighBudget) := goodIn_app (goodIn_of _ (by decide +kernel)) ggX4_isCritical_X0_hasHighBudget
theorem dX4_isCritical_0 : decode cX4_isCritical 0 = .ok (.aload_n 0, 1) := by decide +kernel
theorem dX4_isCritical_1 : decode cX4_isCritical 1 = .ok (.iload_n 1, 1) := by decide +kernel
theorem dX4_isCritical_2 : decode cX4_isCritical 2 = .ok (.invokevirtual 114, 3) := by decide +kernel
theorem dX4_isCritical_5 : decode cX4_isCritical 5 = .ok (.aload_n 0, 1) := by decide +kernel
theorem dX4_isCritical_6 : decode cX4_isCritical 6 = .ok (.getfield 12, 3) := by decide +kernel
theorem dX4_isCritical_9 : decode cX4_isCritical 9 = .ok (.iload_n 1, 1) := by decide +kernel
theorem dX4_isCritical_10 : decode cX4_isCritical 10 = .ok (.invokevirtual 173, 3) := by decide +kernel
theorem dX4_isCritical_13 : decode cX4_isCritical 13 = .ok (.ireturn, 1) := by decide +kernel
set_option maxRecDepth 20000 in
theorem ggX4_demand_X4_requireMode : GoodIn wsX4_demand wsX4_requireMode := goodIn_ca (goodIn_r _ [7, 1, 2] (by decide +kernel) (by decide +kernel)) (goodIn_sub (fun _ h => List.mem_cons_of_mem _ (List.mem_append_right _ h)) (by decide +kernel))
set_option maxRecDepth 20000 in
theorem gX4_demand_X4_requireMode : GoodIn wsX4_demand (va_wsS RX4 167 yX4_requireMode wsX4_requireMode) := goodIn_app (goodIn_of _ (by decide +kernel)) ggX4_demand_X4_requireMode
set_option maxRecDepth 20000 in
theorem ggX4_demand_X0_totalDemand : GoodIn wsX4_demand wsX0_totalDemand := goodIn_r _ [12, 13, 14, 15, 16, 17, 18, 11, 19, 20, 21, 22, 23, 24, 25, 26, 27, 28, 29, 30, 31, 32, 33, 34, 47, 48, 49, 50, 51, 52, 53, 54, 55] (by decide +kernel) (by decide +kernel)
set_option maxRecDepth 20000 in
theorem gX4_demand_X0_totalDemand : GoodIn wsX4_demand (wsV RX4 187 RX0 yX0_totalDemand wsX0_totalDemand) := goodIn_app (goodIn_of _ (by decide +kernel)) ggX4_demand_X0_totalDemand
theorem dX4_demand_0 : decode cX4_demand 0 = .ok (.iload_n 1, 1) := by decide +kernel
theorem dX4_demand_1 : decode cX4_demand 1 = .ok (.invokestatic 167, 3) := by decide +kernel
theorem dX4_demand_4 : decode cX4_demand 4 = .ok (.iload_n 2, 1) := by decide +kernel
theorem dX4_demand_5 : decode cX4_demand 5 = .ok (.ifCond .lt 10, 3) := by decide +kernel
theorem dX4_demand_8 : decode cX4_demand 8 = .ok (.iload_n 2, 1) := by decide +kernel
theorem dX4_demand_9 : decode cX4_demand 9 = .ok (.sipush 200, 3) := by decide +kernel
theorem dX4_demand_12 : decode cX4_demand 12 = .ok (.if_icmp .le 13, 3) := by decide +kernel
theorem dX4_demand_15 : decode cX4_demand 15 = .ok (.new 51, 3) := by decide +kernel
theorem dX4_demand_18 : decode cX4_demand 18 = .ok (.dup, 1) := by decide +kernel
theorem dX4_demand_19 : decode cX4_demand 19 = .ok (.ldc 185, 2) := by decide +kernel
theorem dX4_demand_21 : decode cX4_demand 21 = .ok (.invokespecial 55, 3) := by decide +kernel
theorem dX4_demand_24 : decode cX4_demand 24 = .ok (.athrow, 1) := by decide +kernel
theorem dX4_demand_25 : decode cX4_demand 25 = .ok (.aload_n 0, 1) := by decide +kernel
theorem dX4_demand_26 : decode cX4_demand 26 = .ok (.getfield 12, 3) := by decide +kernel
theorem dX4_demand_29 : decode cX4_demand 29 = .ok (.iload_n 1, 1) := by decide +kernel
theorem dX4_demand_30 : decode cX4_demand 30 = .ok (.iload_n 2, 1) := by decide +kernel
theorem dX4_demand_31 : decode cX4_demand 31 = .ok (.aload_n 0, 1) := by decide +kernel
theorem dX4_demand_32 : decode cX4_demand 32 = .ok (.getfield 12, 3) := by decide +kernel
theorem dX4_demand_35 : decode cX4_demand 35 = .ok (.getfield 154, 3) := by decide +kernel
theorem dX4_demand_38 : decode cX4_demand 38 = .ok (.invokevirtual 187, 3) := by decide +kernel
theorem dX4_demand_41 : decode cX4_demand 41 = .ok (.ireturn, 1) := by decide +kernel
set_option maxRecDepth 20000 in
theorem ggX4_slack_X4_requireMode : GoodIn wsX4_slack wsX4_requireMode := goodIn_ca (goodIn_r _ [4, 5, 6] (by decide +kernel) (by decide +kernel)) (goodIn_sub (fun _ h => List.mem_cons_of_mem _ (List.mem_append_right _ h)) (by decide +kernel))
set_option maxRecDepth 20000 in
theorem gX4_slack_X4_requireMode : GoodIn wsX4_slack (va_wsS RX4 167 yX4_requireMode wsX4_requireMode) := goodIn_app (goodIn_of _ (by decide +kernel)) ggX4_slack_X4_requireMode
set_option maxRecDepth 20000 in
theorem ggX4_slack_X4_tightestInterval : GoodIn wsX4_slack wsX4_tightestInterval := goodIn_r _ [10, 11, 12, 13, 3, 14, 15, 16, 17, 18, 19, 20, 21, 22, 23, 24, 25, 26, 27, 28, 29, 30, 31, 32, 33, 34, 35, 36, 37, 38, 39, 40, 41, 42, 43, 44, 45, 46, 47, 48, 49, 50, 51, 52, 53, 54, 55, 56, 57, 58, 59, 60, 61, 62, 63] (by decide +kernel) (by decide +kernel)
set_option maxRecDepth 20000 in
theorem gX4_slack_X4_tightestInterval : GoodIn wsX4_slack (wsV RX4 191 RX4 yX4_tightestInterval wsX4_tightestInterval) := goodIn_app (goodIn_of _ (by decide +kernel)) ggX4_slack_X4_tightestInterval
set_option maxRecDepth 20000 in
theorem ggX4_slack_X4_spareTime : GoodIn wsX4_slack wsX4_spareTime := goodIn_r _ [14, 15, 16, 17, 18, 19, 20, 21, 22, 23, 24, 25, 26, 27, 28, 29, 30, 31, 32, 33, 34, 35, 36, 37, 38, 39, 40, 41, 42, 43, 44, 45, 46, 47, 48, 49, 50, 51, 52, 53, 54, 55, 56, 57, 58, 59, 60, 61, 62, 63] (by decide +kernel) (by decide +kernel)
set_option maxRecDepth 20000 in
theorem gX4_slack_X4_spareTime : GoodIn wsX4_slack (wsV RX4 194 RX4 yX4_spareTime wsX4_spareTime) := goodIn_app (goodIn_of _ (by decide +kernel)) ggX4_slack_X4_spareTime
theorem dX4_slack_0 : decode cX4_slack 0 = .ok (.iload_n 1, 1) := by decide +kernel
theorem dX4_slack_1 : decode cX4_slack 1 = .ok (.invokestatic 167, 3) := by decide +kernel
theorem dX4_slack_4 : decode cX4_slack 4 = .ok (.aload_n 0, 1) := by decide +kernel
theorem dX4_slack_5 : decode cX4_slack 5 = .ok (.iload_n 1, 1) := by decide +kernel
theorem dX4_slack_6 : decode cX4_slack 6 = .ok (.aload_n 0, 1) := by decide +kernel
theorem dX4_slack_7 : decode cX4_slack 7 = .ok (.iload_n 1, 1) := by decide +kernel
theorem dX4_slack_8 : decode cX4_slack 8 = .ok (.invokevirtual 191, 3) := by decide +kernel
theorem dX4_slack_11 : decode cX4_slack 11 = .ok (.invokevirtual 194, 3) := by decide +kernel
theorem dX4_slack_14 : decode cX4_slack 14 = .ok (.ireturn, 1) := by decide +kernel
set_option maxRecDepth 20000 in
theorem ggX4_tightest_X4_requireMode : GoodIn wsX4_tightest wsX4_requireMode := goodIn_ca (goodIn_r _ [4, 5, 6] (by decide +kernel) (by decide +kernel)) (goodIn_sub (fun _ h => List.mem_cons_of_mem _ (List.mem_append_right _ h)) (by decide +kernel))
set_option maxRecDepth 20000 in
theorem gX4_tightest_X4_requireMode : GoodIn wsX4_tightest (va_wsS RX4 167 yX4_requireMode wsX4_requireMode) := goodIn_app (goodIn_of _ (by decide +kernel)) ggX4_tightest_X4_requireMode
set_option maxRecDepth 20000 in
theorem ggX4_tightest_X4_tightestInterval : GoodIn wsX4_tightest wsX4_tightestInterval := goodIn_r _ [10, 11, 12, 13, 3, 14, 15, 16, 17, 18, 19, 20, 21, 22, 23, 24, 25, 26, 27, 28, 29, 30, 31, 32, 33, 34, 35, 36, 37, 38, 39, 40, 41, 42, 43, 44, 45, 46, 47, 48, 49, 50, 51, 52, 53, 54, 55, 56, 57, 58, 59, 60, 61, 62, 63] (by decide +kernel) (by decide +kernel)
set_option maxRecDepth 20000 in
theorem gX4_tightest_X4_tightestInterval : GoodIn wsX4_tightest (wsV RX4 191 RX4 yX4_tightestInterval wsX4_tightestInterval) := goodIn_app (goodIn_of _ (by decide +kernel)) ggX4_tightest_X4_tightestInterval
theorem dX4_tightest_0 : decode cX4_tightest 0 = .ok (.iload_n 1, 1) := by decide +kernel
theorem dX4_tightest_1 : decode cX4_tightest 1 = .ok (.invokestatic 167, 3) := by decide +kernel
theorem dX4_tightest_4 : decode cX4_tightest 4 = .ok (.aload_n 0, 1) := by decide +kernel
theorem dX4_tightest_5 : decode cX4_tightest 5 = .ok (.iload_n 1, 1) := by decide +kernel
theorem dX4_tightest_6 : decode cX4_tightest 6 = .ok (.invokevirtual 191, 3) := by decide +kernel
theorem dX4_tightest_9 : decode cX4_tightest 9 = .ok (.ireturn, 1) := by decide +kernel
set_option maxRecDepth 20000 in
theorem ggX4_passes_X4_requireMode : GoodIn wsX4_passes wsX4_requireMode := goodIn_ca (goodIn_r _ [7, 1, 2] (by decide +kernel) (by decide +kernel)) (goodIn_sub (fun _ h => List.mem_cons_of_mem _ (List.mem_append_right _ h)) (by decide +kernel))
set_option maxRecDepth 20000 in
theorem gX4_passes_X4_requireMode : GoodIn wsX4_passes (va_wsS RX4 167 yX4_requireMode wsX4_requireMode) := goodIn_app (goodIn_of _ (by decide +kernel)) ggX4_passes_X4_requireMode
set_option maxRecDepth 20000 in
theorem ggX4_passes_X0_firstFailure : GoodIn wsX4_passes wsX0_firstFailure := goodIn_r _ [12, 13, 14, 15, 11, 16, 17, 18, 19, 20, 21, 22, 23, 24, 25, 26, 27, 28, 29, 30, 31, 32, 33, 34, 35, 36, 37, 38, 51, 52, 53, 54, 55, 56, 57, 58, 59] (by decide +kernel) (by decide +kernel)
set_option maxRecDepth 20000 in
theorem gX4_passes_X0_firstFailure : GoodIn wsX4_passes (wsV RX4 199 RX0 yX0_firstFailure wsX0_firstFailure) := goodIn_app (goodIn_of _ (by decide +kernel)) ggX4_passes_X0_firstFailure
theorem dX4_passes_0 : decode cX4_passes 0 = .ok (.iload_n 1, 1) := by decide +kernel
theorem dX4_passes_1 : decode cX4_passes 1 = .ok (.invokestatic 167, 3) := by decide +kernel
theorem dX4_passes_4 : decode cX4_passes 4 = .ok (.iload_n 2, 1) := by decide +kernel
theorem dX4_passes_5 : decode cX4_passes 5 = .ok (.iconst 1, 1) := by decide +kernel
theorem dX4_passes_6 : decode cX4_passes 6 = .ok (.if_icmp .lt 9, 3) := by decide +kernel
theorem dX4_passes_9 : decode cX4_passes 9 = .ok (.iload_n 2, 1) := by decide +kernel
theorem dX4_passes_10 : decode cX4_passes 10 = .ok (.bipush 8, 2) := by decide +kernel
theorem dX4_passes_12 : decode cX4_passes 12 = .ok (.if_icmp .le 13, 3) := by decide +kernel
theorem dX4_passes_15 : decode cX4_passes 15 = .ok (.new 51, 3) := by decide +kernel
theorem dX4_passes_18 : decode cX4_passes 18 = .ok (.dup, 1) := by decide +kernel
theorem dX4_passes_19 : decode cX4_passes 19 = .ok (.ldc 197, 2) := by decide +kernel
theorem dX4_passes_21 : decode cX4_passes 21 = .ok (.invokespecial 55, 3) := by decide +kernel
theorem dX4_passes_24 : decode cX4_passes 24 = .ok (.athrow, 1) := by decide +kernel
theorem dX4_passes_25 : decode cX4_passes 25 = .ok (.aload_n 0, 1) := by decide +kernel
theorem dX4_passes_26 : decode cX4_passes 26 = .ok (.getfield 12, 3) := by decide +kernel
theorem dX4_passes_29 : decode cX4_passes 29 = .ok (.iload_n 1, 1) := by decide +kernel
theorem dX4_passes_30 : decode cX4_passes 30 = .ok (.iload_n 2, 1) := by decide +kernel
theorem dX4_passes_31 : decode cX4_passes 31 = .ok (.invokevirtual 199, 3) := by decide +kernel
theorem dX4_passes_34 : decode cX4_passes 34 = .ok (.ifCond .ne 7, 3) := by decide +kernel
theorem dX4_passes_37 : decode cX4_passes 37 = .ok (.iconst 1, 1) := by decide +kernel
theorem dX4_passes_38 : decode cX4_passes 38 = .ok (.goto 4, 3) := by decide +kernel
theorem dX4_passes_41 : decode cX4_passes 41 = .ok (.iconst 0, 1) := by decide +kernel
theorem dX4_passes_42 : decode cX4_passes 42 = .ok (.ireturn, 1) := by decide +kernel
set_option maxRecDepth 20000 in
theorem ggX4_feasibleScales_X0_isSchedulableWith : GoodIn wsX4_feasibleScales wsX0_isSchedulableWith := goodIn_r _ [6, 7, 8, 9, 5, 10, 11, 12, 13, 14, 15, 16, 17, 18, 19, 20, 21, 22, 23, 24, 25, 26, 27, 28, 29, 30, 31, 32, 33, 34, 35, 36, 49, 50, 51, 52, 53, 54, 55, 56, 57] (by decide +kernel) (by decide +kernel)
set_option maxRecDepth 20000 in
theorem gX4_feasibleScales_X0_isSchedulableWith : GoodIn wsX4_feasibleScales (wsV RX4 202 RX0 yX0_isSchedulableWith wsX0_isSchedulableWith) := goodIn_app (goodIn_of _ (by decide +kernel)) ggX4_feasibleScales_X0_isSchedulableWith
theorem dX4_feasibleScales_0 : decode cX4_feasibleScales 0 = .ok (.iconst 0, 1) := by decide +kernel
theorem dX4_feasibleScales_1 : decode cX4_feasibleScales 1 = .ok (.istore_n 1, 1) := by decide +kernel
theorem dX4_feasibleScales_2 : decode cX4_feasibleScales 2 = .ok (.iconst 1, 1) := by decide +kernel
theorem dX4_feasibleScales_3 : decode cX4_feasibleScales 3 = .ok (.istore_n 2, 1) := by decide +kernel
theorem dX4_feasibleScales_4 : decode cX4_feasibleScales 4 = .ok (.iload_n 2, 1) := by decide +kernel
theorem dX4_feasibleScales_5 : decode cX4_feasibleScales 5 = .ok (.bipush 8, 2) := by decide +kernel
theorem dX4_feasibleScales_7 : decode cX4_feasibleScales 7 = .ok (.if_icmp .gt 26, 3) := by decide +kernel
theorem dX4_feasibleScales_10 : decode cX4_feasibleScales 10 = .ok (.aload_n 0, 1) := by decide +kernel
theorem dX4_feasibleScales_11 : decode cX4_feasibleScales 11 = .ok (.getfield 12, 3) := by decide +kernel
theorem dX4_feasibleScales_14 : decode cX4_feasibleScales 14 = .ok (.iload_n 2, 1) := by decide +kernel
theorem dX4_feasibleScales_15 : decode cX4_feasibleScales 15 = .ok (.invokevirtual 202, 3) := by decide +kernel
theorem dX4_feasibleScales_18 : decode cX4_feasibleScales 18 = .ok (.ifCond .eq 9, 3) := by decide +kernel
theorem dX4_feasibleScales_21 : decode cX4_feasibleScales 21 = .ok (.iload_n 1, 1) := by decide +kernel
theorem dX4_feasibleScales_22 : decode cX4_feasibleScales 22 = .ok (.iconst 1, 1) := by decide +kernel
theorem dX4_feasibleScales_23 : decode cX4_feasibleScales 23 = .ok (.iload_n 2, 1) := by decide +kernel
theorem dX4_feasibleScales_24 : decode cX4_feasibleScales 24 = .ok (.ishl, 1) := by decide +kernel
theorem dX4_feasibleScales_25 : decode cX4_feasibleScales 25 = .ok (.ior, 1) := by decide +kernel
theorem dX4_feasibleScales_26 : decode cX4_feasibleScales 26 = .ok (.istore_n 1, 1) := by decide +kernel
theorem dX4_feasibleScales_27 : decode cX4_feasibleScales 27 = .ok (.iinc 2 1, 3) := by decide +kernel
theorem dX4_feasibleScales_30 : decode cX4_feasibleScales 30 = .ok (.goto (-26), 3) := by decide +kernel
theorem dX4_feasibleScales_33 : decode cX4_feasibleScales 33 = .ok (.iload_n 1, 1) := by decide +kernel
theorem dX4_feasibleScales_34 : decode cX4_feasibleScales 34 = .ok (.ireturn, 1) := by decide +kernel
set_option maxRecDepth 20000 in
theorem ggX4_utilization_X4_requireMode : GoodIn wsX4_utilization wsX4_requireMode := goodIn_ca (goodIn_r _ [5, 6, 7] (by decide +kernel) (by decide +kernel)) (goodIn_sub (fun _ h => List.mem_cons_of_mem _ (List.mem_append_right _ h)) (by decide +kernel))
set_option maxRecDepth 20000 in
theorem gX4_utilization_X4_requireMode : GoodIn wsX4_utilization (va_wsS RX4 167 yX4_requireMode wsX4_requireMode) := goodIn_app (goodIn_of _ (by decide +kernel)) ggX4_utilization_X4_requireMode
set_option maxRecDepth 20000 in
theorem ggX4_utilization_X0_effectivePeriod : GoodIn wsX4_utilization wsX0_effectivePeriod := goodIn_r _ [12, 13, 14, 32, 33, 34, 35, 36, 37, 38, 39, 40] (by decide +kernel) (by decide +kernel)
set_option maxRecDepth 20000 in
theorem gX4_utilization_X0_effectivePeriod : GoodIn wsX4_utilization (wsV RX4 157 RX0 yX0_effectivePeriod wsX0_effectivePeriod) := goodIn_app (goodIn_of _ (by decide +kernel)) ggX4_utilization_X0_effectivePeriod
set_option maxRecDepth 20000 in
theorem ggX4_utilization_X0_hasHighBudget : GoodIn wsX4_utilization wsX0_hasHighBudget := goodIn_r _ [18, 19, 32, 33, 34, 35, 36, 37, 38, 39, 40] (by decide +kernel) (by decide +kernel)
set_option maxRecDepth 20000 in
theorem gX4_utilization_X0_hasHighBudget : GoodIn wsX4_utilization (wsV RX4 173 RX0 yX0_hasHighBudget wsX0_hasHighBudget) := goodIn_app (goodIn_of _ (by decide +kernel)) ggX4_utilization_X0_hasHighBudget
theorem dX4_utilization_0 : decode cX4_utilization 0 = .ok (.iload_n 1, 1) := by decide +kernel
theorem dX4_utilization_1 : decode cX4_utilization 1 = .ok (.invokestatic 167, 3) := by decide +kernel
theorem dX4_utilization_4 : decode cX4_utilization 4 = .ok (.dconst 0, 1) := by decide +kernel
theorem dX4_utilization_5 : decode cX4_utilization 5 = .ok (.dstore_n 2, 1) := by decide +kernel
theorem dX4_utilization_6 : decode cX4_utilization 6 = .ok (.iconst 0, 1) := by decide +kernel
theorem dX4_utilization_7 : decode cX4_utilization 7 = .ok (.istore 4, 2) := by decide +kernel
theorem dX4_utilization_9 : decode cX4_utilization 9 = .ok (.iload 4, 2) := by decide +kernel
theorem dX4_utilization_11 : decode cX4_utilization 11 = .ok (.aload_n 0, 1) := by decide +kernel
theorem dX4_utilization_12 : decode cX4_utilization 12 = .ok (.getfield 12, 3) := by decide +kernel
theorem dX4_utilization_15 : decode cX4_utilization 15 = .ok (.getfield 58, 3) := by decide +kernel
theorem dX4_utilization_18 : decode cX4_utilization 18 = .ok (.if_icmp .ge 78, 3) := by decide +kernel
theorem dX4_utilization_21 : decode cX4_utilization 21 = .ok (.iload_n 1, 1) := by decide +kernel
theorem dX4_utilization_22 : decode cX4_utilization 22 = .ok (.ifCond .ne 31, 3) := by decide +kernel
theorem dX4_utilization_25 : decode cX4_utilization 25 = .ok (.dload_n 2, 1) := by decide +kernel
theorem dX4_utilization_26 : decode cX4_utilization 26 = .ok (.aload_n 0, 1) := by decide +kernel
theorem dX4_utilization_27 : decode cX4_utilization 27 = .ok (.getfield 12, 3) := by decide +kernel
theorem dX4_utilization_30 : decode cX4_utilization 30 = .ok (.getfield 170, 3) := by decide +kernel
theorem dX4_utilization_33 : decode cX4_utilization 33 = .ok (.iload 4, 2) := by decide +kernel
theorem dX4_utilization_35 : decode cX4_utilization 35 = .ok (.iaload, 1) := by decide +kernel
theorem dX4_utilization_36 : decode cX4_utilization 36 = .ok (.i2d, 1) := by decide +kernel
theorem dX4_utilization_37 : decode cX4_utilization 37 = .ok (.aload_n 0, 1) := by decide +kernel
theorem dX4_utilization_38 : decode cX4_utilization 38 = .ok (.getfield 12, 3) := by decide +kernel
theorem dX4_utilization_41 : decode cX4_utilization 41 = .ok (.iload 4, 2) := by decide +kernel
theorem dX4_utilization_43 : decode cX4_utilization 43 = .ok (.invokevirtual 157, 3) := by decide +kernel
theorem dX4_utilization_46 : decode cX4_utilization 46 = .ok (.i2d, 1) := by decide +kernel
theorem dX4_utilization_47 : decode cX4_utilization 47 = .ok (.ddiv, 1) := by decide +kernel
theorem dX4_utilization_48 : decode cX4_utilization 48 = .ok (.dadd, 1) := by decide +kernel
theorem dX4_utilization_49 : decode cX4_utilization 49 = .ok (.dstore_n 2, 1) := by decide +kernel
theorem dX4_utilization_50 : decode cX4_utilization 50 = .ok (.goto 40, 3) := by decide +kernel
theorem dX4_utilization_53 : decode cX4_utilization 53 = .ok (.aload_n 0, 1) := by decide +kernel
theorem dX4_utilization_54 : decode cX4_utilization 54 = .ok (.getfield 12, 3) := by decide +kernel
theorem dX4_utilization_57 : decode cX4_utilization 57 = .ok (.iload 4, 2) := by decide +kernel
theorem dX4_utilization_59 : decode cX4_utilization 59 = .ok (.invokevirtual 173, 3) := by decide +kernel
theorem dX4_utilization_62 : decode cX4_utilization 62 = .ok (.ifCond .eq 28, 3) := by decide +kernel
theorem dX4_utilization_65 : decode cX4_utilization 65 = .ok (.dload_n 2, 1) := by decide +kernel
theorem dX4_utilization_66 : decode cX4_utilization 66 = .ok (.aload_n 0, 1) := by decide +kernel
theorem dX4_utilization_67 : decode cX4_utilization 67 = .ok (.getfield 12, 3) := by decide +kernel
theorem dX4_utilization_70 : decode cX4_utilization 70 = .ok (.getfield 182, 3) := by decide +kernel
theorem dX4_utilization_73 : decode cX4_utilization 73 = .ok (.iload 4, 2) := by decide +kernel
theorem dX4_utilization_75 : decode cX4_utilization 75 = .ok (.iaload, 1) := by decide +kernel
theorem dX4_utilization_76 : decode cX4_utilization 76 = .ok (.i2d, 1) := by decide +kernel
theorem dX4_utilization_77 : decode cX4_utilization 77 = .ok (.aload_n 0, 1) := by decide +kernel
theorem dX4_utilization_78 : decode cX4_utilization 78 = .ok (.getfield 12, 3) := by decide +kernel
theorem dX4_utilization_81 : decode cX4_utilization 81 = .ok (.iload 4, 2) := by decide +kernel
theorem dX4_utilization_83 : decode cX4_utilization 83 = .ok (.invokevirtual 157, 3) := by decide +kernel
theorem dX4_utilization_86 : decode cX4_utilization 86 = .ok (.i2d, 1) := by decide +kernel
theorem dX4_utilization_87 : decode cX4_utilization 87 = .ok (.ddiv, 1) := by decide +kernel
theorem dX4_utilization_88 : decode cX4_utilization 88 = .ok (.dadd, 1) := by decide +kernel
theorem dX4_utilization_89 : decode cX4_utilization 89 = .ok (.dstore_n 2, 1) := by decide +kernel
theorem dX4_utilization_90 : decode cX4_utilization 90 = .ok (.iinc 4 1, 3) := by decide +kernel
theorem dX4_utilization_93 : decode cX4_utilization 93 = .ok (.goto (-84), 3) := by decide +kernel
theorem dX4_utilization_96 : decode cX4_utilization 96 = .ok (.dload_n 2, 1) := by decide +kernel
theorem dX4_utilization_97 : decode cX4_utilization 97 = .ok (.dreturn, 1) := by decide +kernel
set_option maxRecDepth 20000 in
theorem ggX4_utilizationBits_X4_utilization : GoodIn wsX4_utilizationBits wsX4_utilization := goodIn_ca (goodIn_r _ [5, 6, 7, 8, 4, 9, 10, 11, 12, 13, 14, 15, 16, 17, 18, 19, 20, 21, 22, 23, 29, 30, 31, 32, 33, 34, 35, 36, 37, 38, 39, 40, 41, 42, 43, 44, 45, 46, 47, 48, 49] (by decide +kernel) (by decide +kernel)) (goodIn_sub (fun _ h => List.mem_cons_of_mem _ (List.mem_append_right _ h)) (by decide +kernel))
set_option maxRecDepth 20000 in
theorem gX4_utilizationBits_X4_utilization : GoodIn wsX4_utilizationBits (wsV RX4 205 RX4 yX4_utilization wsX4_utilization) := goodIn_app (goodIn_of _ (by decide +kernel)) ggX4_utilizationBits_X4_utilization
set_option maxRecDepth 20000 in
theorem ggX4_utilizationBits_X4_doubleBits : GoodIn wsX4_utilizationBits wsX4_doubleBits := goodIn_r _ [26, 27, 28] (by decide +kernel) (by decide +kernel)
set_option maxRecDepth 20000 in
theorem gX4_utilizationBits_X4_doubleBits : GoodIn wsX4_utilizationBits (va_wsS RX4 209 yX4_doubleBits wsX4_doubleBits) := goodIn_app (goodIn_of _ (by decide +kernel)) ggX4_utilizationBits_X4_doubleBits
theorem dX4_utilizationBits_0 : decode cX4_utilizationBits 0 = .ok (.aload_n 0, 1) := by decide +kernel
theorem dX4_utilizationBits_1 : decode cX4_utilizationBits 1 = .ok (.iload_n 1, 1) := by decide +kernel
theorem dX4_utilizationBits_2 : decode cX4_utilizationBits 2 = .ok (.invokevirtual 205, 3) := by decide +kernel
theorem dX4_utilizationBits_5 : decode cX4_utilizationBits 5 = .ok (.invokestatic 209, 3) := by decide +kernel
theorem dX4_utilizationBits_8 : decode cX4_utilizationBits 8 = .ok (.lreturn, 1) := by decide +kernel
set_option maxRecDepth 20000 in
theorem ggX4_load_X4_requireMode : GoodIn wsX4_load wsX4_requireMode := goodIn_ca (goodIn_r _ [5, 6, 7] (by decide +kernel) (by decide +kernel)) (goodIn_sub (fun _ h => List.mem_cons_of_mem _ (List.mem_append_right _ h)) (by decide +kernel))
set_option maxRecDepth 20000 in
theorem gX4_load_X4_requireMode : GoodIn wsX4_load (va_wsS RX4 167 yX4_requireMode wsX4_requireMode) := goodIn_app (goodIn_of _ (by decide +kernel)) ggX4_load_X4_requireMode
set_option maxRecDepth 20000 in
theorem ggX4_load_X0_totalDemand : GoodIn wsX4_load wsX0_totalDemand := goodIn_r _ [12, 13, 14, 15, 16, 17, 18, 11, 19, 20, 21, 22, 23, 24, 25, 26, 27, 28, 29, 30, 31, 32, 33, 34, 47, 48, 49, 50, 51, 52, 53, 54, 55] (by decide +kernel) (by decide +kernel)
set_option maxRecDepth 20000 in
theorem gX4_load_X0_totalDemand : GoodIn wsX4_load (wsV RX4 187 RX0 yX0_totalDemand wsX0_totalDemand) := goodIn_app (goodIn_of _ (by decide +kernel)) ggX4_load_X0_totalDemand
theorem dX4_load_0 : decode cX4_load 0 = .ok (.iload_n 1, 1) := by decide +kernel
theorem dX4_load_1 : decode cX4_load 1 = .ok (.invokestatic 167, 3) := by decide +kernel
theorem dX4_load_4 : decode cX4_load 4 = .ok (.fconst 0, 1) := by decide +kernel
theorem dX4_load_5 : decode cX4_load 5 = .ok (.fstore_n 2, 1) := by decide +kernel
theorem dX4_load_6 : decode cX4_load 6 = .ok (.iconst 1, 1) := by decide +kernel
theorem dX4_load_7 : decode cX4_load 7 = .ok (.istore_n 3, 1) := by decide +kernel
theorem dX4_load_8 : decode cX4_load 8 = .ok (.iload_n 3, 1) := by decide +kernel
theorem dX4_load_9 : decode cX4_load 9 = .ok (.sipush 200, 3) := by decide +kernel
theorem dX4_load_12 : decode cX4_load 12 = .ok (.if_icmp .gt 41, 3) := by decide +kernel
theorem dX4_load_15 : decode cX4_load 15 = .ok (.aload_n 0, 1) := by decide +kernel
theorem dX4_load_16 : decode cX4_load 16 = .ok (.getfield 12, 3) := by decide +kernel
theorem dX4_load_19 : decode cX4_load 19 = .ok (.iload_n 1, 1) := by decide +kernel
theorem dX4_load_20 : decode cX4_load 20 = .ok (.iload_n 3, 1) := by decide +kernel
theorem dX4_load_21 : decode cX4_load 21 = .ok (.aload_n 0, 1) := by decide +kernel
theorem dX4_load_22 : decode cX4_load 22 = .ok (.getfield 12, 3) := by decide +kernel
theorem dX4_load_25 : decode cX4_load 25 = .ok (.getfield 154, 3) := by decide +kernel
theorem dX4_load_28 : decode cX4_load 28 = .ok (.invokevirtual 187, 3) := by decide +kernel
theorem dX4_load_31 : decode cX4_load 31 = .ok (.i2f, 1) := by decide +kernel
theorem dX4_load_32 : decode cX4_load 32 = .ok (.iload_n 3, 1) := by decide +kernel
theorem dX4_load_33 : decode cX4_load 33 = .ok (.i2f, 1) := by decide +kernel
theorem dX4_load_34 : decode cX4_load 34 = .ok (.fdiv, 1) := by decide +kernel
theorem dX4_load_35 : decode cX4_load 35 = .ok (.fstore 4, 2) := by decide +kernel
theorem dX4_load_37 : decode cX4_load 37 = .ok (.fload 4, 2) := by decide +kernel
theorem dX4_load_39 : decode cX4_load 39 = .ok (.fload_n 2, 1) := by decide +kernel
theorem dX4_load_40 : decode cX4_load 40 = .ok (.fcmp .l, 1) := by decide +kernel
theorem dX4_load_41 : decode cX4_load 41 = .ok (.ifCond .le 6, 3) := by decide +kernel
theorem dX4_load_44 : decode cX4_load 44 = .ok (.fload 4, 2) := by decide +kernel
theorem dX4_load_46 : decode cX4_load 46 = .ok (.fstore_n 2, 1) := by decide +kernel
theorem dX4_load_47 : decode cX4_load 47 = .ok (.iinc 3 1, 3) := by decide +kernel
theorem dX4_load_50 : decode cX4_load 50 = .ok (.goto (-42), 3) := by decide +kernel
theorem dX4_load_53 : decode cX4_load 53 = .ok (.fload_n 2, 1) := by decide +kernel
theorem dX4_load_54 : decode cX4_load 54 = .ok (.freturn, 1) := by decide +kernel
set_option maxRecDepth 20000 in
theorem ggX4_loadBits_X4_load : GoodIn wsX4_loadBits wsX4_load := goodIn_ca (goodIn_r _ [5, 6, 7, 8, 4, 9, 10, 11, 12, 13, 14, 15, 16, 17, 18, 19, 20, 21, 22, 23, 24, 25, 26, 27, 28, 29, 30, 31, 32, 33, 34, 35, 36, 37, 38, 43, 44, 45, 46, 47, 48, 49, 50, 51, 52, 53, 54, 55, 56, 57, 58, 59, 60, 61, 62, 63] (by decide +kernel) (by decide +kernel)) (goodIn_sub (fun _ h => List.mem_cons_of_mem _ (List.mem_append_right _ h)) (by decide +kernel))
set_option maxRecDepth 20000 in
theorem gX4_loadBits_X4_load : GoodIn wsX4_loadBits (wsV RX4 213 RX4 yX4_load wsX4_load) := goodIn_app (goodIn_of _ (by decide +kernel)) ggX4_loadBits_X4_load
set_option maxRecDepth 20000 in
theorem ggX4_loadBits_X4_floatBits : GoodIn wsX4_loadBits wsX4_floatBits := goodIn_r _ [41, 42] (by decide +kernel) (by decide +kernel)
set_option maxRecDepth 20000 in
theorem gX4_loadBits_X4_floatBits : GoodIn wsX4_loadBits (va_wsS RX4 217 yX4_floatBits wsX4_floatBits) := goodIn_app (goodIn_of _ (by decide +kernel)) ggX4_loadBits_X4_floatBits
theorem dX4_loadBits_0 : decode cX4_loadBits 0 = .ok (.aload_n 0, 1) := by decide +kernel
theorem dX4_loadBits_1 : decode cX4_loadBits 1 = .ok (.iload_n 1, 1) := by decide +kernel
theorem dX4_loadBits_2 : decode cX4_loadBits 2 = .ok (.invokevirtual 213, 3) := by decide +kernel
theorem dX4_loadBits_5 : decode cX4_loadBits 5 = .ok (.invokestatic 217, 3) := by decide +kernel
theorem dX4_loadBits_8 : decode cX4_loadBits 8 = .ok (.ireturn, 1) := by decide +kernel
set_option maxRecDepth 20000 in
theorem ggX4_descentLength_X0_greatestTestPointBelow : GoodIn wsX4_descentLength wsX0_greatestTestPointBelow := goodIn_r _ [6, 7, 8, 9, 10, 11, 12, 13, 14, 15, 5, 16, 17, 18, 19, 20, 21, 22, 23, 24, 25, 62, 63, 64, 65, 66, 67, 68, 69, 70] (by decide +kernel) (by decide +kernel)
set_option maxRecDepth 20000 in
theorem gX4_descentLength_X0_greatestTestPointBelow : GoodIn wsX4_descentLength (wsV RX4 221 RX0 yX0_greatestTestPointBelow wsX0_greatestTestPointBelow) := goodIn_app (goodIn_of _ (by decide +kernel)) ggX4_descentLength_X0_greatestTestPointBelow
set_option maxRecDepth 20000 in
theorem ggX4_descentLength_X4_descentPointAfter : GoodIn wsX4_descentLength wsX4_descentPointAfter := goodIn_r _ [30, 1, 31, 32, 33, 5, 34, 7, 17, 18, 13, 14, 15, 16, 19, 20, 21, 22, 23, 24, 25, 35, 36, 37, 38, 39, 40, 41, 42, 43, 44, 45, 46, 8, 47, 48, 11, 49, 2, 3, 4, 6, 9, 10, 12, 50, 51, 52, 53, 54, 55, 56, 57, 58, 59, 60, 61, 62, 63, 64, 65, 66, 67, 68, 69, 70] (by decide +kernel) (by decide +kernel)
set_option maxRecDepth 20000 in
theorem gX4_descentLength_X4_descentPointAfter : GoodIn wsX4_descentLength (wsV RX4 224 RX4 yX4_descentPointAfter wsX4_descentPointAfter) := goodIn_app (goodIn_of _ (by decide +kernel)) ggX4_descentLength_X4_descentPointAfter
theorem dX4_descentLength_0 : decode cX4_descentLength 0 = .ok (.iconst 0, 1) := by decide +kernel
theorem dX4_descentLength_1 : decode cX4_descentLength 1 = .ok (.istore_n 1, 1) := by decide +kernel
theorem dX4_descentLength_2 : decode cX4_descentLength 2 = .ok (.aload_n 0, 1) := by decide +kernel
theorem dX4_descentLength_3 : decode cX4_descentLength 3 = .ok (.getfield 12, 3) := by decide +kernel
theorem dX4_descentLength_6 : decode cX4_descentLength 6 = .ok (.sipush 201, 3) := by decide +kernel
theorem dX4_descentLength_9 : decode cX4_descentLength 9 = .ok (.invokevirtual 221, 3) := by decide +kernel
theorem dX4_descentLength_12 : decode cX4_descentLength 12 = .ok (.istore_n 2, 1) := by decide +kernel
theorem dX4_descentLength_13 : decode cX4_descentLength 13 = .ok (.iload_n 2, 1) := by decide +kernel
theorem dX4_descentLength_14 : decode cX4_descentLength 14 = .ok (.ifCond .le 22, 3) := by decide +kernel
theorem dX4_descentLength_17 : decode cX4_descentLength 17 = .ok (.iload_n 1, 1) := by decide +kernel
theorem dX4_descentLength_18 : decode cX4_descentLength 18 = .ok (.sipush 200, 3) := by decide +kernel
theorem dX4_descentLength_21 : decode cX4_descentLength 21 = .ok (.if_icmp .ge 15, 3) := by decide +kernel
theorem dX4_descentLength_24 : decode cX4_descentLength 24 = .ok (.iinc 1 1, 3) := by decide +kernel
theorem dX4_descentLength_27 : decode cX4_descentLength 27 = .ok (.aload_n 0, 1) := by decide +kernel
theorem dX4_descentLength_28 : decode cX4_descentLength 28 = .ok (.iload_n 2, 1) := by decide +kernel
theorem dX4_descentLength_29 : decode cX4_descentLength 29 = .ok (.invokevirtual 224, 3) := by decide +kernel
theorem dX4_descentLength_32 : decode cX4_descentLength 32 = .ok (.istore_n 2, 1) := by decide +kernel
theorem dX4_descentLength_33 : decode cX4_descentLength 33 = .ok (.goto (-20), 3) := by decide +kernel
theorem dX4_descentLength_36 : decode cX4_descentLength 36 = .ok (.iload_n 1, 1) := by decide +kernel
theorem dX4_descentLength_37 : decode cX4_descentLength 37 = .ok (.ireturn, 1) := by decide +kernel
set_option maxRecDepth 20000 in
theorem ggX4_descentPoint_X0_greatestTestPointBelow : GoodIn wsX4_descentPoint wsX0_greatestTestPointBelow := goodIn_r _ [8, 9, 10, 11, 12, 13, 14, 15, 16, 17, 7, 18, 19, 20, 21, 22, 23, 24, 25, 26, 27, 64, 65, 66, 67, 68, 69, 70, 71, 72] (by decide +kernel) (by decide +kernel)
set_option maxRecDepth 20000 in
theorem gX4_descentPoint_X0_greatestTestPointBelow : GoodIn wsX4_descentPoint (wsV RX4 221 RX0 yX0_greatestTestPointBelow wsX0_greatestTestPointBelow) := goodIn_app (goodIn_of _ (by decide +kernel)) ggX4_descentPoint_X0_greatestTestPointBelow
set_option maxRecDepth 20000 in
theorem ggX4_descentPoint_X4_descentPointAfter : GoodIn wsX4_descentPoint wsX4_descentPointAfter := goodIn_r _ [32, 3, 33, 34, 35, 7, 36, 9, 19, 20, 15, 16, 17, 18, 21, 22, 23, 24, 25, 26, 27, 37, 38, 39, 40, 41, 42, 43, 44, 45, 46, 47, 48, 10, 49, 50, 13, 51, 4, 5, 6, 8, 11, 12, 14, 52, 53, 54, 55, 56, 57, 58, 59, 60, 61, 62, 63, 64, 65, 66, 67, 68, 69, 70, 71, 72] (by decide +kernel) (by decide +kernel)
set_option maxRecDepth 20000 in
theorem gX4_descentPoint_X4_descentPointAfter : GoodIn wsX4_descentPoint (wsV RX4 224 RX4 yX4_descentPointAfter wsX4_descentPointAfter) := goodIn_app (goodIn_of _ (by decide +kernel)) ggX4_descentPoint_X4_descentPointAfter
theorem dX4_descentPoint_0 : decode cX4_descentPoint 0 = .ok (.iload_n 1, 1) := by decide +kernel
theorem dX4_descentPoint_1 : decode cX4_descentPoint 1 = .ok (.ifCond .lt 10, 3) := by decide +kernel
theorem dX4_descentPoint_4 : decode cX4_descentPoint 4 = .ok (.iload_n 1, 1) := by decide +kernel
theorem dX4_descentPoint_5 : decode cX4_descentPoint 5 = .ok (.sipush 200, 3) := by decide +kernel
theorem dX4_descentPoint_8 : decode cX4_descentPoint 8 = .ok (.if_icmp .lt 13, 3) := by decide +kernel
theorem dX4_descentPoint_11 : decode cX4_descentPoint 11 = .ok (.new 227, 3) := by decide +kernel
theorem dX4_descentPoint_14 : decode cX4_descentPoint 14 = .ok (.dup, 1) := by decide +kernel
theorem dX4_descentPoint_15 : decode cX4_descentPoint 15 = .ok (.ldc 229, 2) := by decide +kernel
theorem dX4_descentPoint_17 : decode cX4_descentPoint 17 = .ok (.invokespecial 231, 3) := by decide +kernel
theorem dX4_descentPoint_20 : decode cX4_descentPoint 20 = .ok (.athrow, 1) := by decide +kernel
theorem dX4_descentPoint_21 : decode cX4_descentPoint 21 = .ok (.aload_n 0, 1) := by decide +kernel
theorem dX4_descentPoint_22 : decode cX4_descentPoint 22 = .ok (.getfield 12, 3) := by decide +kernel
theorem dX4_descentPoint_25 : decode cX4_descentPoint 25 = .ok (.sipush 201, 3) := by decide +kernel
theorem dX4_descentPoint_28 : decode cX4_descentPoint 28 = .ok (.invokevirtual 221, 3) := by decide +kernel
theorem dX4_descentPoint_31 : decode cX4_descentPoint 31 = .ok (.istore_n 2, 1) := by decide +kernel
theorem dX4_descentPoint_32 : decode cX4_descentPoint 32 = .ok (.iconst 0, 1) := by decide +kernel
theorem dX4_descentPoint_33 : decode cX4_descentPoint 33 = .ok (.istore_n 3, 1) := by decide +kernel
theorem dX4_descentPoint_34 : decode cX4_descentPoint 34 = .ok (.iload_n 3, 1) := by decide +kernel
theorem dX4_descentPoint_35 : decode cX4_descentPoint 35 = .ok (.iload_n 1, 1) := by decide +kernel
theorem dX4_descentPoint_36 : decode cX4_descentPoint 36 = .ok (.if_icmp .ge 19, 3) := by decide +kernel
theorem dX4_descentPoint_39 : decode cX4_descentPoint 39 = .ok (.iload_n 2, 1) := by decide +kernel
theorem dX4_descentPoint_40 : decode cX4_descentPoint 40 = .ok (.ifCond .le 15, 3) := by decide +kernel
theorem dX4_descentPoint_43 : decode cX4_descentPoint 43 = .ok (.aload_n 0, 1) := by decide +kernel
theorem dX4_descentPoint_44 : decode cX4_descentPoint 44 = .ok (.iload_n 2, 1) := by decide +kernel
theorem dX4_descentPoint_45 : decode cX4_descentPoint 45 = .ok (.invokevirtual 224, 3) := by decide +kernel
theorem dX4_descentPoint_48 : decode cX4_descentPoint 48 = .ok (.istore_n 2, 1) := by decide +kernel
theorem dX4_descentPoint_49 : decode cX4_descentPoint 49 = .ok (.iinc 3 1, 3) := by decide +kernel
theorem dX4_descentPoint_52 : decode cX4_descentPoint 52 = .ok (.goto (-18), 3) := by decide +kernel
theorem dX4_descentPoint_55 : decode cX4_descentPoint 55 = .ok (.iload_n 2, 1) := by decide +kernel
theorem dX4_descentPoint_56 : decode cX4_descentPoint 56 = .ok (.ifCond .ne 13, 3) := by decide +kernel
theorem dX4_descentPoint_59 : decode cX4_descentPoint 59 = .ok (.new 227, 3) := by decide +kernel
theorem dX4_descentPoint_62 : decode cX4_descentPoint 62 = .ok (.dup, 1) := by decide +kernel
theorem dX4_descentPoint_63 : decode cX4_descentPoint 63 = .ok (.ldc 229, 2) := by decide +kernel
theorem dX4_descentPoint_65 : decode cX4_descentPoint 65 = .ok (.invokespecial 231, 3) := by decide +kernel
theorem dX4_descentPoint_68 : decode cX4_descentPoint 68 = .ok (.athrow, 1) := by decide +kernel
theorem dX4_descentPoint_69 : decode cX4_descentPoint 69 = .ok (.iload_n 2, 1) := by decide +kernel
theorem dX4_descentPoint_70 : decode cX4_descentPoint 70 = .ok (.ireturn, 1) := by decide +kernel
set_option maxRecDepth 20000 in
theorem ggX4_rejectionMode_X4_requireRejection : GoodIn wsX4_rejectionMode wsX4_requireRejection := goodIn_ca (goodIn_r _ [6, 7, 8, 9, 10, 11, 12, 13, 14, 15, 16, 17, 18, 19, 20, 21] (by decide +kernel) (by decide +kernel)) (goodIn_sub (fun _ h => List.mem_cons_of_mem _ (List.mem_append_right _ h)) (by decide +kernel))
set_option maxRecDepth 20000 in
theorem gX4_rejectionMode_X4_requireRejection : GoodIn wsX4_rejectionMode (wsV RX4 232 RX4 yX4_requireRejection wsX4_requireRejection) := goodIn_app (goodIn_of _ (by decide +kernel)) ggX4_rejectionMode_X4_requireRejection
theorem dX4_rejectionMode_0 : decode cX4_rejectionMode 0 = .ok (.aload_n 0, 1) := by decide +kernel
theorem dX4_rejectionMode_1 : decode cX4_rejectionMode 1 = .ok (.invokevirtual 232, 3) := by decide +kernel
theorem dX4_rejectionMode_4 : decode cX4_rejectionMode 4 = .ok (.aload_n 0, 1) := by decide +kernel
theorem dX4_rejectionMode_5 : decode cX4_rejectionMode 5 = .ok (.getfield 235, 3) := by decide +kernel
theorem dX4_rejectionMode_8 : decode cX4_rejectionMode 8 = .ok (.ireturn, 1) := by decide +kernel
set_option maxRecDepth 20000 in
theorem ggX4_rejectionLength_X4_requireRejection : GoodIn wsX4_rejectionLength wsX4_requireRejection := goodIn_ca (goodIn_r _ [6, 7, 8, 9, 10, 11, 12, 13, 14, 15, 16, 17, 18, 19, 20, 21] (by decide +kernel) (by decide +kernel)) (goodIn_sub (fun _ h => List.mem_cons_of_mem _ (List.mem_append_right _ h)) (by decide +kernel))
set_option maxRecDepth 20000 in
theorem gX4_rejectionLength_X4_requireRejection : GoodIn wsX4_rejectionLength (wsV RX4 232 RX4 yX4_requireRejection wsX4_requireRejection) := goodIn_app (goodIn_of _ (by decide +kernel)) ggX4_rejectionLength_X4_requireRejection
theorem dX4_rejectionLength_0 : decode cX4_rejectionLength 0 = .ok (.aload_n 0, 1) := by decide +kernel
theorem dX4_rejectionLength_1 : decode cX4_rejectionLength 1 = .ok (.invokevirtual 232, 3) := by decide +kernel
theorem dX4_rejectionLength_4 : decode cX4_rejectionLength 4 = .ok (.aload_n 0, 1) := by decide +kernel
theorem dX4_rejectionLength_5 : decode cX4_rejectionLength 5 = .ok (.getfield 238, 3) := by decide +kernel
theorem dX4_rejectionLength_8 : decode cX4_rejectionLength 8 = .ok (.ireturn, 1) := by decide +kernel
set_option maxRecDepth 20000 in
theorem ggX4_rejectionDemand_X4_requireRejection : GoodIn wsX4_rejectionDemand wsX4_requireRejection := goodIn_ca (goodIn_r _ [6, 7, 8, 9, 10, 11, 12, 13, 14, 15, 16, 17, 18, 19, 20, 21] (by decide +kernel) (by decide +kernel)) (goodIn_sub (fun _ h => List.mem_cons_of_mem _ (List.mem_append_right _ h)) (by decide +kernel))
set_option maxRecDepth 20000 in
theorem gX4_rejectionDemand_X4_requireRejection : GoodIn wsX4_rejectionDemand (wsV RX4 232 RX4 yX4_requireRejection wsX4_requireRejection) := goodIn_app (goodIn_of _ (by decide +kernel)) ggX4_rejectionDemand_X4_requireRejection
theorem dX4_rejectionDemand_0 : decode cX4_rejectionDemand 0 = .ok (.aload_n 0, 1) := by decide +kernel
theorem dX4_rejectionDemand_1 : decode cX4_rejectionDemand 1 = .ok (.invokevirtual 232, 3) := by decide +kernel
theorem dX4_rejectionDemand_4 : decode cX4_rejectionDemand 4 = .ok (.aload_n 0, 1) := by decide +kernel
theorem dX4_rejectionDemand_5 : decode cX4_rejectionDemand 5 = .ok (.getfield 241, 3) := by decide +kernel
theorem dX4_rejectionDemand_8 : decode cX4_rejectionDemand 8 = .ok (.ireturn, 1) := by decide +kernel
set_option maxRecDepth 20000 in
theorem ggX4_simulate_X2_run : GoodIn wsX4_simulate wsX2_run := goodIn_r _ [10, 11, 12, 13, 14, 15, 16, 17, 18, 19, 20, 21, 22, 23, 9, 24, 25, 26, 27, 28, 29, 30, 31, 32, 33, 34, 35, 36, 37, 38, 39, 40, 41, 42, 43, 44, 45, 46, 47, 48, 49, 50, 51, 52, 53, 54, 55, 56, 57, 58, 59, 60, 61, 62, 63, 64, 65, 66, 67, 68, 69, 70, 71, 72, 73, 74, 75, 76, 77, 78, 79, 80, 81, 82, 83, 84, 85, 86, 87, 88, 89, 90, 91, 92, 93, 94, 95, 96, 97, 98, 99, 100, 101, 102, 103, 104, 105, 106, 107, 120, 121, 122, 123, 124, 125, 126, 127, 128, 129, 130, 131, 132, 133, 134, 135, 136, 137, 138, 139, 140, 141, 142, 143] (by decide +kernel) (by decide +kernel)
set_option maxRecDepth 20000 in
theorem gX4_simulate_X2_run : GoodIn wsX4_simulate (wsV RX4 248 RX2 yX2_run wsX2_run) := goodIn_app (goodIn_of _ (by decide +kernel)) ggX4_simulate_X2_run
theorem dX4_simulate_0 : decode cX4_simulate 0 = .ok (.iload_n 2, 1) := by decide +kernel
theorem dX4_simulate_1 : decode cX4_simulate 1 = .ok (.ifCond .lt 9, 3) := by decide +kernel
theorem dX4_simulate_4 : decode cX4_simulate 4 = .ok (.iload_n 2, 1) := by decide +kernel
theorem dX4_simulate_5 : decode cX4_simulate 5 = .ok (.bipush 100, 2) := by decide +kernel
theorem dX4_simulate_7 : decode cX4_simulate 7 = .ok (.if_icmp .le 13, 3) := by decide +kernel
theorem dX4_simulate_10 : decode cX4_simulate 10 = .ok (.new 51, 3) := by decide +kernel
theorem dX4_simulate_13 : decode cX4_simulate 13 = .ok (.dup, 1) := by decide +kernel
theorem dX4_simulate_14 : decode cX4_simulate 14 = .ok (.ldc 244, 2) := by decide +kernel
theorem dX4_simulate_16 : decode cX4_simulate 16 = .ok (.invokespecial 55, 3) := by decide +kernel
theorem dX4_simulate_19 : decode cX4_simulate 19 = .ok (.athrow, 1) := by decide +kernel
theorem dX4_simulate_20 : decode cX4_simulate 20 = .ok (.iload_n 3, 1) := by decide +kernel
theorem dX4_simulate_21 : decode cX4_simulate 21 = .ok (.iconst 1, 1) := by decide +kernel
theorem dX4_simulate_22 : decode cX4_simulate 22 = .ok (.if_icmp .lt 10, 3) := by decide +kernel
theorem dX4_simulate_25 : decode cX4_simulate 25 = .ok (.iload_n 3, 1) := by decide +kernel
theorem dX4_simulate_26 : decode cX4_simulate 26 = .ok (.sipush 200, 3) := by decide +kernel
theorem dX4_simulate_29 : decode cX4_simulate 29 = .ok (.if_icmp .le 13, 3) := by decide +kernel
theorem dX4_simulate_32 : decode cX4_simulate 32 = .ok (.new 51, 3) := by decide +kernel
theorem dX4_simulate_35 : decode cX4_simulate 35 = .ok (.dup, 1) := by decide +kernel
theorem dX4_simulate_36 : decode cX4_simulate 36 = .ok (.ldc 246, 2) := by decide +kernel
theorem dX4_simulate_38 : decode cX4_simulate 38 = .ok (.invokespecial 55, 3) := by decide +kernel
theorem dX4_simulate_41 : decode cX4_simulate 41 = .ok (.athrow, 1) := by decide +kernel
theorem dX4_simulate_42 : decode cX4_simulate 42 = .ok (.aload_n 0, 1) := by decide +kernel
theorem dX4_simulate_43 : decode cX4_simulate 43 = .ok (.getfield 39, 3) := by decide +kernel
theorem dX4_simulate_46 : decode cX4_simulate 46 = .ok (.aload_n 0, 1) := by decide +kernel
theorem dX4_simulate_47 : decode cX4_simulate 47 = .ok (.getfield 12, 3) := by decide +kernel
theorem dX4_simulate_50 : decode cX4_simulate 50 = .ok (.iload_n 1, 1) := by decide +kernel
theorem dX4_simulate_51 : decode cX4_simulate 51 = .ok (.iload_n 2, 1) := by decide +kernel
theorem dX4_simulate_52 : decode cX4_simulate 52 = .ok (.iload_n 3, 1) := by decide +kernel
theorem dX4_simulate_53 : decode cX4_simulate 53 = .ok (.invokevirtual 248, 3) := by decide +kernel
theorem dX4_simulate_56 : decode cX4_simulate 56 = .ok (.aload_n 0, 1) := by decide +kernel
theorem dX4_simulate_57 : decode cX4_simulate 57 = .ok (.iconst 1, 1) := by decide +kernel
theorem dX4_simulate_58 : decode cX4_simulate 58 = .ok (.putfield 145, 3) := by decide +kernel
theorem dX4_simulate_61 : decode cX4_simulate 61 = .ok (.aload_n 0, 1) := by decide +kernel
theorem dX4_simulate_62 : decode cX4_simulate 62 = .ok (.getfield 39, 3) := by decide +kernel
theorem dX4_simulate_65 : decode cX4_simulate 65 = .ok (.getfield 252, 3) := by decide +kernel
theorem dX4_simulate_68 : decode cX4_simulate 68 = .ok (.ireturn, 1) := by decide +kernel
set_option maxRecDepth 20000 in
theorem ggX4_completed_X4_requireSimulation : GoodIn wsX4_completed wsX4_requireSimulation := goodIn_ca (goodIn_r _ [6, 7, 8, 9, 10, 11, 12, 13, 14, 15, 16, 17, 18, 19, 20, 21] (by decide +kernel) (by decide +kernel)) (goodIn_sub (fun _ h => List.mem_cons_of_mem _ (List.mem_append_right _ h)) (by decide +kernel))
set_option maxRecDepth 20000 in
theorem gX4_completed_X4_requireSimulation : GoodIn wsX4_completed (wsV RX4 255 RX4 yX4_requireSimulation wsX4_requireSimulation) := goodIn_app (goodIn_of _ (by decide +kernel)) ggX4_completed_X4_requireSimulation
theorem dX4_completed_0 : decode cX4_completed 0 = .ok (.aload_n 0, 1) := by decide +kernel
theorem dX4_completed_1 : decode cX4_completed 1 = .ok (.invokevirtual 255, 3) := by decide +kernel
theorem dX4_completed_4 : decode cX4_completed 4 = .ok (.aload_n 0, 1) := by decide +kernel
theorem dX4_completed_5 : decode cX4_completed 5 = .ok (.getfield 39, 3) := by decide +kernel
theorem dX4_completed_8 : decode cX4_completed 8 = .ok (.getfield 258, 3) := by decide +kernel
theorem dX4_completed_11 : decode cX4_completed 11 = .ok (.ireturn, 1) := by decide +kernel
set_option maxRecDepth 20000 in
theorem ggX4_dropped_X4_requireSimulation : GoodIn wsX4_dropped wsX4_requireSimulation := goodIn_ca (goodIn_r _ [6, 7, 8, 9, 10, 11, 12, 13, 14, 15, 16, 17, 18, 19, 20, 21] (by decide +kernel) (by decide +kernel)) (goodIn_sub (fun _ h => List.mem_cons_of_mem _ (List.mem_append_right _ h)) (by decide +kernel))
set_option maxRecDepth 20000 in
theorem gX4_dropped_X4_requireSimulation : GoodIn wsX4_dropped (wsV RX4 255 RX4 yX4_requireSimulation wsX4_requireSimulation) := goodIn_app (goodIn_of _ (by decide +kernel)) ggX4_dropped_X4_requireSimulation
theorem dX4_dropped_0 : decode cX4_dropped 0 = .ok (.aload_n 0, 1) := by decide +kernel
theorem dX4_dropped_1 : decode cX4_dropped 1 = .ok (.invokevirtual 255, 3) := by decide +kernel
theorem dX4_dropped_4 : decode cX4_dropped 4 = .ok (.aload_n 0, 1) := by decide +kernel
theorem dX4_dropped_5 : decode cX4_dropped 5 = .ok (.getfield 39, 3) := by decide +kernel
theorem dX4_dropped_8 : decode cX4_dropped 8 = .ok (.getfield 261, 3) := by decide +kernel
theorem dX4_dropped_11 : decode cX4_dropped 11 = .ok (.ireturn, 1) := by decide +kernel
set_option maxRecDepth 20000 in
theorem ggX4_switches_X4_requireSimulation : GoodIn wsX4_switches wsX4_requireSimulation := goodIn_ca (goodIn_r _ [6, 7, 8, 9, 10, 11, 12, 13, 14, 15, 16, 17, 18, 19, 20, 21] (by decide +kernel) (by decide +kernel)) (goodIn_sub (fun _ h => List.mem_cons_of_mem _ (List.mem_append_right _ h)) (by decide +kernel))
set_option maxRecDepth 20000 in
theorem gX4_switches_X4_requireSimulation : GoodIn wsX4_switches (wsV RX4 255 RX4 yX4_requireSimulation wsX4_requireSimulation) := goodIn_app (goodIn_of _ (by decide +kernel)) ggX4_switches_X4_requireSimulation
theorem dX4_switches_0 : decode cX4_switches 0 = .ok (.aload_n 0, 1) := by decide +kernel
theorem dX4_switches_1 : decode cX4_switches 1 = .ok (.invokevirtual 255, 3) := by decide +kernel
theorem dX4_switches_4 : decode cX4_switches 4 = .ok (.aload_n 0, 1) := by decide +kernel
theorem dX4_switches_5 : decode cX4_switches 5 = .ok (.getfield 39, 3) := by decide +kernel
theorem dX4_switches_8 : decode cX4_switches 8 = .ok (.getfield 264, 3) := by decide +kernel
theorem dX4_switches_11 : decode cX4_switches 11 = .ok (.ireturn, 1) := by decide +kernel
set_option maxRecDepth 20000 in
theorem ggX4_idleUnits_X4_requireSimulation : GoodIn wsX4_idleUnits wsX4_requireSimulation := goodIn_ca (goodIn_r _ [6, 7, 8, 9, 10, 11, 12, 13, 14, 15, 16, 17, 18, 19, 20, 21] (by decide +kernel) (by decide +kernel)) (goodIn_sub (fun _ h => List.mem_cons_of_mem _ (List.mem_append_right _ h)) (by decide +kernel))
set_option maxRecDepth 20000 in
theorem gX4_idleUnits_X4_requireSimulation : GoodIn wsX4_idleUnits (wsV RX4 255 RX4 yX4_requireSimulation wsX4_requireSimulation) := goodIn_app (goodIn_of _ (by decide +kernel)) ggX4_idleUnits_X4_requireSimulation
theorem dX4_idleUnits_0 : decode cX4_idleUnits 0 = .ok (.aload_n 0, 1) := by decide +kernel
theorem dX4_idleUnits_1 : decode cX4_idleUnits 1 = .ok (.invokevirtual 255, 3) := by decide +kernel
theorem dX4_idleUnits_4 : decode cX4_idleUnits 4 = .ok (.aload_n 0, 1) := by decide +kernel
theorem dX4_idleUnits_5 : decode cX4_idleUnits 5 = .ok (.getfield 39, 3) := by decide +kernel
theorem dX4_idleUnits_8 : decode cX4_idleUnits 8 = .ok (.getfield 267, 3) := by decide +kernel
theorem dX4_idleUnits_11 : decode cX4_idleUnits 11 = .ok (.ireturn, 1) := by decide +kernel
set_option maxRecDepth 20000 in
theorem ggX4_response_X4_requireTask : GoodIn wsX4_response wsX4_requireTask := goodIn_ca (goodIn_r _ [8, 9, 10, 11, 19, 20, 21, 22, 23, 24, 25, 26, 27, 28, 29, 30, 46, 47, 48, 49, 50, 51, 52, 53, 54] (by decide +kernel) (by decide +kernel)) (goodIn_sub (fun _ h => List.mem_cons_of_mem _ (List.mem_append_left _ (List.mem_append_right _ h))) (by decide +kernel))
set_option maxRecDepth 20000 in
theorem gX4_response_X4_requireTask : GoodIn wsX4_response (wsV RX4 114 RX4 yX4_requireTask wsX4_requireTask) := goodIn_app (goodIn_of _ (by decide +kernel)) ggX4_response_X4_requireTask
set_option maxRecDepth 20000 in
theorem ggX4_response_X4_requireSimulation : GoodIn wsX4_response wsX4_requireSimulation := goodIn_ca (goodIn_r _ [15, 16, 17, 18, 19, 20, 21, 22, 23, 24, 25, 26, 27, 28, 29, 30] (by decide +kernel) (by decide +kernel)) (goodIn_sub (fun _ h => List.mem_cons_of_mem _ (List.mem_append_right _ h)) (by decide +kernel))
set_option maxRecDepth 20000 in
theorem gX4_response_X4_requireSimulation : GoodIn wsX4_response (wsV RX4 255 RX4 yX4_requireSimulation wsX4_requireSimulation) := goodIn_app (goodIn_of _ (by decide +kernel)) ggX4_response_X4_requireSimulation
theorem dX4_response_0 : decode cX4_response 0 = .ok (.aload_n 0, 1) := by decide +kernel
theorem dX4_response_1 : decode cX4_response 1 = .ok (.iload_n 1, 1) := by decide +kernel
theorem dX4_response_2 : decode cX4_response 2 = .ok (.invokevirtual 114, 3) := by decide +kernel
theorem dX4_response_5 : decode cX4_response 5 = .ok (.aload_n 0, 1) := by decide +kernel
theorem dX4_response_6 : decode cX4_response 6 = .ok (.invokevirtual 255, 3) := by decide +kernel
theorem dX4_response_9 : decode cX4_response 9 = .ok (.aload_n 0, 1) := by decide +kernel
theorem dX4_response_10 : decode cX4_response 10 = .ok (.getfield 39, 3) := by decide +kernel
theorem dX4_response_13 : decode cX4_response 13 = .ok (.getfield 270, 3) := by decide +kernel
theorem dX4_response_16 : decode cX4_response 16 = .ok (.iload_n 1, 1) := by decide +kernel
theorem dX4_response_17 : decode cX4_response 17 = .ok (.iaload, 1) := by decide +kernel
theorem dX4_response_18 : decode cX4_response 18 = .ok (.ifCond .ne 14, 3) := by decide +kernel
theorem dX4_response_21 : decode cX4_response 21 = .ok (.new 273, 3) := by decide +kernel
theorem dX4_response_24 : decode cX4_response 24 = .ok (.dup, 1) := by decide +kernel
theorem dX4_response_25 : decode cX4_response 25 = .ok (.ldc_w 275, 3) := by decide +kernel
theorem dX4_response_28 : decode cX4_response 28 = .ok (.invokespecial 277, 3) := by decide +kernel
theorem dX4_response_31 : decode cX4_response 31 = .ok (.athrow, 1) := by decide +kernel
theorem dX4_response_32 : decode cX4_response 32 = .ok (.aload_n 0, 1) := by decide +kernel
theorem dX4_response_33 : decode cX4_response 33 = .ok (.getfield 39, 3) := by decide +kernel
theorem dX4_response_36 : decode cX4_response 36 = .ok (.getfield 270, 3) := by decide +kernel
theorem dX4_response_39 : decode cX4_response 39 = .ok (.iload_n 1, 1) := by decide +kernel
theorem dX4_response_40 : decode cX4_response 40 = .ok (.iaload, 1) := by decide +kernel
theorem dX4_response_41 : decode cX4_response 41 = .ok (.ireturn, 1) := by decide +kernel
theorem dX4_timesAreInRange_0 : decode cX4_timesAreInRange 0 = .ok (.iload_n 0, 1) := by decide +kernel
theorem dX4_timesAreInRange_1 : decode cX4_timesAreInRange 1 = .ok (.iconst 1, 1) := by decide +kernel
theorem dX4_timesAreInRange_2 : decode cX4_timesAreInRange 2 = .ok (.if_icmp .lt 47, 3) := by decide +kernel
theorem dX4_timesAreInRange_5 : decode cX4_timesAreInRange 5 = .ok (.iload_n 0, 1) := by decide +kernel
theorem dX4_timesAreInRange_6 : decode cX4_timesAreInRange 6 = .ok (.bipush 40, 2) := by decide +kernel
theorem dX4_timesAreInRange_8 : decode cX4_timesAreInRange 8 = .ok (.if_icmp .gt 41, 3) := by decide +kernel
theorem dX4_timesAreInRange_11 : decode cX4_timesAreInRange 11 = .ok (.iload_n 1, 1) := by decide +kernel
theorem dX4_timesAreInRange_12 : decode cX4_timesAreInRange 12 = .ok (.iconst 1, 1) := by decide +kernel
theorem dX4_timesAreInRange_13 : decode cX4_timesAreInRange 13 = .ok (.if_icmp .lt 36, 3) := by decide +kernel
theorem dX4_timesAreInRange_16 : decode cX4_timesAreInRange 16 = .ok (.iload_n 1, 1) := by decide +kernel
theorem dX4_timesAreInRange_17 : decode cX4_timesAreInRange 17 = .ok (.iload_n 0, 1) := by decide +kernel
theorem dX4_timesAreInRange_18 : decode cX4_timesAreInRange 18 = .ok (.if_icmp .gt 31, 3) := by decide +kernel
theorem dX4_timesAreInRange_21 : decode cX4_timesAreInRange 21 = .ok (.iload_n 2, 1) := by decide +kernel
theorem dX4_timesAreInRange_22 : decode cX4_timesAreInRange 22 = .ok (.iconst 1, 1) := by decide +kernel
theorem dX4_timesAreInRange_23 : decode cX4_timesAreInRange 23 = .ok (.if_icmp .lt 26, 3) := by decide +kernel
theorem dX4_timesAreInRange_26 : decode cX4_timesAreInRange 26 = .ok (.iload_n 2, 1) := by decide +kernel
theorem dX4_timesAreInRange_27 : decode cX4_timesAreInRange 27 = .ok (.iload_n 1, 1) := by decide +kernel
theorem dX4_timesAreInRange_28 : decode cX4_timesAreInRange 28 = .ok (.if_icmp .gt 21, 3) := by decide +kernel
theorem dX4_timesAreInRange_31 : decode cX4_timesAreInRange 31 = .ok (.iload_n 3, 1) := by decide +kernel
theorem dX4_timesAreInRange_32 : decode cX4_timesAreInRange 32 = .ok (.ifCond .eq 13, 3) := by decide +kernel
theorem dX4_timesAreInRange_35 : decode cX4_timesAreInRange 35 = .ok (.iload_n 3, 1) := by decide +kernel
theorem dX4_timesAreInRange_36 : decode cX4_timesAreInRange 36 = .ok (.iload_n 2, 1) := by decide +kernel
theorem dX4_timesAreInRange_37 : decode cX4_timesAreInRange 37 = .ok (.if_icmp .lt 12, 3) := by decide +kernel
theorem dX4_timesAreInRange_40 : decode cX4_timesAreInRange 40 = .ok (.iload_n 3, 1) := by decide +kernel
theorem dX4_timesAreInRange_41 : decode cX4_timesAreInRange 41 = .ok (.iload_n 1, 1) := by decide +kernel
theorem dX4_timesAreInRange_42 : decode cX4_timesAreInRange 42 = .ok (.if_icmp .gt 7, 3) := by decide +kernel
theorem dX4_timesAreInRange_45 : decode cX4_timesAreInRange 45 = .ok (.iconst 1, 1) := by decide +kernel
theorem dX4_timesAreInRange_46 : decode cX4_timesAreInRange 46 = .ok (.goto 4, 3) := by decide +kernel
theorem dX4_timesAreInRange_49 : decode cX4_timesAreInRange 49 = .ok (.iconst 0, 1) := by decide +kernel
theorem dX4_timesAreInRange_50 : decode cX4_timesAreInRange 50 = .ok (.ireturn, 1) := by decide +kernel
theorem dX4_ranksAreInRange_0 : decode cX4_ranksAreInRange 0 = .ok (.iload_n 1, 1) := by decide +kernel
theorem dX4_ranksAreInRange_1 : decode cX4_ranksAreInRange 1 = .ok (.ifCond .lt 30, 3) := by decide +kernel
theorem dX4_ranksAreInRange_4 : decode cX4_ranksAreInRange 4 = .ok (.iload_n 1, 1) := by decide +kernel
theorem dX4_ranksAreInRange_5 : decode cX4_ranksAreInRange 5 = .ok (.bipush 9, 2) := by decide +kernel
theorem dX4_ranksAreInRange_7 : decode cX4_ranksAreInRange 7 = .ok (.if_icmp .gt 24, 3) := by decide +kernel
theorem dX4_ranksAreInRange_10 : decode cX4_ranksAreInRange 10 = .ok (.iload_n 2, 1) := by decide +kernel
theorem dX4_ranksAreInRange_11 : decode cX4_ranksAreInRange 11 = .ok (.ifCond .lt 20, 3) := by decide +kernel
theorem dX4_ranksAreInRange_14 : decode cX4_ranksAreInRange 14 = .ok (.iload_n 2, 1) := by decide +kernel
theorem dX4_ranksAreInRange_15 : decode cX4_ranksAreInRange 15 = .ok (.iload_n 0, 1) := by decide +kernel
theorem dX4_ranksAreInRange_16 : decode cX4_ranksAreInRange 16 = .ok (.ifCond .ne 7, 3) := by decide +kernel
theorem dX4_ranksAreInRange_19 : decode cX4_ranksAreInRange 19 = .ok (.iconst 2, 1) := by decide +kernel
theorem dX4_ranksAreInRange_20 : decode cX4_ranksAreInRange 20 = .ok (.goto 4, 3) := by decide +kernel
theorem dX4_ranksAreInRange_23 : decode cX4_ranksAreInRange 23 = .ok (.iconst 0, 1) := by decide +kernel
theorem dX4_ranksAreInRange_24 : decode cX4_ranksAreInRange 24 = .ok (.if_icmp .gt 7, 3) := by decide +kernel
theorem dX4_ranksAreInRange_27 : decode cX4_ranksAreInRange 27 = .ok (.iconst 1, 1) := by decide +kernel
theorem dX4_ranksAreInRange_28 : decode cX4_ranksAreInRange 28 = .ok (.goto 4, 3) := by decide +kernel
theorem dX4_ranksAreInRange_31 : decode cX4_ranksAreInRange 31 = .ok (.iconst 0, 1) := by decide +kernel
theorem dX4_ranksAreInRange_32 : decode cX4_ranksAreInRange 32 = .ok (.ireturn, 1) := by decide +kernel
theorem dX4_requireTask_0 : decode cX4_requireTask 0 = .ok (.iload_n 1, 1) := by decide +kernel
theorem dX4_requireTask_1 : decode cX4_requireTask 1 = .ok (.ifCond .lt 14, 3) := by decide +kernel
theorem dX4_requireTask_4 : decode cX4_requireTask 4 = .ok (.iload_n 1, 1) := by decide +kernel
theorem dX4_requireTask_5 : decode cX4_requireTask 5 = .ok (.aload_n 0, 1) := by decide +kernel
theorem dX4_requireTask_6 : decode cX4_requireTask 6 = .ok (.getfield 12, 3) := by decide +kernel
theorem dX4_requireTask_9 : decode cX4_requireTask 9 = .ok (.getfield 58, 3) := by decide +kernel
theorem dX4_requireTask_12 : decode cX4_requireTask 12 = .ok (.if_icmp .lt 14, 3) := by decide +kernel
theorem dX4_requireTask_15 : decode cX4_requireTask 15 = .ok (.new 227, 3) := by decide +kernel
theorem dX4_requireTask_18 : decode cX4_requireTask 18 = .ok (.dup, 1) := by decide +kernel
theorem dX4_requireTask_19 : decode cX4_requireTask 19 = .ok (.ldc_w 278, 3) := by decide +kernel
theorem dX4_requireTask_22 : decode cX4_requireTask 22 = .ok (.invokespecial 231, 3) := by decide +kernel
theorem dX4_requireTask_25 : decode cX4_requireTask 25 = .ok (.athrow, 1) := by decide +kernel
theorem dX4_requireTask_26 : decode cX4_requireTask 26 = .ok (.return_, 1) := by decide +kernel
theorem dX4_requireMode_0 : decode cX4_requireMode 0 = .ok (.iload_n 0, 1) := by decide +kernel
theorem dX4_requireMode_1 : decode cX4_requireMode 1 = .ok (.ifCond .eq 19, 3) := by decide +kernel
theorem dX4_requireMode_4 : decode cX4_requireMode 4 = .ok (.iload_n 0, 1) := by decide +kernel
theorem dX4_requireMode_5 : decode cX4_requireMode 5 = .ok (.iconst 1, 1) := by decide +kernel
theorem dX4_requireMode_6 : decode cX4_requireMode 6 = .ok (.if_icmp .eq 14, 3) := by decide +kernel
theorem dX4_requireMode_9 : decode cX4_requireMode 9 = .ok (.new 51, 3) := by decide +kernel
theorem dX4_requireMode_12 : decode cX4_requireMode 12 = .ok (.dup, 1) := by decide +kernel
theorem dX4_requireMode_13 : decode cX4_requireMode 13 = .ok (.ldc_w 280, 3) := by decide +kernel
theorem dX4_requireMode_16 : decode cX4_requireMode 16 = .ok (.invokespecial 55, 3) := by decide +kernel
theorem dX4_requireMode_19 : decode cX4_requireMode 19 = .ok (.athrow, 1) := by decide +kernel
theorem dX4_requireMode_20 : decode cX4_requireMode 20 = .ok (.return_, 1) := by decide +kernel
theorem dX4_requireRejection_0 : decode cX4_requireRejection 0 = .ok (.aload_n 0, 1) := by decide +kernel
theorem dX4_requireRejection_1 : decode cX4_requireRejection 1 = .ok (.getfield 282, 3) := by decide +kernel
theorem dX4_requireRejection_4 : decode cX4_requireRejection 4 = .ok (.ifCond .ne 14, 3) := by decide +kernel
theorem dX4_requireRejection_7 : decode cX4_requireRejection 7 = .ok (.new 273, 3) := by decide +kernel
theorem dX4_requireRejection_10 : decode cX4_requireRejection 10 = .ok (.dup, 1) := by decide +kernel
theorem dX4_requireRejection_11 : decode cX4_requireRejection 11 = .ok (.ldc_w 285, 3) := by decide +kernel
theorem dX4_requireRejection_14 : decode cX4_requireRejection 14 = .ok (.invokespecial 277, 3) := by decide +kernel
theorem dX4_requireRejection_17 : decode cX4_requireRejection 17 = .ok (.athrow, 1) := by decide +kernel
theorem dX4_requireRejection_18 : decode cX4_requireRejection 18 = .ok (.return_, 1) := by decide +kernel
theorem dX4_requireSimulation_0 : decode cX4_requireSimulation 0 = .ok (.aload_n 0, 1) := by decide +kernel
theorem dX4_requireSimulation_1 : decode cX4_requireSimulation 1 = .ok (.getfield 145, 3) := by decide +kernel
theorem dX4_requireSimulation_4 : decode cX4_requireSimulation 4 = .ok (.ifCond .ne 14, 3) := by decide +kernel
theorem dX4_requireSimulation_7 : decode cX4_requireSimulation 7 = .ok (.new 62, 3) := by decide +kernel
theorem dX4_requireSimulation_10 : decode cX4_requireSimulation 10 = .ok (.dup, 1) := by decide +kernel
theorem dX4_requireSimulation_11 : decode cX4_requireSimulation 11 = .ok (.ldc_w 287, 3) := by decide +kernel
theorem dX4_requireSimulation_14 : decode cX4_requireSimulation 14 = .ok (.invokespecial 66, 3) := by decide +kernel
theorem dX4_requireSimulation_17 : decode cX4_requireSimulation 17 = .ok (.athrow, 1) := by decide +kernel
theorem dX4_requireSimulation_18 : decode cX4_requireSimulation 18 = .ok (.return_, 1) := by decide +kernel
set_option maxRecDepth 20000 in
theorem ggX4_recordRejection_X0_firstFailure : GoodIn wsX4_recordRejection wsX0_firstFailure := goodIn_r _ [10, 11, 12, 13, 9, 14, 15, 16, 17, 18, 19, 20, 21, 22, 23, 24, 25, 26, 27, 28, 29, 30, 31, 32, 33, 34, 35, 36, 50, 51, 52, 53, 54, 55, 56, 57, 58] (by decide +kernel) (by decide +kernel)
set_option maxRecDepth 20000 in
theorem gX4_recordRejection_X0_firstFailure : GoodIn wsX4_recordRejection (wsV RX4 199 RX0 yX0_firstFailure wsX0_firstFailure) := goodIn_app (goodIn_of _ (by decide +kernel)) ggX4_recordRejection_X0_firstFailure
set_option maxRecDepth 20000 in
theorem ggX4_recordRejection_X0_totalDemand : GoodIn wsX4_recordRejection wsX0_totalDemand := goodIn_r _ [14, 15, 16, 17, 18, 19, 20, 9, 21, 22, 23, 24, 25, 26, 27, 28, 29, 30, 31, 32, 33, 34, 35, 36, 50, 51, 52, 53, 54, 55, 56, 57, 58] (by decide +kernel) (by decide +kernel)
set_option maxRecDepth 20000 in
theorem gX4_recordRejection_X0_totalDemand : GoodIn wsX4_recordRejection (wsV RX4 187 RX0 yX0_totalDemand wsX0_totalDemand) := goodIn_app (goodIn_of _ (by decide +kernel)) ggX4_recordRejection_X0_totalDemand
theorem dX4_recordRejection_0 : decode cX4_recordRejection 0 = .ok (.aload_n 0, 1) := by decide +kernel
theorem dX4_recordRejection_1 : decode cX4_recordRejection 1 = .ok (.getfield 16, 3) := by decide +kernel
theorem dX4_recordRejection_4 : decode cX4_recordRejection 4 = .ok (.iconst 0, 1) := by decide +kernel
theorem dX4_recordRejection_5 : decode cX4_recordRejection 5 = .ok (.bipush 8, 2) := by decide +kernel
theorem dX4_recordRejection_7 : decode cX4_recordRejection 7 = .ok (.invokevirtual 199, 3) := by decide +kernel
theorem dX4_recordRejection_10 : decode cX4_recordRejection 10 = .ok (.istore_n 1, 1) := by decide +kernel
theorem dX4_recordRejection_11 : decode cX4_recordRejection 11 = .ok (.aload_n 0, 1) := by decide +kernel
theorem dX4_recordRejection_12 : decode cX4_recordRejection 12 = .ok (.iload_n 1, 1) := by decide +kernel
theorem dX4_recordRejection_13 : decode cX4_recordRejection 13 = .ok (.ifCond .le 7, 3) := by decide +kernel
theorem dX4_recordRejection_16 : decode cX4_recordRejection 16 = .ok (.iconst 0, 1) := by decide +kernel
theorem dX4_recordRejection_17 : decode cX4_recordRejection 17 = .ok (.goto 4, 3) := by decide +kernel
theorem dX4_recordRejection_20 : decode cX4_recordRejection 20 = .ok (.iconst 1, 1) := by decide +kernel
theorem dX4_recordRejection_21 : decode cX4_recordRejection 21 = .ok (.putfield 235, 3) := by decide +kernel
theorem dX4_recordRejection_24 : decode cX4_recordRejection 24 = .ok (.aload_n 0, 1) := by decide +kernel
theorem dX4_recordRejection_25 : decode cX4_recordRejection 25 = .ok (.iload_n 1, 1) := by decide +kernel
theorem dX4_recordRejection_26 : decode cX4_recordRejection 26 = .ok (.ifCond .le 7, 3) := by decide +kernel
theorem dX4_recordRejection_29 : decode cX4_recordRejection 29 = .ok (.iload_n 1, 1) := by decide +kernel
theorem dX4_recordRejection_30 : decode cX4_recordRejection 30 = .ok (.goto 13, 3) := by decide +kernel
theorem dX4_recordRejection_33 : decode cX4_recordRejection 33 = .ok (.aload_n 0, 1) := by decide +kernel
theorem dX4_recordRejection_34 : decode cX4_recordRejection 34 = .ok (.getfield 16, 3) := by decide +kernel
theorem dX4_recordRejection_37 : decode cX4_recordRejection 37 = .ok (.iconst 1, 1) := by decide +kernel
theorem dX4_recordRejection_38 : decode cX4_recordRejection 38 = .ok (.bipush 8, 2) := by decide +kernel
theorem dX4_recordRejection_40 : decode cX4_recordRejection 40 = .ok (.invokevirtual 199, 3) := by decide +kernel
theorem dX4_recordRejection_43 : decode cX4_recordRejection 43 = .ok (.putfield 238, 3) := by decide +kernel
theorem dX4_recordRejection_46 : decode cX4_recordRejection 46 = .ok (.aload_n 0, 1) := by decide +kernel
theorem dX4_recordRejection_47 : decode cX4_recordRejection 47 = .ok (.aload_n 0, 1) := by decide +kernel
theorem dX4_recordRejection_48 : decode cX4_recordRejection 48 = .ok (.getfield 16, 3) := by decide +kernel
theorem dX4_recordRejection_51 : decode cX4_recordRejection 51 = .ok (.aload_n 0, 1) := by decide +kernel
theorem dX4_recordRejection_52 : decode cX4_recordRejection 52 = .ok (.getfield 235, 3) := by decide +kernel
theorem dX4_recordRejection_55 : decode cX4_recordRejection 55 = .ok (.aload_n 0, 1) := by decide +kernel
theorem dX4_recordRejection_56 : decode cX4_recordRejection 56 = .ok (.getfield 238, 3) := by decide +kernel
theorem dX4_recordRejection_59 : decode cX4_recordRejection 59 = .ok (.bipush 8, 2) := by decide +kernel
theorem dX4_recordRejection_61 : decode cX4_recordRejection 61 = .ok (.invokevirtual 187, 3) := by decide +kernel
theorem dX4_recordRejection_64 : decode cX4_recordRejection 64 = .ok (.putfield 241, 3) := by decide +kernel
theorem dX4_recordRejection_67 : decode cX4_recordRejection 67 = .ok (.aload_n 0, 1) := by decide +kernel
theorem dX4_recordRejection_68 : decode cX4_recordRejection 68 = .ok (.iconst 1, 1) := by decide +kernel
theorem dX4_recordRejection_69 : decode cX4_recordRejection 69 = .ok (.putfield 282, 3) := by decide +kernel
theorem dX4_recordRejection_72 : decode cX4_recordRejection 72 = .ok (.return_, 1) := by decide +kernel
set_option maxRecDepth 20000 in
theorem ggX4_commitTrial_X1_remember : GoodIn wsX4_commitTrial wsX1_remember := goodIn_r _ [9, 10, 11, 12, 13, 14, 15, 16, 17, 18, 19, 20, 21, 22, 23, 24, 25, 26, 27, 28, 29, 30, 31, 32, 33, 34, 48, 49, 50, 51, 52, 53, 54, 55, 56, 57, 58, 59] (by decide +kernel) (by decide +kernel)
set_option maxRecDepth 20000 in
theorem gX4_commitTrial_X1_remember : GoodIn wsX4_commitTrial (wsV RX4 289 RX1 yX1_remember wsX1_remember) := goodIn_app (goodIn_of _ (by decide +kernel)) ggX4_commitTrial_X1_remember
set_option maxRecDepth 20000 in
theorem ggX4_commitTrial_X0_copyFrom : GoodIn wsX4_commitTrial wsX0_copyFrom := goodIn_r _ [21, 22, 23, 24, 25, 26, 20, 27, 28, 29, 30, 31, 32, 33, 34, 51, 52, 53, 54, 55, 56, 57, 58, 59] (by decide +kernel) (by decide +kernel)
set_option maxRecDepth 20000 in
theorem gX4_commitTrial_X0_copyFrom : GoodIn wsX4_commitTrial (wsV RX4 67 RX0 yX0_copyFrom wsX0_copyFrom) := goodIn_app (goodIn_of _ (by decide +kernel)) ggX4_commitTrial_X0_copyFrom
theorem dX4_commitTrial_0 : decode cX4_commitTrial 0 = .ok (.aload_n 0, 1) := by decide +kernel
theorem dX4_commitTrial_1 : decode cX4_commitTrial 1 = .ok (.getfield 25, 3) := by decide +kernel
theorem dX4_commitTrial_4 : decode cX4_commitTrial 4 = .ok (.aload_n 0, 1) := by decide +kernel
theorem dX4_commitTrial_5 : decode cX4_commitTrial 5 = .ok (.getfield 12, 3) := by decide +kernel
theorem dX4_commitTrial_8 : decode cX4_commitTrial 8 = .ok (.invokevirtual 289, 3) := by decide +kernel
theorem dX4_commitTrial_11 : decode cX4_commitTrial 11 = .ok (.aload_n 0, 1) := by decide +kernel
theorem dX4_commitTrial_12 : decode cX4_commitTrial 12 = .ok (.getfield 12, 3) := by decide +kernel
theorem dX4_commitTrial_15 : decode cX4_commitTrial 15 = .ok (.aload_n 0, 1) := by decide +kernel
theorem dX4_commitTrial_16 : decode cX4_commitTrial 16 = .ok (.getfield 16, 3) := by decide +kernel
theorem dX4_commitTrial_19 : decode cX4_commitTrial 19 = .ok (.invokevirtual 67, 3) := by decide +kernel
theorem dX4_commitTrial_22 : decode cX4_commitTrial 22 = .ok (.aload_n 0, 1) := by decide +kernel
theorem dX4_commitTrial_23 : decode cX4_commitTrial 23 = .ok (.iconst 0, 1) := by decide +kernel
theorem dX4_commitTrial_24 : decode cX4_commitTrial 24 = .ok (.putfield 145, 3) := by decide +kernel
theorem dX4_commitTrial_27 : decode cX4_commitTrial 27 = .ok (.return_, 1) := by decide +kernel
set_option maxRecDepth 20000 in
theorem ggX4_spareTime_X0_totalDemand : GoodIn wsX4_spareTime wsX0_totalDemand := goodIn_r _ [6, 7, 8, 9, 10, 11, 12, 5, 13, 14, 15, 16, 17, 18, 19, 20, 21, 22, 23, 24, 25, 26, 27, 28, 41, 42, 43, 44, 45, 46, 47, 48, 49] (by decide +kernel) (by decide +kernel)
set_option maxRecDepth 20000 in
theorem gX4_spareTime_X0_totalDemand : GoodIn wsX4_spareTime (wsV RX4 187 RX0 yX0_totalDemand wsX0_totalDemand) := goodIn_app (goodIn_of _ (by decide +kernel)) ggX4_spareTime_X0_totalDemand
theorem dX4_spareTime_0 : decode cX4_spareTime 0 = .ok (.iload_n 2, 1) := by decide +kernel
theorem dX4_spareTime_1 : decode cX4_spareTime 1 = .ok (.aload_n 0, 1) := by decide +kernel
theorem dX4_spareTime_2 : decode cX4_spareTime 2 = .ok (.getfield 12, 3) := by decide +kernel
theorem dX4_spareTime_5 : decode cX4_spareTime 5 = .ok (.iload_n 1, 1) := by decide +kernel
theorem dX4_spareTime_6 : decode cX4_spareTime 6 = .ok (.iload_n 2, 1) := by decide +kernel
theorem dX4_spareTime_7 : decode cX4_spareTime 7 = .ok (.aload_n 0, 1) := by decide +kernel
theorem dX4_spareTime_8 : decode cX4_spareTime 8 = .ok (.getfield 12, 3) := by decide +kernel
theorem dX4_spareTime_11 : decode cX4_spareTime 11 = .ok (.getfield 154, 3) := by decide +kernel
theorem dX4_spareTime_14 : decode cX4_spareTime 14 = .ok (.invokevirtual 187, 3) := by decide +kernel
theorem dX4_spareTime_17 : decode cX4_spareTime 17 = .ok (.isub, 1) := by decide +kernel
theorem dX4_spareTime_18 : decode cX4_spareTime 18 = .ok (.ireturn, 1) := by decide +kernel
set_option maxRecDepth 20000 in
theorem ggX4_tightestInterval_X4_spareTime : GoodIn wsX4_tightestInterval wsX4_spareTime := goodIn_r _ [5, 6, 7, 8, 9, 10, 11, 12, 13, 14, 15, 16, 17, 18, 19, 20, 21, 22, 23, 24, 25, 26, 27, 28, 29, 30, 31, 32, 33, 34, 35, 36, 37, 38, 39, 40, 41, 42, 43, 44, 45, 46, 47, 48, 49, 50, 51, 52, 53, 54] (by decide +kernel) (by decide +kernel)
set_option maxRecDepth 20000 in
theorem gX4_tightestInterval_X4_spareTime : GoodIn wsX4_tightestInterval (wsV RX4 194 RX4 yX4_spareTime wsX4_spareTime) := goodIn_app (goodIn_of _ (by decide +kernel)) ggX4_tightestInterval_X4_spareTime
theorem dX4_tightestInterval_0 : decode cX4_tightestInterval 0 = .ok (.iconst 1, 1) := by decide +kernel
theorem dX4_tightestInterval_1 : decode cX4_tightestInterval 1 = .ok (.istore_n 2, 1) := by decide +kernel
theorem dX4_tightestInterval_2 : decode cX4_tightestInterval 2 = .ok (.aload_n 0, 1) := by decide +kernel
theorem dX4_tightestInterval_3 : decode cX4_tightestInterval 3 = .ok (.iload_n 1, 1) := by decide +kernel
theorem dX4_tightestInterval_4 : decode cX4_tightestInterval 4 = .ok (.iconst 1, 1) := by decide +kernel
theorem dX4_tightestInterval_5 : decode cX4_tightestInterval 5 = .ok (.invokevirtual 194, 3) := by decide +kernel
theorem dX4_tightestInterval_8 : decode cX4_tightestInterval 8 = .ok (.istore_n 3, 1) := by decide +kernel
theorem dX4_tightestInterval_9 : decode cX4_tightestInterval 9 = .ok (.iconst 2, 1) := by decide +kernel
theorem dX4_tightestInterval_10 : decode cX4_tightestInterval 10 = .ok (.istore 4, 2) := by decide +kernel
theorem dX4_tightestInterval_12 : decode cX4_tightestInterval 12 = .ok (.iload 4, 2) := by decide +kernel
theorem dX4_tightestInterval_14 : decode cX4_tightestInterval 14 = .ok (.sipush 200, 3) := by decide +kernel
theorem dX4_tightestInterval_17 : decode cX4_tightestInterval 17 = .ok (.if_icmp .gt 30, 3) := by decide +kernel
theorem dX4_tightestInterval_20 : decode cX4_tightestInterval 20 = .ok (.aload_n 0, 1) := by decide +kernel
theorem dX4_tightestInterval_21 : decode cX4_tightestInterval 21 = .ok (.iload_n 1, 1) := by decide +kernel
theorem dX4_tightestInterval_22 : decode cX4_tightestInterval 22 = .ok (.iload 4, 2) := by decide +kernel
theorem dX4_tightestInterval_24 : decode cX4_tightestInterval 24 = .ok (.invokevirtual 194, 3) := by decide +kernel
theorem dX4_tightestInterval_27 : decode cX4_tightestInterval 27 = .ok (.istore 5, 2) := by decide +kernel
theorem dX4_tightestInterval_29 : decode cX4_tightestInterval 29 = .ok (.iload 5, 2) := by decide +kernel
theorem dX4_tightestInterval_31 : decode cX4_tightestInterval 31 = .ok (.iload_n 3, 1) := by decide +kernel
theorem dX4_tightestInterval_32 : decode cX4_tightestInterval 32 = .ok (.if_icmp .ge 9, 3) := by decide +kernel
theorem dX4_tightestInterval_35 : decode cX4_tightestInterval 35 = .ok (.iload 5, 2) := by decide +kernel
theorem dX4_tightestInterval_37 : decode cX4_tightestInterval 37 = .ok (.istore_n 3, 1) := by decide +kernel
theorem dX4_tightestInterval_38 : decode cX4_tightestInterval 38 = .ok (.iload 4, 2) := by decide +kernel
theorem dX4_tightestInterval_40 : decode cX4_tightestInterval 40 = .ok (.istore_n 2, 1) := by decide +kernel
theorem dX4_tightestInterval_41 : decode cX4_tightestInterval 41 = .ok (.iinc 4 1, 3) := by decide +kernel
theorem dX4_tightestInterval_44 : decode cX4_tightestInterval 44 = .ok (.goto (-32), 3) := by decide +kernel
theorem dX4_tightestInterval_47 : decode cX4_tightestInterval 47 = .ok (.iload_n 2, 1) := by decide +kernel
theorem dX4_tightestInterval_48 : decode cX4_tightestInterval 48 = .ok (.ireturn, 1) := by decide +kernel
set_option maxRecDepth 20000 in
theorem ggX4_descentPointAfter_X0_totalDemand : GoodIn wsX4_descentPointAfter wsX0_totalDemand := goodIn_r _ [6, 7, 8, 9, 10, 11, 12, 5, 13, 14, 15, 16, 17, 18, 19, 20, 21, 22, 23, 24, 25, 26, 27, 28, 57, 58, 59, 60, 61, 62, 63, 64, 65] (by decide +kernel) (by decide +kernel)
set_option maxRecDepth 20000 in
theorem gX4_descentPointAfter_X0_totalDemand : GoodIn wsX4_descentPointAfter (wsV RX4 187 RX0 yX0_totalDemand wsX0_totalDemand) := goodIn_app (goodIn_of _ (by decide +kernel)) ggX4_descentPointAfter_X0_totalDemand
set_option maxRecDepth 20000 in
theorem ggX4_descentPointAfter_X0_leastTestPoint : GoodIn wsX4_descentPointAfter wsX0_leastTestPoint := goodIn_r _ [32, 7, 33, 34, 35, 36, 37, 10, 11, 12, 5, 13, 8, 9, 14, 57, 58, 59, 60, 61, 62, 63, 64, 65] (by decide +kernel) (by decide +kernel)
set_option maxRecDepth 20000 in
theorem gX4_descentPointAfter_X0_leastTestPoint : GoodIn wsX4_descentPointAfter (wsV RX4 292 RX0 yX0_leastTestPoint wsX0_leastTestPoint) := goodIn_app (goodIn_of _ (by decide +kernel)) ggX4_descentPointAfter_X0_leastTestPoint
set_option maxRecDepth 20000 in
theorem ggX4_descentPointAfter_X0_greatestTestPointBelow : GoodIn wsX4_descentPointAfter wsX0_greatestTestPointBelow := goodIn_r _ [41, 7, 33, 42, 43, 36, 44, 10, 11, 12, 5, 13, 8, 9, 14, 15, 16, 17, 18, 19, 20, 57, 58, 59, 60, 61, 62, 63, 64, 65] (by decide +kernel) (by decide +kernel)
set_option maxRecDepth 20000 in
theorem gX4_descentPointAfter_X0_greatestTestPointBelow : GoodIn wsX4_descentPointAfter (wsV RX4 221 RX0 yX0_greatestTestPointBelow wsX0_greatestTestPointBelow) := goodIn_app (goodIn_of _ (by decide +kernel)) ggX4_descentPointAfter_X0_greatestTestPointBelow
theorem dX4_descentPointAfter_0 : decode cX4_descentPointAfter 0 = .ok (.aload_n 0, 1) := by decide +kernel
theorem dX4_descentPointAfter_1 : decode cX4_descentPointAfter 1 = .ok (.getfield 12, 3) := by decide +kernel
theorem dX4_descentPointAfter_4 : decode cX4_descentPointAfter 4 = .ok (.iconst 0, 1) := by decide +kernel
theorem dX4_descentPointAfter_5 : decode cX4_descentPointAfter 5 = .ok (.iload_n 1, 1) := by decide +kernel
theorem dX4_descentPointAfter_6 : decode cX4_descentPointAfter 6 = .ok (.aload_n 0, 1) := by decide +kernel
theorem dX4_descentPointAfter_7 : decode cX4_descentPointAfter 7 = .ok (.getfield 12, 3) := by decide +kernel
theorem dX4_descentPointAfter_10 : decode cX4_descentPointAfter 10 = .ok (.getfield 154, 3) := by decide +kernel
theorem dX4_descentPointAfter_13 : decode cX4_descentPointAfter 13 = .ok (.invokevirtual 187, 3) := by decide +kernel
theorem dX4_descentPointAfter_16 : decode cX4_descentPointAfter 16 = .ok (.istore_n 2, 1) := by decide +kernel
theorem dX4_descentPointAfter_17 : decode cX4_descentPointAfter 17 = .ok (.iload_n 2, 1) := by decide +kernel
theorem dX4_descentPointAfter_18 : decode cX4_descentPointAfter 18 = .ok (.iload_n 1, 1) := by decide +kernel
theorem dX4_descentPointAfter_19 : decode cX4_descentPointAfter 19 = .ok (.if_icmp .gt 14, 3) := by decide +kernel
theorem dX4_descentPointAfter_22 : decode cX4_descentPointAfter 22 = .ok (.iload_n 2, 1) := by decide +kernel
theorem dX4_descentPointAfter_23 : decode cX4_descentPointAfter 23 = .ok (.aload_n 0, 1) := by decide +kernel
theorem dX4_descentPointAfter_24 : decode cX4_descentPointAfter 24 = .ok (.getfield 12, 3) := by decide +kernel
theorem dX4_descentPointAfter_27 : decode cX4_descentPointAfter 27 = .ok (.invokevirtual 292, 3) := by decide +kernel
theorem dX4_descentPointAfter_30 : decode cX4_descentPointAfter 30 = .ok (.if_icmp .gt 5, 3) := by decide +kernel
theorem dX4_descentPointAfter_33 : decode cX4_descentPointAfter 33 = .ok (.iconst 0, 1) := by decide +kernel
theorem dX4_descentPointAfter_34 : decode cX4_descentPointAfter 34 = .ok (.ireturn, 1) := by decide +kernel
theorem dX4_descentPointAfter_35 : decode cX4_descentPointAfter 35 = .ok (.iload_n 2, 1) := by decide +kernel
theorem dX4_descentPointAfter_36 : decode cX4_descentPointAfter 36 = .ok (.iload_n 1, 1) := by decide +kernel
theorem dX4_descentPointAfter_37 : decode cX4_descentPointAfter 37 = .ok (.if_icmp .ge 7, 3) := by decide +kernel
theorem dX4_descentPointAfter_40 : decode cX4_descentPointAfter 40 = .ok (.iload_n 2, 1) := by decide +kernel
theorem dX4_descentPointAfter_41 : decode cX4_descentPointAfter 41 = .ok (.goto 11, 3) := by decide +kernel
theorem dX4_descentPointAfter_44 : decode cX4_descentPointAfter 44 = .ok (.aload_n 0, 1) := by decide +kernel
theorem dX4_descentPointAfter_45 : decode cX4_descentPointAfter 45 = .ok (.getfield 12, 3) := by decide +kernel
theorem dX4_descentPointAfter_48 : decode cX4_descentPointAfter 48 = .ok (.iload_n 1, 1) := by decide +kernel
theorem dX4_descentPointAfter_49 : decode cX4_descentPointAfter 49 = .ok (.invokevirtual 221, 3) := by decide +kernel
theorem dX4_descentPointAfter_52 : decode cX4_descentPointAfter 52 = .ok (.ireturn, 1) := by decide +kernel
theorem dX4_doubleBits_0 : decode cX4_doubleBits 0 = .ok (.dload_n 0, 1) := by decide +kernel
theorem dX4_doubleBits_1 : decode cX4_doubleBits 1 = .ok (.dconst 0, 1) := by decide +kernel
theorem dX4_doubleBits_2 : decode cX4_doubleBits 2 = .ok (.dcmp .g, 1) := by decide +kernel
theorem dX4_doubleBits_3 : decode cX4_doubleBits 3 = .ok (.ifCond .gt 5, 3) := by decide +kernel
theorem dX4_doubleBits_6 : decode cX4_doubleBits 6 = .ok (.lconst 0, 1) := by decide +kernel
theorem dX4_doubleBits_7 : decode cX4_doubleBits 7 = .ok (.lreturn, 1) := by decide +kernel
theorem dX4_doubleBits_8 : decode cX4_doubleBits 8 = .ok (.dload_n 0, 1) := by decide +kernel
theorem dX4_doubleBits_9 : decode cX4_doubleBits 9 = .ok (.dstore_n 2, 1) := by decide +kernel
theorem dX4_doubleBits_10 : decode cX4_doubleBits 10 = .ok (.sipush 1023, 3) := by decide +kernel
theorem dX4_doubleBits_13 : decode cX4_doubleBits 13 = .ok (.istore 4, 2) := by decide +kernel
theorem dX4_doubleBits_15 : decode cX4_doubleBits 15 = .ok (.iconst 0, 1) := by decide +kernel
theorem dX4_doubleBits_16 : decode cX4_doubleBits 16 = .ok (.istore 5, 2) := by decide +kernel
theorem dX4_doubleBits_18 : decode cX4_doubleBits 18 = .ok (.iload 5, 2) := by decide +kernel
theorem dX4_doubleBits_20 : decode cX4_doubleBits 20 = .ok (.sipush 1023, 3) := by decide +kernel
theorem dX4_doubleBits_23 : decode cX4_doubleBits 23 = .ok (.if_icmp .ge 26, 3) := by decide +kernel
theorem dX4_doubleBits_26 : decode cX4_doubleBits 26 = .ok (.dload_n 2, 1) := by decide +kernel
theorem dX4_doubleBits_27 : decode cX4_doubleBits 27 = .ok (.ldc2_w 296, 3) := by decide +kernel
theorem dX4_doubleBits_30 : decode cX4_doubleBits 30 = .ok (.dcmp .l, 1) := by decide +kernel
theorem dX4_doubleBits_31 : decode cX4_doubleBits 31 = .ok (.ifCond .lt 18, 3) := by decide +kernel
theorem dX4_doubleBits_34 : decode cX4_doubleBits 34 = .ok (.dload_n 2, 1) := by decide +kernel
theorem dX4_doubleBits_35 : decode cX4_doubleBits 35 = .ok (.ldc2_w 296, 3) := by decide +kernel
theorem dX4_doubleBits_38 : decode cX4_doubleBits 38 = .ok (.ddiv, 1) := by decide +kernel
theorem dX4_doubleBits_39 : decode cX4_doubleBits 39 = .ok (.dstore_n 2, 1) := by decide +kernel
theorem dX4_doubleBits_40 : decode cX4_doubleBits 40 = .ok (.iinc 4 1, 3) := by decide +kernel
theorem dX4_doubleBits_43 : decode cX4_doubleBits 43 = .ok (.iinc 5 1, 3) := by decide +kernel
theorem dX4_doubleBits_46 : decode cX4_doubleBits 46 = .ok (.goto (-28), 3) := by decide +kernel
theorem dX4_doubleBits_49 : decode cX4_doubleBits 49 = .ok (.iconst 0, 1) := by decide +kernel
theorem dX4_doubleBits_50 : decode cX4_doubleBits 50 = .ok (.istore 5, 2) := by decide +kernel
theorem dX4_doubleBits_52 : decode cX4_doubleBits 52 = .ok (.iload 5, 2) := by decide +kernel
theorem dX4_doubleBits_54 : decode cX4_doubleBits 54 = .ok (.sipush 1022, 3) := by decide +kernel
theorem dX4_doubleBits_57 : decode cX4_doubleBits 57 = .ok (.if_icmp .ge 24, 3) := by decide +kernel
theorem dX4_doubleBits_60 : decode cX4_doubleBits 60 = .ok (.dload_n 2, 1) := by decide +kernel
theorem dX4_doubleBits_61 : decode cX4_doubleBits 61 = .ok (.dconst 1, 1) := by decide +kernel
theorem dX4_doubleBits_62 : decode cX4_doubleBits 62 = .ok (.dcmp .g, 1) := by decide +kernel
theorem dX4_doubleBits_63 : decode cX4_doubleBits 63 = .ok (.ifCond .ge 18, 3) := by decide +kernel
theorem dX4_doubleBits_66 : decode cX4_doubleBits 66 = .ok (.dload_n 2, 1) := by decide +kernel
theorem dX4_doubleBits_67 : decode cX4_doubleBits 67 = .ok (.ldc2_w 296, 3) := by decide +kernel
theorem dX4_doubleBits_70 : decode cX4_doubleBits 70 = .ok (.dmul, 1) := by decide +kernel
theorem dX4_doubleBits_71 : decode cX4_doubleBits 71 = .ok (.dstore_n 2, 1) := by decide +kernel
theorem dX4_doubleBits_72 : decode cX4_doubleBits 72 = .ok (.iinc 4 (-1), 3) := by decide +kernel
theorem dX4_doubleBits_75 : decode cX4_doubleBits 75 = .ok (.iinc 5 1, 3) := by decide +kernel
theorem dX4_doubleBits_78 : decode cX4_doubleBits 78 = .ok (.goto (-26), 3) := by decide +kernel
theorem dX4_doubleBits_81 : decode cX4_doubleBits 81 = .ok (.dload_n 2, 1) := by decide +kernel
theorem dX4_doubleBits_82 : decode cX4_doubleBits 82 = .ok (.dconst 1, 1) := by decide +kernel
theorem dX4_doubleBits_83 : decode cX4_doubleBits 83 = .ok (.dsub, 1) := by decide +kernel
theorem dX4_doubleBits_84 : decode cX4_doubleBits 84 = .ok (.ldc2_w 298, 3) := by decide +kernel
theorem dX4_doubleBits_87 : decode cX4_doubleBits 87 = .ok (.dmul, 1) := by decide +kernel
theorem dX4_doubleBits_88 : decode cX4_doubleBits 88 = .ok (.d2l, 1) := by decide +kernel
theorem dX4_doubleBits_89 : decode cX4_doubleBits 89 = .ok (.lstore 5, 2) := by decide +kernel
theorem dX4_doubleBits_91 : decode cX4_doubleBits 91 = .ok (.iload 4, 2) := by decide +kernel
theorem dX4_doubleBits_93 : decode cX4_doubleBits 93 = .ok (.i2l, 1) := by decide +kernel
theorem dX4_doubleBits_94 : decode cX4_doubleBits 94 = .ok (.bipush 52, 2) := by decide +kernel
theorem dX4_doubleBits_96 : decode cX4_doubleBits 96 = .ok (.lshl, 1) := by decide +kernel
theorem dX4_doubleBits_97 : decode cX4_doubleBits 97 = .ok (.lload 5, 2) := by decide +kernel
theorem dX4_doubleBits_99 : decode cX4_doubleBits 99 = .ok (.ladd, 1) := by decide +kernel
theorem dX4_doubleBits_100 : decode cX4_doubleBits 100 = .ok (.lreturn, 1) := by decide +kernel
theorem dX4_floatBits_0 : decode cX4_floatBits 0 = .ok (.fload_n 0, 1) := by decide +kernel
theorem dX4_floatBits_1 : decode cX4_floatBits 1 = .ok (.fconst 0, 1) := by decide +kernel
theorem dX4_floatBits_2 : decode cX4_floatBits 2 = .ok (.fcmp .g, 1) := by decide +kernel
theorem dX4_floatBits_3 : decode cX4_floatBits 3 = .ok (.ifCond .gt 5, 3) := by decide +kernel
theorem dX4_floatBits_6 : decode cX4_floatBits 6 = .ok (.iconst 0, 1) := by decide +kernel
theorem dX4_floatBits_7 : decode cX4_floatBits 7 = .ok (.ireturn, 1) := by decide +kernel
theorem dX4_floatBits_8 : decode cX4_floatBits 8 = .ok (.fload_n 0, 1) := by decide +kernel
theorem dX4_floatBits_9 : decode cX4_floatBits 9 = .ok (.fstore_n 1, 1) := by decide +kernel
theorem dX4_floatBits_10 : decode cX4_floatBits 10 = .ok (.bipush 127, 2) := by decide +kernel
theorem dX4_floatBits_12 : decode cX4_floatBits 12 = .ok (.istore_n 2, 1) := by decide +kernel
theorem dX4_floatBits_13 : decode cX4_floatBits 13 = .ok (.iconst 0, 1) := by decide +kernel
theorem dX4_floatBits_14 : decode cX4_floatBits 14 = .ok (.istore_n 3, 1) := by decide +kernel
theorem dX4_floatBits_15 : decode cX4_floatBits 15 = .ok (.iload_n 3, 1) := by decide +kernel
theorem dX4_floatBits_16 : decode cX4_floatBits 16 = .ok (.bipush 127, 2) := by decide +kernel
theorem dX4_floatBits_18 : decode cX4_floatBits 18 = .ok (.if_icmp .ge 22, 3) := by decide +kernel
theorem dX4_floatBits_21 : decode cX4_floatBits 21 = .ok (.fload_n 1, 1) := by decide +kernel
theorem dX4_floatBits_22 : decode cX4_floatBits 22 = .ok (.fconst 2, 1) := by decide +kernel
theorem dX4_floatBits_23 : decode cX4_floatBits 23 = .ok (.fcmp .l, 1) := by decide +kernel
theorem dX4_floatBits_24 : decode cX4_floatBits 24 = .ok (.ifCond .lt 16, 3) := by decide +kernel
theorem dX4_floatBits_27 : decode cX4_floatBits 27 = .ok (.fload_n 1, 1) := by decide +kernel
theorem dX4_floatBits_28 : decode cX4_floatBits 28 = .ok (.fconst 2, 1) := by decide +kernel
theorem dX4_floatBits_29 : decode cX4_floatBits 29 = .ok (.fdiv, 1) := by decide +kernel
theorem dX4_floatBits_30 : decode cX4_floatBits 30 = .ok (.fstore_n 1, 1) := by decide +kernel
theorem dX4_floatBits_31 : decode cX4_floatBits 31 = .ok (.iinc 2 1, 3) := by decide +kernel
theorem dX4_floatBits_34 : decode cX4_floatBits 34 = .ok (.iinc 3 1, 3) := by decide +kernel
theorem dX4_floatBits_37 : decode cX4_floatBits 37 = .ok (.goto (-22), 3) := by decide +kernel
theorem dX4_floatBits_40 : decode cX4_floatBits 40 = .ok (.iconst 0, 1) := by decide +kernel
theorem dX4_floatBits_41 : decode cX4_floatBits 41 = .ok (.istore_n 3, 1) := by decide +kernel
theorem dX4_floatBits_42 : decode cX4_floatBits 42 = .ok (.iload_n 3, 1) := by decide +kernel
theorem dX4_floatBits_43 : decode cX4_floatBits 43 = .ok (.bipush 126, 2) := by decide +kernel
theorem dX4_floatBits_45 : decode cX4_floatBits 45 = .ok (.if_icmp .ge 22, 3) := by decide +kernel
theorem dX4_floatBits_48 : decode cX4_floatBits 48 = .ok (.fload_n 1, 1) := by decide +kernel
theorem dX4_floatBits_49 : decode cX4_floatBits 49 = .ok (.fconst 1, 1) := by decide +kernel
theorem dX4_floatBits_50 : decode cX4_floatBits 50 = .ok (.fcmp .g, 1) := by decide +kernel
theorem dX4_floatBits_51 : decode cX4_floatBits 51 = .ok (.ifCond .ge 16, 3) := by decide +kernel
theorem dX4_floatBits_54 : decode cX4_floatBits 54 = .ok (.fload_n 1, 1) := by decide +kernel
theorem dX4_floatBits_55 : decode cX4_floatBits 55 = .ok (.fconst 2, 1) := by decide +kernel
theorem dX4_floatBits_56 : decode cX4_floatBits 56 = .ok (.fmul, 1) := by decide +kernel
theorem dX4_floatBits_57 : decode cX4_floatBits 57 = .ok (.fstore_n 1, 1) := by decide +kernel
theorem dX4_floatBits_58 : decode cX4_floatBits 58 = .ok (.iinc 2 (-1), 3) := by decide +kernel
theorem dX4_floatBits_61 : decode cX4_floatBits 61 = .ok (.iinc 3 1, 3) := by decide +kernel
theorem dX4_floatBits_64 : decode cX4_floatBits 64 = .ok (.goto (-22), 3) := by decide +kernel
theorem dX4_floatBits_67 : decode cX4_floatBits 67 = .ok (.fload_n 1, 1) := by decide +kernel
theorem dX4_floatBits_68 : decode cX4_floatBits 68 = .ok (.fconst 1, 1) := by decide +kernel
theorem dX4_floatBits_69 : decode cX4_floatBits 69 = .ok (.fsub, 1) := by decide +kernel
theorem dX4_floatBits_70 : decode cX4_floatBits 70 = .ok (.ldc_w 300, 3) := by decide +kernel
theorem dX4_floatBits_73 : decode cX4_floatBits 73 = .ok (.fmul, 1) := by decide +kernel
theorem dX4_floatBits_74 : decode cX4_floatBits 74 = .ok (.f2i, 1) := by decide +kernel
theorem dX4_floatBits_75 : decode cX4_floatBits 75 = .ok (.istore_n 3, 1) := by decide +kernel
theorem dX4_floatBits_76 : decode cX4_floatBits 76 = .ok (.iload_n 2, 1) := by decide +kernel
theorem dX4_floatBits_77 : decode cX4_floatBits 77 = .ok (.bipush 23, 2) := by decide +kernel
theorem dX4_floatBits_79 : decode cX4_floatBits 79 = .ok (.ishl, 1) := by decide +kernel
theorem dX4_floatBits_80 : decode cX4_floatBits 80 = .ok (.iload_n 3, 1) := by decide +kernel
theorem dX4_floatBits_81 : decode cX4_floatBits 81 = .ok (.iadd, 1) := by decide +kernel
theorem dX4_floatBits_82 : decode cX4_floatBits 82 = .ok (.ireturn, 1) := by decide +kernel
