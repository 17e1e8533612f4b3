set_option maxRecDepth 20000 in
theorem ggL_propose_X4_propose : GoodIn wsL_propose wsX4_propose := goodIn_ca (goodIn_ca (goodIn_r _ [7, 8, 9, 10, 11, 12, 13, 14, 15, 6, 16, 17, 18, 19, 20, 21, 22, 23, 24, 25, 26, 27, 28, 29, 30, 31, 32, 33, 34, 35, 36, 37, 38, 39, 40, 41, 42, 43, 44, 45, 46, 47, 48, 49, 50, 51, 52, 53, 54, 55, 56, 57, 58, 59, 60, 61, 62, 63, 64, 65, 66, 67, 68, 69, 70, 71, 72, 73, 74, 75, 76, 77, 78, 79, 80, 81, 82, 83, 84, 85, 86, 87, 88, 89, 90, 91, 92, 93, 94, 95, 96, 97, 98, 99, 100, 101, 102, 103, 104, 105, 106, 107, 108, 109, 110, 111, 112, 113, 114, 115, 116, 117, 118, 119, 120, 121, 122, 123, 124, 125, 126, 127, 128, 129, 130] (by decide +kernel) (by decide +kernel)) (goodIn_sub (fun _ h => List.mem_cons_of_mem _ (List.mem_append_left _ (List.mem_append_right _ h))) (by decide +kernel))) (goodIn_sub (fun _ h => List.mem_cons_of_mem _ (List.mem_append_right _ h)) (by decide +kernel))
set_option maxRecDepth 20000 in
theorem gL_propose_X4_propose : GoodIn wsL_propose (wsV RL 7 RX4 yX4_propose wsX4_propose) := goodIn_app (goodIn_of _ (by decide +kernel)) ggL_propose_X4_propose
theorem dL_propose_0 : decode cL_propose 0 = .ok (.aload 7, 2) := by decide +kernel
theorem dL_propose_2 : decode cL_propose 2 = .ok (.iconst 0, 1) := by decide +kernel
theorem dL_propose_3 : decode cL_propose 3 = .ok (.aload_n 0, 1) := by decide +kernel
theorem dL_propose_4 : decode cL_propose 4 = .ok (.iload_n 1, 1) := by decide +kernel
theorem dL_propose_5 : decode cL_propose 5 = .ok (.iload_n 2, 1) := by decide +kernel
theorem dL_propose_6 : decode cL_propose 6 = .ok (.iload_n 3, 1) := by decide +kernel
theorem dL_propose_7 : decode cL_propose 7 = .ok (.iload 4, 2) := by decide +kernel
theorem dL_propose_9 : decode cL_propose 9 = .ok (.iload 5, 2) := by decide +kernel
theorem dL_propose_11 : decode cL_propose 11 = .ok (.iload 6, 2) := by decide +kernel
theorem dL_propose_13 : decode cL_propose 13 = .ok (.invokevirtual 7, 3) := by decide +kernel
theorem dL_propose_16 : decode cL_propose 16 = .ok (.i2l, 1) := by decide +kernel
theorem dL_propose_17 : decode cL_propose 17 = .ok (.lastore, 1) := by decide +kernel
theorem dL_propose_18 : decode cL_propose 18 = .ok (.goto 11, 3) := by decide +kernel
theorem dL_propose_21 : decode cL_propose 21 = .ok (.astore 8, 2) := by decide +kernel
theorem dL_propose_23 : decode cL_propose 23 = .ok (.iconst 1, 1) := by decide +kernel
theorem dL_propose_24 : decode cL_propose 24 = .ok (.ireturn, 1) := by decide +kernel
theorem dL_propose_25 : decode cL_propose 25 = .ok (.astore 8, 2) := by decide +kernel
theorem dL_propose_27 : decode cL_propose 27 = .ok (.iconst 2, 1) := by decide +kernel
theorem dL_propose_28 : decode cL_propose 28 = .ok (.ireturn, 1) := by decide +kernel
theorem dL_propose_29 : decode cL_propose 29 = .ok (.iconst 0, 1) := by decide +kernel
theorem dL_propose_30 : decode cL_propose 30 = .ok (.ireturn, 1) := by decide +kernel
set_option maxRecDepth 20000 in
theorem ggL_proposeText_X4_proposeText : GoodIn wsL_proposeText wsX4_proposeText := goodIn_ca (goodIn_ca (goodIn_r _ [7, 8, 9, 10, 11, 12, 13, 14, 15, 16, 17, 18, 19, 20, 21, 22, 23, 24, 25, 26, 27, 28, 29, 30, 31, 32, 33, 34, 6, 35, 36, 37, 38, 39, 40, 41, 42, 43, 44, 45, 46, 47, 48, 49, 50, 51, 52, 53, 54, 55, 56, 57, 58, 59, 60, 61, 62, 63, 64, 65, 66, 67, 68, 69, 70, 71, 72, 73, 74, 75, 76, 77, 78, 79, 80, 81, 82, 83, 84, 85, 86, 87, 88, 89, 90, 91, 92, 93, 94, 95, 96, 97, 98, 99, 100, 101, 102, 103, 104, 105, 106, 107, 108, 109, 110, 111, 112, 113, 114, 115, 116, 117, 118, 119, 120, 121, 122, 123, 124, 125, 126, 127, 128, 129, 130, 131, 132, 133, 134, 135, 136, 137, 138, 139, 140, 141, 142, 143, 144, 145, 146, 147, 148, 149, 150, 151, 152, 153, 154, 155, 156, 157, 158, 159, 160] (by decide +kernel) (by decide +kernel)) (goodIn_sub (fun _ h => List.mem_cons_of_mem _ (List.mem_append_left _ (List.mem_append_right _ h))) (by decide +kernel))) (goodIn_sub (fun _ h => List.mem_cons_of_mem _ (List.mem_append_right _ h)) (by decide +kernel))
set_option maxRecDepth 20000 in
theorem gL_proposeText_X4_proposeText : GoodIn wsL_proposeText (wsV RL 17 RX4 yX4_proposeText wsX4_proposeText) := goodIn_app (goodIn_of _ (by decide +kernel)) ggL_proposeText_X4_proposeText
theorem dL_proposeText_0 : decode cL_proposeText 0 = .ok (.aload_n 1, 1) := by decide +kernel
theorem dL_proposeText_1 : decode cL_proposeText 1 = .ok (.iconst 0, 1) := by decide +kernel
theorem dL_proposeText_2 : decode cL_proposeText 2 = .ok (.aload_n 0, 1) := by decide +kernel
theorem dL_proposeText_3 : decode cL_proposeText 3 = .ok (.invokevirtual 17, 3) := by decide +kernel
theorem dL_proposeText_6 : decode cL_proposeText 6 = .ok (.i2l, 1) := by decide +kernel
theorem dL_proposeText_7 : decode cL_proposeText 7 = .ok (.lastore, 1) := by decide +kernel
theorem dL_proposeText_8 : decode cL_proposeText 8 = .ok (.goto 9, 3) := by decide +kernel
theorem dL_proposeText_11 : decode cL_proposeText 11 = .ok (.astore_n 2, 1) := by decide +kernel
theorem dL_proposeText_12 : decode cL_proposeText 12 = .ok (.iconst 1, 1) := by decide +kernel
theorem dL_proposeText_13 : decode cL_proposeText 13 = .ok (.ireturn, 1) := by decide +kernel
theorem dL_proposeText_14 : decode cL_proposeText 14 = .ok (.astore_n 2, 1) := by decide +kernel
theorem dL_proposeText_15 : decode cL_proposeText 15 = .ok (.iconst 2, 1) := by decide +kernel
theorem dL_proposeText_16 : decode cL_proposeText 16 = .ok (.ireturn, 1) := by decide +kernel
theorem dL_proposeText_17 : decode cL_proposeText 17 = .ok (.iconst 0, 1) := by decide +kernel
theorem dL_proposeText_18 : decode cL_proposeText 18 = .ok (.ireturn, 1) := by decide +kernel
set_option maxRecDepth 20000 in
theorem ggL_appendCharacter_X4_appendCharacter : GoodIn wsL_appendCharacter wsX4_appendCharacter := goodIn_ca (goodIn_ca (goodIn_r _ [7, 8, 9, 10, 11, 12, 13, 14, 15, 16, 17, 18, 19, 20, 21, 22, 23, 24, 25, 26, 27, 28, 29, 30, 31, 32, 33, 34, 35] (by decide +kernel) (by decide +kernel)) (goodIn_sub (fun _ h => List.mem_cons_of_mem _ (List.mem_append_left _ (List.mem_append_right _ h))) (by decide +kernel))) (goodIn_sub (fun _ h => List.mem_cons_of_mem _ (List.mem_append_right _ h)) (by decide +kernel))
set_option maxRecDepth 20000 in
theorem gL_appendCharacter_X4_appendCharacter : GoodIn wsL_appendCharacter (wsV RL 21 RX4 yX4_appendCharacter wsX4_appendCharacter) := goodIn_app (goodIn_of _ (by decide +kernel)) ggL_appendCharacter_X4_appendCharacter
theorem dL_appendCharacter_0 : decode cL_appendCharacter 0 = .ok (.aload_n 2, 1) := by decide +kernel
theorem dL_appendCharacter_1 : decode cL_appendCharacter 1 = .ok (.iconst 0, 1) := by decide +kernel
theorem dL_appendCharacter_2 : decode cL_appendCharacter 2 = .ok (.aload_n 0, 1) := by decide +kernel
theorem dL_appendCharacter_3 : decode cL_appendCharacter 3 = .ok (.iload_n 1, 1) := by decide +kernel
theorem dL_appendCharacter_4 : decode cL_appendCharacter 4 = .ok (.invokevirtual 21, 3) := by decide +kernel
theorem dL_appendCharacter_7 : decode cL_appendCharacter 7 = .ok (.i2l, 1) := by decide +kernel
theorem dL_appendCharacter_8 : decode cL_appendCharacter 8 = .ok (.lastore, 1) := by decide +kernel
theorem dL_appendCharacter_9 : decode cL_appendCharacter 9 = .ok (.goto 9, 3) := by decide +kernel
theorem dL_appendCharacter_12 : decode cL_appendCharacter 12 = .ok (.astore_n 3, 1) := by decide +kernel
theorem dL_appendCharacter_13 : decode cL_appendCharacter 13 = .ok (.iconst 1, 1) := by decide +kernel
theorem dL_appendCharacter_14 : decode cL_appendCharacter 14 = .ok (.ireturn, 1) := by decide +kernel
theorem dL_appendCharacter_15 : decode cL_appendCharacter 15 = .ok (.astore_n 3, 1) := by decide +kernel
theorem dL_appendCharacter_16 : decode cL_appendCharacter 16 = .ok (.iconst 2, 1) := by decide +kernel
theorem dL_appendCharacter_17 : decode cL_appendCharacter 17 = .ok (.ireturn, 1) := by decide +kernel
theorem dL_appendCharacter_18 : decode cL_appendCharacter 18 = .ok (.iconst 0, 1) := by decide +kernel
theorem dL_appendCharacter_19 : decode cL_appendCharacter 19 = .ok (.ireturn, 1) := by decide +kernel
set_option maxRecDepth 20000 in
theorem ggL_withdraw_X4_withdraw : GoodIn wsL_withdraw wsX4_withdraw := goodIn_ca (goodIn_r _ [6, 7, 8, 9, 10, 11, 5, 12, 13, 14, 15, 16, 17, 18, 19, 20, 21, 22, 23, 24, 25, 26, 27, 28, 29, 30, 31, 32, 33, 34, 35, 36, 37, 38, 39, 40, 41, 42, 43, 44, 45, 46, 47, 48, 49, 50, 51, 52, 53, 54, 55, 56, 57, 58, 59, 60, 61, 62, 63, 64, 65, 66, 67, 68, 69, 70, 71, 72, 73, 74, 75, 76, 77, 78, 79, 80, 81, 82, 83, 84, 85, 86, 87, 88, 89, 90, 91, 92, 93, 94, 95, 96, 97, 98, 99, 100, 101, 102, 103, 104, 105, 106, 107, 108, 109, 110, 111] (by decide +kernel) (by decide +kernel)) (goodIn_sub (fun _ h => List.mem_cons_of_mem _ (List.mem_append_right _ h)) (by decide +kernel))
set_option maxRecDepth 20000 in
theorem gL_withdraw_X4_withdraw : GoodIn wsL_withdraw (wsV RL 25 RX4 yX4_withdraw wsX4_withdraw) := goodIn_app (goodIn_of _ (by decide +kernel)) ggL_withdraw_X4_withdraw
theorem dL_withdraw_0 : decode cL_withdraw 0 = .ok (.aload_n 2, 1) := by decide +kernel
theorem dL_withdraw_1 : decode cL_withdraw 1 = .ok (.iconst 0, 1) := by decide +kernel
theorem dL_withdraw_2 : decode cL_withdraw 2 = .ok (.aload_n 0, 1) := by decide +kernel
theorem dL_withdraw_3 : decode cL_withdraw 3 = .ok (.iload_n 1, 1) := by decide +kernel
theorem dL_withdraw_4 : decode cL_withdraw 4 = .ok (.invokevirtual 25, 3) := by decide +kernel
theorem dL_withdraw_7 : decode cL_withdraw 7 = .ok (.i2l, 1) := by decide +kernel
theorem dL_withdraw_8 : decode cL_withdraw 8 = .ok (.lastore, 1) := by decide +kernel
theorem dL_withdraw_9 : decode cL_withdraw 9 = .ok (.goto 6, 3) := by decide +kernel
theorem dL_withdraw_12 : decode cL_withdraw 12 = .ok (.astore_n 3, 1) := by decide +kernel
theorem dL_withdraw_13 : decode cL_withdraw 13 = .ok (.iconst 1, 1) := by decide +kernel
theorem dL_withdraw_14 : decode cL_withdraw 14 = .ok (.ireturn, 1) := by decide +kernel
theorem dL_withdraw_15 : decode cL_withdraw 15 = .ok (.iconst 0, 1) := by decide +kernel
theorem dL_withdraw_16 : decode cL_withdraw 16 = .ok (.ireturn, 1) := by decide +kernel
set_option maxRecDepth 20000 in
theorem ggL_setLevel_X4_setLevel : GoodIn wsL_setLevel wsX4_setLevel := goodIn_ca (goodIn_ca (goodIn_ca (goodIn_r _ [8, 9, 10, 11, 12, 13, 14, 15, 16, 17, 7, 18, 19, 20, 21, 22, 23, 24, 25, 26, 27, 28, 29, 30, 31, 32, 33, 34, 35, 36, 37, 38, 39, 40, 41, 42, 43, 44, 45, 46, 47, 48, 49, 50, 51, 52, 53, 54, 55, 56, 57, 58, 59, 60, 61, 62, 63, 64, 65, 66, 67, 68, 69, 70, 71, 72, 73, 74, 75, 76, 77, 78, 79, 80, 81, 82, 83, 84, 85, 86, 87, 88, 89, 90, 91, 92, 93, 94, 95, 96, 97, 98, 99, 100, 101, 102, 103, 104, 105, 106, 107, 108, 109, 110, 111, 112, 113] (by decide +kernel) (by decide +kernel)) (goodIn_sub (fun _ h => List.mem_cons_of_mem _ (List.mem_append_left _ (List.mem_append_left _ (List.mem_append_right _ h)))) (by decide +kernel))) (goodIn_sub (fun _ h => List.mem_cons_of_mem _ (List.mem_append_left _ (List.mem_append_right _ h))) (by decide +kernel))) (goodIn_sub (fun _ h => List.mem_cons_of_mem _ (List.mem_append_right _ h)) (by decide +kernel))
set_option maxRecDepth 20000 in
theorem gL_setLevel_X4_setLevel : GoodIn wsL_setLevel (wsV RL 30 RX4 yX4_setLevel wsX4_setLevel) := goodIn_app (goodIn_of _ (by decide +kernel)) ggL_setLevel_X4_setLevel
theorem dL_setLevel_0 : decode cL_setLevel 0 = .ok (.aload_n 3, 1) := by decide +kernel
theorem dL_setLevel_1 : decode cL_setLevel 1 = .ok (.iconst 0, 1) := by decide +kernel
theorem dL_setLevel_2 : decode cL_setLevel 2 = .ok (.aload_n 0, 1) := by decide +kernel
theorem dL_setLevel_3 : decode cL_setLevel 3 = .ok (.iload_n 1, 1) := by decide +kernel
theorem dL_setLevel_4 : decode cL_setLevel 4 = .ok (.iload_n 2, 1) := by decide +kernel
theorem dL_setLevel_5 : decode cL_setLevel 5 = .ok (.invokevirtual 30, 3) := by decide +kernel
theorem dL_setLevel_8 : decode cL_setLevel 8 = .ok (.i2l, 1) := by decide +kernel
theorem dL_setLevel_9 : decode cL_setLevel 9 = .ok (.lastore, 1) := by decide +kernel
theorem dL_setLevel_10 : decode cL_setLevel 10 = .ok (.goto 15, 3) := by decide +kernel
theorem dL_setLevel_13 : decode cL_setLevel 13 = .ok (.astore 4, 2) := by decide +kernel
theorem dL_setLevel_15 : decode cL_setLevel 15 = .ok (.iconst 1, 1) := by decide +kernel
theorem dL_setLevel_16 : decode cL_setLevel 16 = .ok (.ireturn, 1) := by decide +kernel
theorem dL_setLevel_17 : decode cL_setLevel 17 = .ok (.astore 4, 2) := by decide +kernel
theorem dL_setLevel_19 : decode cL_setLevel 19 = .ok (.iconst 2, 1) := by decide +kernel
theorem dL_setLevel_20 : decode cL_setLevel 20 = .ok (.ireturn, 1) := by decide +kernel
theorem dL_setLevel_21 : decode cL_setLevel 21 = .ok (.astore 4, 2) := by decide +kernel
theorem dL_setLevel_23 : decode cL_setLevel 23 = .ok (.iconst 3, 1) := by decide +kernel
theorem dL_setLevel_24 : decode cL_setLevel 24 = .ok (.ireturn, 1) := by decide +kernel
theorem dL_setLevel_25 : decode cL_setLevel 25 = .ok (.iconst 0, 1) := by decide +kernel
theorem dL_setLevel_26 : decode cL_setLevel 26 = .ok (.ireturn, 1) := by decide +kernel
set_option maxRecDepth 20000 in
theorem ggL_undo_X4_undo : GoodIn wsL_undo wsX4_undo := goodIn_ca (goodIn_r _ [6, 7, 8, 9, 10, 11, 12, 13, 14, 15, 16, 17, 18, 19, 20, 21, 22, 23, 24, 25, 26, 27, 28, 29, 30, 31, 32, 33, 34, 35, 36, 37, 38, 39, 40, 41, 42, 43, 44, 45, 46, 47, 48, 49, 50, 51, 52, 53, 54, 55, 56, 57, 58, 59, 60, 61] (by decide +kernel) (by decide +kernel)) (goodIn_sub (fun _ h => List.mem_cons_of_mem _ (List.mem_append_right _ h)) (by decide +kernel))
set_option maxRecDepth 20000 in
theorem gL_undo_X4_undo : GoodIn wsL_undo (wsV RL 34 RX4 yX4_undo wsX4_undo) := goodIn_app (goodIn_of _ (by decide +kernel)) ggL_undo_X4_undo
theorem dL_undo_0 : decode cL_undo 0 = .ok (.aload_n 1, 1) := by decide +kernel
theorem dL_undo_1 : decode cL_undo 1 = .ok (.iconst 0, 1) := by decide +kernel
theorem dL_undo_2 : decode cL_undo 2 = .ok (.aload_n 0, 1) := by decide +kernel
theorem dL_undo_3 : decode cL_undo 3 = .ok (.invokevirtual 34, 3) := by decide +kernel
theorem dL_undo_6 : decode cL_undo 6 = .ok (.i2l, 1) := by decide +kernel
theorem dL_undo_7 : decode cL_undo 7 = .ok (.lastore, 1) := by decide +kernel
theorem dL_undo_8 : decode cL_undo 8 = .ok (.goto 6, 3) := by decide +kernel
theorem dL_undo_11 : decode cL_undo 11 = .ok (.astore_n 2, 1) := by decide +kernel
theorem dL_undo_12 : decode cL_undo 12 = .ok (.iconst 1, 1) := by decide +kernel
theorem dL_undo_13 : decode cL_undo 13 = .ok (.ireturn, 1) := by decide +kernel
theorem dL_undo_14 : decode cL_undo 14 = .ok (.iconst 0, 1) := by decide +kernel
theorem dL_undo_15 : decode cL_undo 15 = .ok (.ireturn, 1) := by decide +kernel
set_option maxRecDepth 20000 in
theorem ggL_period_X4_period : GoodIn wsL_period wsX4_period := goodIn_ca (goodIn_r _ [6, 7, 8, 9, 10, 5, 11, 12, 13, 14, 15, 16, 17, 18, 19, 20, 21, 22, 23, 24, 25, 26, 27, 28, 29, 30, 31, 32, 33, 34, 35, 36, 37, 38, 39, 40, 41] (by decide +kernel) (by decide +kernel)) (goodIn_sub (fun _ h => List.mem_cons_of_mem _ (List.mem_append_right _ h)) (by decide +kernel))
set_option maxRecDepth 20000 in
theorem gL_period_X4_period : GoodIn wsL_period (wsV RL 37 RX4 yX4_period wsX4_period) := goodIn_app (goodIn_of _ (by decide +kernel)) ggL_period_X4_period
theorem dL_period_0 : decode cL_period 0 = .ok (.aload_n 2, 1) := by decide +kernel
theorem dL_period_1 : decode cL_period 1 = .ok (.iconst 0, 1) := by decide +kernel
theorem dL_period_2 : decode cL_period 2 = .ok (.aload_n 0, 1) := by decide +kernel
theorem dL_period_3 : decode cL_period 3 = .ok (.iload_n 1, 1) := by decide +kernel
theorem dL_period_4 : decode cL_period 4 = .ok (.invokevirtual 37, 3) := by decide +kernel
theorem dL_period_7 : decode cL_period 7 = .ok (.i2l, 1) := by decide +kernel
theorem dL_period_8 : decode cL_period 8 = .ok (.lastore, 1) := by decide +kernel
theorem dL_period_9 : decode cL_period 9 = .ok (.goto 6, 3) := by decide +kernel
theorem dL_period_12 : decode cL_period 12 = .ok (.astore_n 3, 1) := by decide +kernel
theorem dL_period_13 : decode cL_period 13 = .ok (.iconst 1, 1) := by decide +kernel
theorem dL_period_14 : decode cL_period 14 = .ok (.ireturn, 1) := by decide +kernel
theorem dL_period_15 : decode cL_period 15 = .ok (.iconst 0, 1) := by decide +kernel
theorem dL_period_16 : decode cL_period 16 = .ok (.ireturn, 1) := by decide +kernel
set_option maxRecDepth 20000 in
theorem ggL_deadline_X4_deadline : GoodIn wsL_deadline wsX4_deadline := goodIn_ca (goodIn_r _ [6, 7, 8, 9, 10, 5, 11, 12, 13, 14, 15, 16, 17, 18, 19, 20, 21, 22, 23, 24, 25, 26, 27, 28, 29, 30, 31, 32, 33, 34] (by decide +kernel) (by decide +kernel)) (goodIn_sub (fun _ h => List.mem_cons_of_mem _ (List.mem_append_right _ h)) (by decide +kernel))
set_option maxRecDepth 20000 in
theorem gL_deadline_X4_deadline : GoodIn wsL_deadline (wsV RL 40 RX4 yX4_deadline wsX4_deadline) := goodIn_app (goodIn_of _ (by decide +kernel)) ggL_deadline_X4_deadline
theorem dL_deadline_0 : decode cL_deadline 0 = .ok (.aload_n 2, 1) := by decide +kernel
theorem dL_deadline_1 : decode cL_deadline 1 = .ok (.iconst 0, 1) := by decide +kernel
theorem dL_deadline_2 : decode cL_deadline 2 = .ok (.aload_n 0, 1) := by decide +kernel
theorem dL_deadline_3 : decode cL_deadline 3 = .ok (.iload_n 1, 1) := by decide +kernel
theorem dL_deadline_4 : decode cL_deadline 4 = .ok (.invokevirtual 40, 3) := by decide +kernel
theorem dL_deadline_7 : decode cL_deadline 7 = .ok (.i2l, 1) := by decide +kernel
theorem dL_deadline_8 : decode cL_deadline 8 = .ok (.lastore, 1) := by decide +kernel
theorem dL_deadline_9 : decode cL_deadline 9 = .ok (.goto 6, 3) := by decide +kernel
theorem dL_deadline_12 : decode cL_deadline 12 = .ok (.astore_n 3, 1) := by decide +kernel
theorem dL_deadline_13 : decode cL_deadline 13 = .ok (.iconst 1, 1) := by decide +kernel
theorem dL_deadline_14 : decode cL_deadline 14 = .ok (.ireturn, 1) := by decide +kernel
theorem dL_deadline_15 : decode cL_deadline 15 = .ok (.iconst 0, 1) := by decide +kernel
theorem dL_deadline_16 : decode cL_deadline 16 = .ok (.ireturn, 1) := by decide +kernel
set_option maxRecDepth 20000 in
theorem ggL_virtualDeadline_X4_virtualDeadline : GoodIn wsL_virtualDeadline wsX4_virtualDeadline := goodIn_ca (goodIn_r _ [6, 7, 8, 9, 10, 5, 11, 12, 13, 14, 15, 16, 17, 18, 19, 20, 21, 22, 23, 24, 25, 26, 27, 28, 29, 30, 31, 32, 33, 34, 35, 36, 37, 38, 39, 40, 41, 42] (by decide +kernel) (by decide +kernel)) (goodIn_sub (fun _ h => List.mem_cons_of_mem _ (List.mem_append_right _ h)) (by decide +kernel))
set_option maxRecDepth 20000 in
theorem gL_virtualDeadline_X4_virtualDeadline : GoodIn wsL_virtualDeadline (wsV RL 43 RX4 yX4_virtualDeadline wsX4_virtualDeadline) := goodIn_app (goodIn_of _ (by decide +kernel)) ggL_virtualDeadline_X4_virtualDeadline
theorem dL_virtualDeadline_0 : decode cL_virtualDeadline 0 = .ok (.aload_n 2, 1) := by decide +kernel
theorem dL_virtualDeadline_1 : decode cL_virtualDeadline 1 = .ok (.iconst 0, 1) := by decide +kernel
theorem dL_virtualDeadline_2 : decode cL_virtualDeadline 2 = .ok (.aload_n 0, 1) := by decide +kernel
theorem dL_virtualDeadline_3 : decode cL_virtualDeadline 3 = .ok (.iload_n 1, 1) := by decide +kernel
theorem dL_virtualDeadline_4 : decode cL_virtualDeadline 4 = .ok (.invokevirtual 43, 3) := by decide +kernel
theorem dL_virtualDeadline_7 : decode cL_virtualDeadline 7 = .ok (.i2l, 1) := by decide +kernel
theorem dL_virtualDeadline_8 : decode cL_virtualDeadline 8 = .ok (.lastore, 1) := by decide +kernel
theorem dL_virtualDeadline_9 : decode cL_virtualDeadline 9 = .ok (.goto 6, 3) := by decide +kernel
theorem dL_virtualDeadline_12 : decode cL_virtualDeadline 12 = .ok (.astore_n 3, 1) := by decide +kernel
theorem dL_virtualDeadline_13 : decode cL_virtualDeadline 13 = .ok (.iconst 1, 1) := by decide +kernel
theorem dL_virtualDeadline_14 : decode cL_virtualDeadline 14 = .ok (.ireturn, 1) := by decide +kernel
theorem dL_virtualDeadline_15 : decode cL_virtualDeadline 15 = .ok (.iconst 0, 1) := by decide +kernel
theorem dL_virtualDeadline_16 : decode cL_virtualDeadline 16 = .ok (.ireturn, 1) := by decide +kernel
set_option maxRecDepth 20000 in
theorem ggL_budget_X4_budget : GoodIn wsL_budget wsX4_budget := goodIn_ca (goodIn_ca (goodIn_ca (goodIn_r _ [8, 9, 10, 11, 12, 13, 14, 7, 15, 16, 17, 18, 19, 20, 21, 22, 23, 24, 25, 26, 27, 28, 29, 30, 31, 32, 33, 34, 35, 36, 37, 38, 39, 40, 41, 42, 43, 44, 45, 46, 47, 48, 49] (by decide +kernel) (by decide +kernel)) (goodIn_sub (fun _ h => List.mem_cons_of_mem _ (List.mem_append_left _ (List.mem_append_left _ (List.mem_append_right _ h)))) (by decide +kernel))) (goodIn_sub (fun _ h => List.mem_cons_of_mem _ (List.mem_append_left _ (List.mem_append_right _ h))) (by decide +kernel))) (goodIn_sub (fun _ h => List.mem_cons_of_mem _ (List.mem_append_right _ h)) (by decide +kernel))
set_option maxRecDepth 20000 in
theorem gL_budget_X4_budget : GoodIn wsL_budget (wsV RL 46 RX4 yX4_budget wsX4_budget) := goodIn_app (goodIn_of _ (by decide +kernel)) ggL_budget_X4_budget
theorem dL_budget_0 : decode cL_budget 0 = .ok (.aload_n 3, 1) := by decide +kernel
theorem dL_budget_1 : decode cL_budget 1 = .ok (.iconst 0, 1) := by decide +kernel
theorem dL_budget_2 : decode cL_budget 2 = .ok (.aload_n 0, 1) := by decide +kernel
theorem dL_budget_3 : decode cL_budget 3 = .ok (.iload_n 1, 1) := by decide +kernel
theorem dL_budget_4 : decode cL_budget 4 = .ok (.iload_n 2, 1) := by decide +kernel
theorem dL_budget_5 : decode cL_budget 5 = .ok (.invokevirtual 46, 3) := by decide +kernel
theorem dL_budget_8 : decode cL_budget 8 = .ok (.i2l, 1) := by decide +kernel
theorem dL_budget_9 : decode cL_budget 9 = .ok (.lastore, 1) := by decide +kernel
theorem dL_budget_10 : decode cL_budget 10 = .ok (.goto 15, 3) := by decide +kernel
theorem dL_budget_13 : decode cL_budget 13 = .ok (.astore 4, 2) := by decide +kernel
theorem dL_budget_15 : decode cL_budget 15 = .ok (.iconst 1, 1) := by decide +kernel
theorem dL_budget_16 : decode cL_budget 16 = .ok (.ireturn, 1) := by decide +kernel
theorem dL_budget_17 : decode cL_budget 17 = .ok (.astore 4, 2) := by decide +kernel
theorem dL_budget_19 : decode cL_budget 19 = .ok (.iconst 2, 1) := by decide +kernel
theorem dL_budget_20 : decode cL_budget 20 = .ok (.ireturn, 1) := by decide +kernel
theorem dL_budget_21 : decode cL_budget 21 = .ok (.astore 4, 2) := by decide +kernel
theorem dL_budget_23 : decode cL_budget 23 = .ok (.iconst 3, 1) := by decide +kernel
theorem dL_budget_24 : decode cL_budget 24 = .ok (.ireturn, 1) := by decide +kernel
theorem dL_budget_25 : decode cL_budget 25 = .ok (.iconst 0, 1) := by decide +kernel
theorem dL_budget_26 : decode cL_budget 26 = .ok (.ireturn, 1) := by decide +kernel
set_option maxRecDepth 20000 in
theorem ggL_level_X4_level : GoodIn wsL_level wsX4_level := goodIn_ca (goodIn_r _ [6, 7, 8, 9, 10, 5, 11, 12, 13, 14, 15, 16, 17, 18, 19, 20, 21, 22, 23, 24, 25, 26, 27, 28, 29, 30, 31, 32, 33, 34] (by decide +kernel) (by decide +kernel)) (goodIn_sub (fun _ h => List.mem_cons_of_mem _ (List.mem_append_right _ h)) (by decide +kernel))
set_option maxRecDepth 20000 in
theorem gL_level_X4_level : GoodIn wsL_level (wsV RL 51 RX4 yX4_level wsX4_level) := goodIn_app (goodIn_of _ (by decide +kernel)) ggL_level_X4_level
theorem dL_level_0 : decode cL_level 0 = .ok (.aload_n 2, 1) := by decide +kernel
theorem dL_level_1 : decode cL_level 1 = .ok (.iconst 0, 1) := by decide +kernel
theorem dL_level_2 : decode cL_level 2 = .ok (.aload_n 0, 1) := by decide +kernel
theorem dL_level_3 : decode cL_level 3 = .ok (.iload_n 1, 1) := by decide +kernel
theorem dL_level_4 : decode cL_level 4 = .ok (.invokevirtual 51, 3) := by decide +kernel
theorem dL_level_7 : decode cL_level 7 = .ok (.i2l, 1) := by decide +kernel
theorem dL_level_8 : decode cL_level 8 = .ok (.lastore, 1) := by decide +kernel
theorem dL_level_9 : decode cL_level 9 = .ok (.goto 6, 3) := by decide +kernel
theorem dL_level_12 : decode cL_level 12 = .ok (.astore_n 3, 1) := by decide +kernel
theorem dL_level_13 : decode cL_level 13 = .ok (.iconst 1, 1) := by decide +kernel
theorem dL_level_14 : decode cL_level 14 = .ok (.ireturn, 1) := by decide +kernel
theorem dL_level_15 : decode cL_level 15 = .ok (.iconst 0, 1) := by decide +kernel
theorem dL_level_16 : decode cL_level 16 = .ok (.ireturn, 1) := by decide +kernel
set_option maxRecDepth 20000 in
theorem ggL_isCritical_X4_isCritical : GoodIn wsL_isCritical wsX4_isCritical := goodIn_ca (goodIn_r _ [6, 7, 8, 9, 10, 5, 11, 12, 13, 14, 15, 16, 17, 18, 19, 20, 21, 22, 23, 24, 25, 26, 27, 28, 29, 30, 31, 32, 33, 34, 35, 36, 37, 38, 39, 40] (by decide +kernel) (by decide +kernel)) (goodIn_sub (fun _ h => List.mem_cons_of_mem _ (List.mem_append_right _ h)) (by decide +kernel))
set_option maxRecDepth 20000 in
theorem gL_isCritical_X4_isCritical : GoodIn wsL_isCritical (wsV RL 54 RX4 yX4_isCritical wsX4_isCritical) := goodIn_app (goodIn_of _ (by decide +kernel)) ggL_isCritical_X4_isCritical
theorem dL_isCritical_0 : decode cL_isCritical 0 = .ok (.aload_n 2, 1) := by decide +kernel
theorem dL_isCritical_1 : decode cL_isCritical 1 = .ok (.iconst 0, 1) := by decide +kernel
theorem dL_isCritical_2 : decode cL_isCritical 2 = .ok (.aload_n 0, 1) := by decide +kernel
theorem dL_isCritical_3 : decode cL_isCritical 3 = .ok (.iload_n 1, 1) := by decide +kernel
theorem dL_isCritical_4 : decode cL_isCritical 4 = .ok (.invokevirtual 54, 3) := by decide +kernel
theorem dL_isCritical_7 : decode cL_isCritical 7 = .ok (.ifCond .eq 7, 3) := by decide +kernel
theorem dL_isCritical_10 : decode cL_isCritical 10 = .ok (.lconst 1, 1) := by decide +kernel
theorem dL_isCritical_11 : decode cL_isCritical 11 = .ok (.goto 4, 3) := by decide +kernel
theorem dL_isCritical_14 : decode cL_isCritical 14 = .ok (.lconst 0, 1) := by decide +kernel
theorem dL_isCritical_15 : decode cL_isCritical 15 = .ok (.lastore, 1) := by decide +kernel
theorem dL_isCritical_16 : decode cL_isCritical 16 = .ok (.goto 6, 3) := by decide +kernel
theorem dL_isCritical_19 : decode cL_isCritical 19 = .ok (.astore_n 3, 1) := by decide +kernel
theorem dL_isCritical_20 : decode cL_isCritical 20 = .ok (.iconst 1, 1) := by decide +kernel
theorem dL_isCritical_21 : decode cL_isCritical 21 = .ok (.ireturn, 1) := by decide +kernel
theorem dL_isCritical_22 : decode cL_isCritical 22 = .ok (.iconst 0, 1) := by decide +kernel
theorem dL_isCritical_23 : decode cL_isCritical 23 = .ok (.ireturn, 1) := by decide +kernel
set_option maxRecDepth 20000 in
theorem ggL_demand_X4_demand : GoodIn wsL_demand wsX4_demand := goodIn_ca (goodIn_r _ [6, 7, 8, 9, 10, 11, 5, 12, 13, 14, 15, 16, 17, 18, 19, 20, 21, 22, 23, 24, 25, 26, 27, 28, 29, 30, 31, 32, 33, 34, 35, 36, 37, 38, 39, 40, 41, 42, 43, 44, 45, 46, 47, 48, 49, 50, 51, 52, 53, 54, 55, 56, 57, 58, 59, 60] (by decide +kernel) (by decide +kernel)) (goodIn_sub (fun _ h => List.mem_cons_of_mem _ (List.mem_append_right _ h)) (by decide +kernel))
set_option maxRecDepth 20000 in
theorem gL_demand_X4_demand : GoodIn wsL_demand (wsV RL 58 RX4 yX4_demand wsX4_demand) := goodIn_app (goodIn_of _ (by decide +kernel)) ggL_demand_X4_demand
theorem dL_demand_0 : decode cL_demand 0 = .ok (.aload_n 3, 1) := by decide +kernel
theorem dL_demand_1 : decode cL_demand 1 = .ok (.iconst 0, 1) := by decide +kernel
theorem dL_demand_2 : decode cL_demand 2 = .ok (.aload_n 0, 1) := by decide +kernel
theorem dL_demand_3 : decode cL_demand 3 = .ok (.iload_n 1, 1) := by decide +kernel
theorem dL_demand_4 : decode cL_demand 4 = .ok (.iload_n 2, 1) := by decide +kernel
theorem dL_demand_5 : decode cL_demand 5 = .ok (.invokevirtual 58, 3) := by decide +kernel
theorem dL_demand_8 : decode cL_demand 8 = .ok (.i2l, 1) := by decide +kernel
theorem dL_demand_9 : decode cL_demand 9 = .ok (.lastore, 1) := by decide +kernel
theorem dL_demand_10 : decode cL_demand 10 = .ok (.goto 7, 3) := by decide +kernel
theorem dL_demand_13 : decode cL_demand 13 = .ok (.astore 4, 2) := by decide +kernel
theorem dL_demand_15 : decode cL_demand 15 = .ok (.iconst 1, 1) := by decide +kernel
theorem dL_demand_16 : decode cL_demand 16 = .ok (.ireturn, 1) := by decide +kernel
theorem dL_demand_17 : decode cL_demand 17 = .ok (.iconst 0, 1) := by decide +kernel
theorem dL_demand_18 : decode cL_demand 18 = .ok (.ireturn, 1) := by decide +kernel
set_option maxRecDepth 20000 in
theorem ggL_slack_X4_slack : GoodIn wsL_slack wsX4_slack := goodIn_ca (goodIn_r _ [6, 7, 8, 5, 9, 10, 11, 12, 13, 14, 15, 16, 17, 18, 19, 20, 21, 22, 23, 24, 25, 26, 27, 28, 29, 30, 31, 32, 33, 34, 35, 36, 37, 38, 39, 40, 41, 42, 43, 44, 45, 46, 47, 48, 49, 50, 51, 52, 53, 54, 55, 56, 57, 58, 59, 60, 61, 62, 63, 64, 65, 66, 67, 68] (by decide +kernel) (by decide +kernel)) (goodIn_sub (fun _ h => List.mem_cons_of_mem _ (List.mem_append_right _ h)) (by decide +kernel))
set_option maxRecDepth 20000 in
theorem gL_slack_X4_slack : GoodIn wsL_slack (wsV RL 61 RX4 yX4_slack wsX4_slack) := goodIn_app (goodIn_of _ (by decide +kernel)) ggL_slack_X4_slack
theorem dL_slack_0 : decode cL_slack 0 = .ok (.aload_n 2, 1) := by decide +kernel
theorem dL_slack_1 : decode cL_slack 1 = .ok (.iconst 0, 1) := by decide +kernel
theorem dL_slack_2 : decode cL_slack 2 = .ok (.aload_n 0, 1) := by decide +kernel
theorem dL_slack_3 : decode cL_slack 3 = .ok (.iload_n 1, 1) := by decide +kernel
theorem dL_slack_4 : decode cL_slack 4 = .ok (.invokevirtual 61, 3) := by decide +kernel
theorem dL_slack_7 : decode cL_slack 7 = .ok (.i2l, 1) := by decide +kernel
theorem dL_slack_8 : decode cL_slack 8 = .ok (.lastore, 1) := by decide +kernel
theorem dL_slack_9 : decode cL_slack 9 = .ok (.goto 6, 3) := by decide +kernel
theorem dL_slack_12 : decode cL_slack 12 = .ok (.astore_n 3, 1) := by decide +kernel
theorem dL_slack_13 : decode cL_slack 13 = .ok (.iconst 1, 1) := by decide +kernel
theorem dL_slack_14 : decode cL_slack 14 = .ok (.ireturn, 1) := by decide +kernel
theorem dL_slack_15 : decode cL_slack 15 = .ok (.iconst 0, 1) := by decide +kernel
theorem dL_slack_16 : decode cL_slack 16 = .ok (.ireturn, 1) := by decide +kernel
set_option maxRecDepth 20000 in
theorem ggL_tightest_X4_tightest : GoodIn wsL_tightest wsX4_tightest := goodIn_ca (goodIn_r _ [6, 7, 8, 5, 9, 10, 11, 12, 13, 14, 15, 16, 17, 18, 19, 20, 21, 22, 23, 24, 25, 26, 27, 28, 29, 30, 31, 32, 33, 34, 35, 36, 37, 38, 39, 40, 41, 42, 43, 44, 45, 46, 47, 48, 49, 50, 51, 52, 53, 54, 55, 56, 57, 58, 59, 60, 61, 62, 63, 64, 65, 66, 67, 68] (by decide +kernel) (by decide +kernel)) (goodIn_sub (fun _ h => List.mem_cons_of_mem _ (List.mem_append_right _ h)) (by decide +kernel))
set_option maxRecDepth 20000 in
theorem gL_tightest_X4_tightest : GoodIn wsL_tightest (wsV RL 64 RX4 yX4_tightest wsX4_tightest) := goodIn_app (goodIn_of _ (by decide +kernel)) ggL_tightest_X4_tightest
theorem dL_tightest_0 : decode cL_tightest 0 = .ok (.aload_n 2, 1) := by decide +kernel
theorem dL_tightest_1 : decode cL_tightest 1 = .ok (.iconst 0, 1) := by decide +kernel
theorem dL_tightest_2 : decode cL_tightest 2 = .ok (.aload_n 0, 1) := by decide +kernel
theorem dL_tightest_3 : decode cL_tightest 3 = .ok (.iload_n 1, 1) := by decide +kernel
theorem dL_tightest_4 : decode cL_tightest 4 = .ok (.invokevirtual 64, 3) := by decide +kernel
theorem dL_tightest_7 : decode cL_tightest 7 = .ok (.i2l, 1) := by decide +kernel
theorem dL_tightest_8 : decode cL_tightest 8 = .ok (.lastore, 1) := by decide +kernel
theorem dL_tightest_9 : decode cL_tightest 9 = .ok (.goto 6, 3) := by decide +kernel
theorem dL_tightest_12 : decode cL_tightest 12 = .ok (.astore_n 3, 1) := by decide +kernel
theorem dL_tightest_13 : decode cL_tightest 13 = .ok (.iconst 1, 1) := by decide +kernel
theorem dL_tightest_14 : decode cL_tightest 14 = .ok (.ireturn, 1) := by decide +kernel
theorem dL_tightest_15 : decode cL_tightest 15 = .ok (.iconst 0, 1) := by decide +kernel
theorem dL_tightest_16 : decode cL_tightest 16 = .ok (.ireturn, 1) := by decide +kernel
set_option maxRecDepth 20000 in
theorem ggL_passes_X4_passes : GoodIn wsL_passes wsX4_passes := goodIn_ca (goodIn_r _ [6, 7, 8, 9, 10, 11, 5, 12, 13, 14, 15, 16, 17, 18, 19, 20, 21, 22, 23, 24, 25, 26, 27, 28, 29, 30, 31, 32, 33, 34, 35, 36, 37, 38, 39, 40, 41, 42, 43, 44, 45, 46, 47, 48, 49, 50, 51, 52, 53, 54, 55, 56, 57, 58, 59, 60, 61, 62, 63, 64] (by decide +kernel) (by decide +kernel)) (goodIn_sub (fun _ h => List.mem_cons_of_mem _ (List.mem_append_right _ h)) (by decide +kernel))
set_option maxRecDepth 20000 in
theorem gL_passes_X4_passes : GoodIn wsL_passes (wsV RL 67 RX4 yX4_passes wsX4_passes) := goodIn_app (goodIn_of _ (by decide +kernel)) ggL_passes_X4_passes
theorem dL_passes_0 : decode cL_passes 0 = .ok (.aload_n 3, 1) := by decide +kernel
theorem dL_passes_1 : decode cL_passes 1 = .ok (.iconst 0, 1) := by decide +kernel
theorem dL_passes_2 : decode cL_passes 2 = .ok (.aload_n 0, 1) := by decide +kernel
theorem dL_passes_3 : decode cL_passes 3 = .ok (.iload_n 1, 1) := by decide +kernel
theorem dL_passes_4 : decode cL_passes 4 = .ok (.iload_n 2, 1) := by decide +kernel
theorem dL_passes_5 : decode cL_passes 5 = .ok (.invokevirtual 67, 3) := by decide +kernel
theorem dL_passes_8 : decode cL_passes 8 = .ok (.ifCond .eq 7, 3) := by decide +kernel
theorem dL_passes_11 : decode cL_passes 11 = .ok (.lconst 1, 1) := by decide +kernel
theorem dL_passes_12 : decode cL_passes 12 = .ok (.goto 4, 3) := by decide +kernel
theorem dL_passes_15 : decode cL_passes 15 = .ok (.lconst 0, 1) := by decide +kernel
theorem dL_passes_16 : decode cL_passes 16 = .ok (.lastore, 1) := by decide +kernel
theorem dL_passes_17 : decode cL_passes 17 = .ok (.goto 7, 3) := by decide +kernel
theorem dL_passes_20 : decode cL_passes 20 = .ok (.astore 4, 2) := by decide +kernel
theorem dL_passes_22 : decode cL_passes 22 = .ok (.iconst 1, 1) := by decide +kernel
theorem dL_passes_23 : decode cL_passes 23 = .ok (.ireturn, 1) := by decide +kernel
theorem dL_passes_24 : decode cL_passes 24 = .ok (.iconst 0, 1) := by decide +kernel
theorem dL_passes_25 : decode cL_passes 25 = .ok (.ireturn, 1) := by decide +kernel
set_option maxRecDepth 20000 in
theorem ggL_utilization_X4_utilization : GoodIn wsL_utilization wsX4_utilization := goodIn_ca (goodIn_r _ [6, 7, 8, 9, 5, 10, 11, 12, 13, 14, 15, 16, 17, 18, 19, 20, 21, 22, 23, 24, 25, 26, 27, 28, 29, 30, 31, 32, 33, 34, 35, 36, 37, 38, 39, 40, 41, 42, 43, 44, 45] (by decide +kernel) (by decide +kernel)) (goodIn_sub (fun _ h => List.mem_cons_of_mem _ (List.mem_append_right _ h)) (by decide +kernel))
set_option maxRecDepth 20000 in
theorem gL_utilization_X4_utilization : GoodIn wsL_utilization (wsV RL 71 RX4 yX4_utilization wsX4_utilization) := goodIn_app (goodIn_of _ (by decide +kernel)) ggL_utilization_X4_utilization
theorem dL_utilization_0 : decode cL_utilization 0 = .ok (.aload_n 2, 1) := by decide +kernel
theorem dL_utilization_1 : decode cL_utilization 1 = .ok (.iconst 0, 1) := by decide +kernel
theorem dL_utilization_2 : decode cL_utilization 2 = .ok (.aload_n 0, 1) := by decide +kernel
theorem dL_utilization_3 : decode cL_utilization 3 = .ok (.iload_n 1, 1) := by decide +kernel
theorem dL_utilization_4 : decode cL_utilization 4 = .ok (.invokevirtual 71, 3) := by decide +kernel
theorem dL_utilization_7 : decode cL_utilization 7 = .ok (.dastore, 1) := by decide +kernel
theorem dL_utilization_8 : decode cL_utilization 8 = .ok (.goto 6, 3) := by decide +kernel
theorem dL_utilization_11 : decode cL_utilization 11 = .ok (.astore_n 3, 1) := by decide +kernel
theorem dL_utilization_12 : decode cL_utilization 12 = .ok (.iconst 1, 1) := by decide +kernel
theorem dL_utilization_13 : decode cL_utilization 13 = .ok (.ireturn, 1) := by decide +kernel
theorem dL_utilization_14 : decode cL_utilization 14 = .ok (.iconst 0, 1) := by decide +kernel
theorem dL_utilization_15 : decode cL_utilization 15 = .ok (.ireturn, 1) := by decide +kernel
set_option maxRecDepth 20000 in
theorem ggL_utilizationBits_X4_utilizationBits : GoodIn wsL_utilizationBits wsX4_utilizationBits := goodIn_ca (goodIn_r _ [6, 7, 8, 9, 5, 10, 11, 12, 13, 14, 15, 16, 17, 18, 19, 20, 21, 22, 23, 24, 25, 26, 27, 28, 29, 30, 31, 32, 33, 34, 35, 36, 37, 38, 39, 40, 41, 42, 43, 44, 45, 46, 47, 48, 49, 50, 51, 52, 53, 54] (by decide +kernel) (by decide +kernel)) (goodIn_sub (fun _ h => List.mem_cons_of_mem _ (List.mem_append_right _ h)) (by decide +kernel))
set_option maxRecDepth 20000 in
theorem gL_utilizationBits_X4_utilizationBits : GoodIn wsL_utilizationBits (wsV RL 75 RX4 yX4_utilizationBits wsX4_utilizationBits) := goodIn_app (goodIn_of _ (by decide +kernel)) ggL_utilizationBits_X4_utilizationBits
theorem dL_utilizationBits_0 : decode cL_utilizationBits 0 = .ok (.aload_n 2, 1) := by decide +kernel
theorem dL_utilizationBits_1 : decode cL_utilizationBits 1 = .ok (.iconst 0, 1) := by decide +kernel
theorem dL_utilizationBits_2 : decode cL_utilizationBits 2 = .ok (.aload_n 0, 1) := by decide +kernel
theorem dL_utilizationBits_3 : decode cL_utilizationBits 3 = .ok (.iload_n 1, 1) := by decide +kernel
theorem dL_utilizationBits_4 : decode cL_utilizationBits 4 = .ok (.invokevirtual 75, 3) := by decide +kernel
theorem dL_utilizationBits_7 : decode cL_utilizationBits 7 = .ok (.lastore, 1) := by decide +kernel
theorem dL_utilizationBits_8 : decode cL_utilizationBits 8 = .ok (.goto 6, 3) := by decide +kernel
theorem dL_utilizationBits_11 : decode cL_utilizationBits 11 = .ok (.astore_n 3, 1) := by decide +kernel
theorem dL_utilizationBits_12 : decode cL_utilizationBits 12 = .ok (.iconst 1, 1) := by decide +kernel
theorem dL_utilizationBits_13 : decode cL_utilizationBits 13 = .ok (.ireturn, 1) := by decide +kernel
theorem dL_utilizationBits_14 : decode cL_utilizationBits 14 = .ok (.iconst 0, 1) := by decide +kernel
theorem dL_utilizationBits_15 : decode cL_utilizationBits 15 = .ok (.ireturn, 1) := by decide +kernel
set_option maxRecDepth 20000 in
theorem ggL_load_X4_load : GoodIn wsL_load wsX4_load := goodIn_ca (goodIn_r _ [6, 7, 8, 9, 5, 10, 11, 12, 13, 14, 15, 16, 17, 18, 19, 20, 21, 22, 23, 24, 25, 26, 27, 28, 29, 30, 31, 32, 33, 34, 35, 36, 37, 38, 39, 40, 41, 42, 43, 44, 45, 46, 47, 48, 49, 50, 51, 52, 53, 54, 55, 56, 57, 58, 59, 60] (by decide +kernel) (by decide +kernel)) (goodIn_sub (fun _ h => List.mem_cons_of_mem _ (List.mem_append_right _ h)) (by decide +kernel))
set_option maxRecDepth 20000 in
theorem gL_load_X4_load : GoodIn wsL_load (wsV RL 79 RX4 yX4_load wsX4_load) := goodIn_app (goodIn_of _ (by decide +kernel)) ggL_load_X4_load
theorem dL_load_0 : decode cL_load 0 = .ok (.aload_n 2, 1) := by decide +kernel
theorem dL_load_1 : decode cL_load 1 = .ok (.iconst 0, 1) := by decide +kernel
theorem dL_load_2 : decode cL_load 2 = .ok (.aload_n 0, 1) := by decide +kernel
theorem dL_load_3 : decode cL_load 3 = .ok (.iload_n 1, 1) := by decide +kernel
theorem dL_load_4 : decode cL_load 4 = .ok (.invokevirtual 79, 3) := by decide +kernel
theorem dL_load_7 : decode cL_load 7 = .ok (.f2d, 1) := by decide +kernel
theorem dL_load_8 : decode cL_load 8 = .ok (.dastore, 1) := by decide +kernel
theorem dL_load_9 : decode cL_load 9 = .ok (.goto 6, 3) := by decide +kernel
theorem dL_load_12 : decode cL_load 12 = .ok (.astore_n 3, 1) := by decide +kernel
theorem dL_load_13 : decode cL_load 13 = .ok (.iconst 1, 1) := by decide +kernel
theorem dL_load_14 : decode cL_load 14 = .ok (.ireturn, 1) := by decide +kernel
theorem dL_load_15 : decode cL_load 15 = .ok (.iconst 0, 1) := by decide +kernel
theorem dL_load_16 : decode cL_load 16 = .ok (.ireturn, 1) := by decide +kernel
set_option maxRecDepth 20000 in
theorem ggL_loadBits_X4_loadBits : GoodIn wsL_loadBits wsX4_loadBits := goodIn_ca (goodIn_r _ [6, 7, 8, 9, 5, 10, 11, 12, 13, 14, 15, 16, 17, 18, 19, 20, 21, 22, 23, 24, 25, 26, 27, 28, 29, 30, 31, 32, 33, 34, 35, 36, 37, 38, 39, 40, 41, 42, 43, 44, 45, 46, 47, 48, 49, 50, 51, 52, 53, 54, 55, 56, 57, 58, 59, 60, 61, 62, 63, 64, 65, 66, 67, 68] (by decide +kernel) (by decide +kernel)) (goodIn_sub (fun _ h => List.mem_cons_of_mem _ (List.mem_append_right _ h)) (by decide +kernel))
set_option maxRecDepth 20000 in
theorem gL_loadBits_X4_loadBits : GoodIn wsL_loadBits (wsV RL 83 RX4 yX4_loadBits wsX4_loadBits) := goodIn_app (goodIn_of _ (by decide +kernel)) ggL_loadBits_X4_loadBits
theorem dL_loadBits_0 : decode cL_loadBits 0 = .ok (.aload_n 2, 1) := by decide +kernel
theorem dL_loadBits_1 : decode cL_loadBits 1 = .ok (.iconst 0, 1) := by decide +kernel
theorem dL_loadBits_2 : decode cL_loadBits 2 = .ok (.aload_n 0, 1) := by decide +kernel
theorem dL_loadBits_3 : decode cL_loadBits 3 = .ok (.iload_n 1, 1) := by decide +kernel
theorem dL_loadBits_4 : decode cL_loadBits 4 = .ok (.invokevirtual 83, 3) := by decide +kernel
theorem dL_loadBits_7 : decode cL_loadBits 7 = .ok (.i2l, 1) := by decide +kernel
theorem dL_loadBits_8 : decode cL_loadBits 8 = .ok (.lastore, 1) := by decide +kernel
theorem dL_loadBits_9 : decode cL_loadBits 9 = .ok (.goto 6, 3) := by decide +kernel
theorem dL_loadBits_12 : decode cL_loadBits 12 = .ok (.astore_n 3, 1) := by decide +kernel
theorem dL_loadBits_13 : decode cL_loadBits 13 = .ok (.iconst 1, 1) := by decide +kernel
theorem dL_loadBits_14 : decode cL_loadBits 14 = .ok (.ireturn, 1) := by decide +kernel
theorem dL_loadBits_15 : decode cL_loadBits 15 = .ok (.iconst 0, 1) := by decide +kernel
theorem dL_loadBits_16 : decode cL_loadBits 16 = .ok (.ireturn, 1) := by decide +kernel
set_option maxRecDepth 20000 in
theorem ggL_descentPoint_X4_descentPoint : GoodIn wsL_descentPoint wsX4_descentPoint := goodIn_ca (goodIn_r _ [6, 7, 8, 9, 10, 11, 12, 13, 14, 15, 16, 17, 18, 19, 20, 21, 22, 23, 24, 25, 26, 27, 28, 29, 30, 31, 32, 33, 34, 35, 36, 5, 37, 38, 39, 40, 41, 42, 43, 44, 45, 46, 47, 48, 49, 50, 51, 52, 53, 54, 55, 56, 57, 58, 59, 60, 61, 62, 63, 64, 65, 66, 67, 68, 69, 70, 71, 72, 73, 74, 75, 76, 77] (by decide +kernel) (by decide +kernel)) (goodIn_sub (fun _ h => List.mem_cons_of_mem _ (List.mem_append_right _ h)) (by decide +kernel))
set_option maxRecDepth 20000 in
theorem gL_descentPoint_X4_descentPoint : GoodIn wsL_descentPoint (wsV RL 86 RX4 yX4_descentPoint wsX4_descentPoint) := goodIn_app (goodIn_of _ (by decide +kernel)) ggL_descentPoint_X4_descentPoint
theorem dL_descentPoint_0 : decode cL_descentPoint 0 = .ok (.aload_n 2, 1) := by decide +kernel
theorem dL_descentPoint_1 : decode cL_descentPoint 1 = .ok (.iconst 0, 1) := by decide +kernel
theorem dL_descentPoint_2 : decode cL_descentPoint 2 = .ok (.aload_n 0, 1) := by decide +kernel
theorem dL_descentPoint_3 : decode cL_descentPoint 3 = .ok (.iload_n 1, 1) := by decide +kernel
theorem dL_descentPoint_4 : decode cL_descentPoint 4 = .ok (.invokevirtual 86, 3) := by decide +kernel
theorem dL_descentPoint_7 : decode cL_descentPoint 7 = .ok (.i2l, 1) := by decide +kernel
theorem dL_descentPoint_8 : decode cL_descentPoint 8 = .ok (.lastore, 1) := by decide +kernel
theorem dL_descentPoint_9 : decode cL_descentPoint 9 = .ok (.goto 6, 3) := by decide +kernel
theorem dL_descentPoint_12 : decode cL_descentPoint 12 = .ok (.astore_n 3, 1) := by decide +kernel
theorem dL_descentPoint_13 : decode cL_descentPoint 13 = .ok (.iconst 1, 1) := by decide +kernel
theorem dL_descentPoint_14 : decode cL_descentPoint 14 = .ok (.ireturn, 1) := by decide +kernel
theorem dL_descentPoint_15 : decode cL_descentPoint 15 = .ok (.iconst 0, 1) := by decide +kernel
theorem dL_descentPoint_16 : decode cL_descentPoint 16 = .ok (.ireturn, 1) := by decide +kernel
set_option maxRecDepth 20000 in
theorem ggL_rejectionMode_X4_rejectionMode : GoodIn wsL_rejectionMode wsX4_rejectionMode := goodIn_ca (goodIn_r _ [6, 7, 8, 9, 10, 5, 11, 12, 13, 14, 15, 16, 17, 18, 19, 20, 21, 22, 23, 24, 25, 26] (by decide +kernel) (by decide +kernel)) (goodIn_sub (fun _ h => List.mem_cons_of_mem _ (List.mem_append_right _ h)) (by decide +kernel))
set_option maxRecDepth 20000 in
theorem gL_rejectionMode_X4_rejectionMode : GoodIn wsL_rejectionMode (wsV RL 89 RX4 yX4_rejectionMode wsX4_rejectionMode) := goodIn_app (goodIn_of _ (by decide +kernel)) ggL_rejectionMode_X4_rejectionMode
theorem dL_rejectionMode_0 : decode cL_rejectionMode 0 = .ok (.aload_n 1, 1) := by decide +kernel
theorem dL_rejectionMode_1 : decode cL_rejectionMode 1 = .ok (.iconst 0, 1) := by decide +kernel
theorem dL_rejectionMode_2 : decode cL_rejectionMode 2 = .ok (.aload_n 0, 1) := by decide +kernel
theorem dL_rejectionMode_3 : decode cL_rejectionMode 3 = .ok (.invokevirtual 89, 3) := by decide +kernel
theorem dL_rejectionMode_6 : decode cL_rejectionMode 6 = .ok (.i2l, 1) := by decide +kernel
theorem dL_rejectionMode_7 : decode cL_rejectionMode 7 = .ok (.lastore, 1) := by decide +kernel
theorem dL_rejectionMode_8 : decode cL_rejectionMode 8 = .ok (.goto 6, 3) := by decide +kernel
theorem dL_rejectionMode_11 : decode cL_rejectionMode 11 = .ok (.astore_n 2, 1) := by decide +kernel
theorem dL_rejectionMode_12 : decode cL_rejectionMode 12 = .ok (.iconst 1, 1) := by decide +kernel
theorem dL_rejectionMode_13 : decode cL_rejectionMode 13 = .ok (.ireturn, 1) := by decide +kernel
theorem dL_rejectionMode_14 : decode cL_rejectionMode 14 = .ok (.iconst 0, 1) := by decide +kernel
theorem dL_rejectionMode_15 : decode cL_rejectionMode 15 = .ok (.ireturn, 1) := by decide +kernel
set_option maxRecDepth 20000 in
theorem ggL_rejectionLength_X4_rejectionLength : GoodIn wsL_rejectionLength wsX4_rejectionLength := goodIn_ca (goodIn_r _ [6, 7, 8, 9, 10, 5, 11, 12, 13, 14, 15, 16, 17, 18, 19, 20, 21, 22, 23, 24, 25, 26] (by decide +kernel) (by decide +kernel)) (goodIn_sub (fun _ h => List.mem_cons_of_mem _ (List.mem_append_right _ h)) (by decide +kernel))
set_option maxRecDepth 20000 in
theorem gL_rejectionLength_X4_rejectionLength : GoodIn wsL_rejectionLength (wsV RL 94 RX4 yX4_rejectionLength wsX4_rejectionLength) := goodIn_app (goodIn_of _ (by decide +kernel)) ggL_rejectionLength_X4_rejectionLength
theorem dL_rejectionLength_0 : decode cL_rejectionLength 0 = .ok (.aload_n 1, 1) := by decide +kernel
theorem dL_rejectionLength_1 : decode cL_rejectionLength 1 = .ok (.iconst 0, 1) := by decide +kernel
theorem dL_rejectionLength_2 : decode cL_rejectionLength 2 = .ok (.aload_n 0, 1) := by decide +kernel
theorem dL_rejectionLength_3 : decode cL_rejectionLength 3 = .ok (.invokevirtual 94, 3) := by decide +kernel
theorem dL_rejectionLength_6 : decode cL_rejectionLength 6 = .ok (.i2l, 1) := by decide +kernel
theorem dL_rejectionLength_7 : decode cL_rejectionLength 7 = .ok (.lastore, 1) := by decide +kernel
theorem dL_rejectionLength_8 : decode cL_rejectionLength 8 = .ok (.goto 6, 3) := by decide +kernel
theorem dL_rejectionLength_11 : decode cL_rejectionLength 11 = .ok (.astore_n 2, 1) := by decide +kernel
theorem dL_rejectionLength_12 : decode cL_rejectionLength 12 = .ok (.iconst 1, 1) := by decide +kernel
theorem dL_rejectionLength_13 : decode cL_rejectionLength 13 = .ok (.ireturn, 1) := by decide +kernel
theorem dL_rejectionLength_14 : decode cL_rejectionLength 14 = .ok (.iconst 0, 1) := by decide +kernel
theorem dL_rejectionLength_15 : decode cL_rejectionLength 15 = .ok (.ireturn, 1) := by decide +kernel
set_option maxRecDepth 20000 in
theorem ggL_rejectionDemand_X4_rejectionDemand : GoodIn wsL_rejectionDemand wsX4_rejectionDemand := goodIn_ca (goodIn_r _ [6, 7, 8, 9, 10, 5, 11, 12, 13, 14, 15, 16, 17, 18, 19, 20, 21, 22, 23, 24, 25, 26] (by decide +kernel) (by decide +kernel)) (goodIn_sub (fun _ h => List.mem_cons_of_mem _ (List.mem_append_right _ h)) (by decide +kernel))
set_option maxRecDepth 20000 in
theorem gL_rejectionDemand_X4_rejectionDemand : GoodIn wsL_rejectionDemand (wsV RL 97 RX4 yX4_rejectionDemand wsX4_rejectionDemand) := goodIn_app (goodIn_of _ (by decide +kernel)) ggL_rejectionDemand_X4_rejectionDemand
theorem dL_rejectionDemand_0 : decode cL_rejectionDemand 0 = .ok (.aload_n 1, 1) := by decide +kernel
theorem dL_rejectionDemand_1 : decode cL_rejectionDemand 1 = .ok (.iconst 0, 1) := by decide +kernel
theorem dL_rejectionDemand_2 : decode cL_rejectionDemand 2 = .ok (.aload_n 0, 1) := by decide +kernel
theorem dL_rejectionDemand_3 : decode cL_rejectionDemand 3 = .ok (.invokevirtual 97, 3) := by decide +kernel
theorem dL_rejectionDemand_6 : decode cL_rejectionDemand 6 = .ok (.i2l, 1) := by decide +kernel
theorem dL_rejectionDemand_7 : decode cL_rejectionDemand 7 = .ok (.lastore, 1) := by decide +kernel
theorem dL_rejectionDemand_8 : decode cL_rejectionDemand 8 = .ok (.goto 6, 3) := by decide +kernel
theorem dL_rejectionDemand_11 : decode cL_rejectionDemand 11 = .ok (.astore_n 2, 1) := by decide +kernel
theorem dL_rejectionDemand_12 : decode cL_rejectionDemand 12 = .ok (.iconst 1, 1) := by decide +kernel
theorem dL_rejectionDemand_13 : decode cL_rejectionDemand 13 = .ok (.ireturn, 1) := by decide +kernel
theorem dL_rejectionDemand_14 : decode cL_rejectionDemand 14 = .ok (.iconst 0, 1) := by decide +kernel
theorem dL_rejectionDemand_15 : decode cL_rejectionDemand 15 = .ok (.ireturn, 1) := by decide +kernel
set_option maxRecDepth 20000 in
theorem ggL_simulate_X4_simulate : GoodIn wsL_simulate wsX4_simulate := goodIn_ca (goodIn_r _ [6, 7, 8, 9, 10, 11, 12, 13, 14, 15, 16, 17, 18, 19, 20, 21, 22, 23, 24, 25, 26, 27, 28, 29, 30, 31, 32, 33, 34, 35, 36, 37, 38, 39, 40, 41, 42, 43, 44, 45, 46, 47, 48, 49, 50, 51, 52, 53, 54, 55, 56, 57, 58, 59, 60, 61, 62, 63, 64, 65, 66, 67, 68, 69, 70, 71, 72, 73, 74, 75, 76, 77, 78, 79, 80, 81, 82, 83, 84, 85, 86, 87, 88, 89, 90, 91, 92, 93, 94, 95, 96, 97, 98, 99, 100, 101, 102, 103, 104, 105, 106, 107, 108, 109, 110, 111, 112, 113, 114, 115, 116, 117, 118, 119, 120, 121, 122, 123, 124, 125, 126, 127, 128, 129, 130, 131, 132, 133, 134, 135, 136, 137, 138, 139, 140, 141, 142, 143, 144, 145, 146, 147, 148, 149] (by decide +kernel) (by decide +kernel)) (goodIn_sub (fun _ h => List.mem_cons_of_mem _ (List.mem_append_right _ h)) (by decide +kernel))
set_option maxRecDepth 20000 in
theorem gL_simulate_X4_simulate : GoodIn wsL_simulate (wsV RL 100 RX4 yX4_simulate wsX4_simulate) := goodIn_app (goodIn_of _ (by decide +kernel)) ggL_simulate_X4_simulate
theorem dL_simulate_0 : decode cL_simulate 0 = .ok (.aload 4, 2) := by decide +kernel
theorem dL_simulate_2 : decode cL_simulate 2 = .ok (.iconst 0, 1) := by decide +kernel
theorem dL_simulate_3 : decode cL_simulate 3 = .ok (.aload_n 0, 1) := by decide +kernel
theorem dL_simulate_4 : decode cL_simulate 4 = .ok (.iload_n 1, 1) := by decide +kernel
theorem dL_simulate_5 : decode cL_simulate 5 = .ok (.iload_n 2, 1) := by decide +kernel
theorem dL_simulate_6 : decode cL_simulate 6 = .ok (.iload_n 3, 1) := by decide +kernel
theorem dL_simulate_7 : decode cL_simulate 7 = .ok (.invokevirtual 100, 3) := by decide +kernel
theorem dL_simulate_10 : decode cL_simulate 10 = .ok (.i2l, 1) := by decide +kernel
theorem dL_simulate_11 : decode cL_simulate 11 = .ok (.lastore, 1) := by decide +kernel
theorem dL_simulate_12 : decode cL_simulate 12 = .ok (.goto 7, 3) := by decide +kernel
theorem dL_simulate_15 : decode cL_simulate 15 = .ok (.astore 5, 2) := by decide +kernel
theorem dL_simulate_17 : decode cL_simulate 17 = .ok (.iconst 1, 1) := by decide +kernel
theorem dL_simulate_18 : decode cL_simulate 18 = .ok (.ireturn, 1) := by decide +kernel
theorem dL_simulate_19 : decode cL_simulate 19 = .ok (.iconst 0, 1) := by decide +kernel
theorem dL_simulate_20 : decode cL_simulate 20 = .ok (.ireturn, 1) := by decide +kernel
set_option maxRecDepth 20000 in
theorem ggL_completed_X4_completed : GoodIn wsL_completed wsX4_completed := goodIn_ca (goodIn_r _ [6, 7, 8, 9, 10, 5, 11, 12, 13, 14, 15, 16, 17, 18, 19, 20, 21, 22, 23, 24, 25, 26, 27, 28, 29, 30, 31, 32, 33, 34, 35, 36, 37, 38, 39, 40, 41] (by decide +kernel) (by decide +kernel)) (goodIn_sub (fun _ h => List.mem_cons_of_mem _ (List.mem_append_right _ h)) (by decide +kernel))
set_option maxRecDepth 20000 in
theorem gL_completed_X4_completed : GoodIn wsL_completed (wsV RL 104 RX4 yX4_completed wsX4_completed) := goodIn_app (goodIn_of _ (by decide +kernel)) ggL_completed_X4_completed
theorem dL_completed_0 : decode cL_completed 0 = .ok (.aload_n 1, 1) := by decide +kernel
theorem dL_completed_1 : decode cL_completed 1 = .ok (.iconst 0, 1) := by decide +kernel
theorem dL_completed_2 : decode cL_completed 2 = .ok (.aload_n 0, 1) := by decide +kernel
theorem dL_completed_3 : decode cL_completed 3 = .ok (.invokevirtual 104, 3) := by decide +kernel
theorem dL_completed_6 : decode cL_completed 6 = .ok (.i2l, 1) := by decide +kernel
theorem dL_completed_7 : decode cL_completed 7 = .ok (.lastore, 1) := by decide +kernel
theorem dL_completed_8 : decode cL_completed 8 = .ok (.goto 6, 3) := by decide +kernel
theorem dL_completed_11 : decode cL_completed 11 = .ok (.astore_n 2, 1) := by decide +kernel
theorem dL_completed_12 : decode cL_completed 12 = .ok (.iconst 1, 1) := by decide +kernel
theorem dL_completed_13 : decode cL_completed 13 = .ok (.ireturn, 1) := by decide +kernel
theorem dL_completed_14 : decode cL_completed 14 = .ok (.iconst 0, 1) := by decide +kernel
theorem dL_completed_15 : decode cL_completed 15 = .ok (.ireturn, 1) := by decide +kernel
set_option maxRecDepth 20000 in
theorem ggL_dropped_X4_dropped : GoodIn wsL_dropped wsX4_dropped := goodIn_ca (goodIn_r _ [6, 7, 8, 9, 10, 5, 11, 12, 13, 14, 15, 16, 17, 18, 19, 20, 21, 22, 23, 24, 25, 26, 27, 28, 29, 30, 31, 32, 33, 34, 35, 36, 37, 38, 39, 40, 41] (by decide +kernel) (by decide +kernel)) (goodIn_sub (fun _ h => List.mem_cons_of_mem _ (List.mem_append_right _ h)) (by decide +kernel))
set_option maxRecDepth 20000 in
theorem gL_dropped_X4_dropped : GoodIn wsL_dropped (wsV RL 107 RX4 yX4_dropped wsX4_dropped) := goodIn_app (goodIn_of _ (by decide +kernel)) ggL_dropped_X4_dropped
theorem dL_dropped_0 : decode cL_dropped 0 = .ok (.aload_n 1, 1) := by decide +kernel
theorem dL_dropped_1 : decode cL_dropped 1 = .ok (.iconst 0, 1) := by decide +kernel
theorem dL_dropped_2 : decode cL_dropped 2 = .ok (.aload_n 0, 1) := by decide +kernel
theorem dL_dropped_3 : decode cL_dropped 3 = .ok (.invokevirtual 107, 3) := by decide +kernel
theorem dL_dropped_6 : decode cL_dropped 6 = .ok (.i2l, 1) := by decide +kernel
theorem dL_dropped_7 : decode cL_dropped 7 = .ok (.lastore, 1) := by decide +kernel
theorem dL_dropped_8 : decode cL_dropped 8 = .ok (.goto 6, 3) := by decide +kernel
theorem dL_dropped_11 : decode cL_dropped 11 = .ok (.astore_n 2, 1) := by decide +kernel
theorem dL_dropped_12 : decode cL_dropped 12 = .ok (.iconst 1, 1) := by decide +kernel
theorem dL_dropped_13 : decode cL_dropped 13 = .ok (.ireturn, 1) := by decide +kernel
theorem dL_dropped_14 : decode cL_dropped 14 = .ok (.iconst 0, 1) := by decide +kernel
theorem dL_dropped_15 : decode cL_dropped 15 = .ok (.ireturn, 1) := by decide +kernel
set_option maxRecDepth 20000 in
theorem ggL_switches_X4_switches : GoodIn wsL_switches wsX4_switches := goodIn_ca (goodIn_r _ [6, 7, 8, 9, 10, 5, 11, 12, 13, 14, 15, 16, 17, 18, 19, 20, 21, 22, 23, 24, 25, 26, 27, 28, 29, 30, 31, 32, 33, 34, 35, 36, 37, 38, 39, 40, 41] (by decide +kernel) (by decide +kernel)) (goodIn_sub (fun _ h => List.mem_cons_of_mem _ (List.mem_append_right _ h)) (by decide +kernel))
set_option maxRecDepth 20000 in
theorem gL_switches_X4_switches : GoodIn wsL_switches (wsV RL 110 RX4 yX4_switches wsX4_switches) := goodIn_app (goodIn_of _ (by decide +kernel)) ggL_switches_X4_switches
theorem dL_switches_0 : decode cL_switches 0 = .ok (.aload_n 1, 1) := by decide +kernel
theorem dL_switches_1 : decode cL_switches 1 = .ok (.iconst 0, 1) := by decide +kernel
theorem dL_switches_2 : decode cL_switches 2 = .ok (.aload_n 0, 1) := by decide +kernel
theorem dL_switches_3 : decode cL_switches 3 = .ok (.invokevirtual 110, 3) := by decide +kernel
theorem dL_switches_6 : decode cL_switches 6 = .ok (.i2l, 1) := by decide +kernel
theorem dL_switches_7 : decode cL_switches 7 = .ok (.lastore, 1) := by decide +kernel
theorem dL_switches_8 : decode cL_switches 8 = .ok (.goto 6, 3) := by decide +kernel
theorem dL_switches_11 : decode cL_switches 11 = .ok (.astore_n 2, 1) := by decide +kernel
theorem dL_switches_12 : decode cL_switches 12 = .ok (.iconst 1, 1) := by decide +kernel
theorem dL_switches_13 : decode cL_switches 13 = .ok (.ireturn, 1) := by decide +kernel
theorem dL_switches_14 : decode cL_switches 14 = .ok (.iconst 0, 1) := by decide +kernel
theorem dL_switches_15 : decode cL_switches 15 = .ok (.ireturn, 1) := by decide +kernel
set_option maxRecDepth 20000 in
theorem ggL_idleUnits_X4_idleUnits : GoodIn wsL_idleUnits wsX4_idleUnits := goodIn_ca (goodIn_r _ [6, 7, 8, 9, 10, 5, 11, 12, 13, 14, 15, 16, 17, 18, 19, 20, 21, 22, 23, 24, 25, 26, 27, 28, 29, 30, 31, 32, 33, 34, 35, 36, 37, 38, 39, 40, 41] (by decide +kernel) (by decide +kernel)) (goodIn_sub (fun _ h => List.mem_cons_of_mem _ (List.mem_append_right _ h)) (by decide +kernel))
set_option maxRecDepth 20000 in
theorem gL_idleUnits_X4_idleUnits : GoodIn wsL_idleUnits (wsV RL 113 RX4 yX4_idleUnits wsX4_idleUnits) := goodIn_app (goodIn_of _ (by decide +kernel)) ggL_idleUnits_X4_idleUnits
theorem dL_idleUnits_0 : decode cL_idleUnits 0 = .ok (.aload_n 1, 1) := by decide +kernel
theorem dL_idleUnits_1 : decode cL_idleUnits 1 = .ok (.iconst 0, 1) := by decide +kernel
theorem dL_idleUnits_2 : decode cL_idleUnits 2 = .ok (.aload_n 0, 1) := by decide +kernel
theorem dL_idleUnits_3 : decode cL_idleUnits 3 = .ok (.invokevirtual 113, 3) := by decide +kernel
theorem dL_idleUnits_6 : decode cL_idleUnits 6 = .ok (.i2l, 1) := by decide +kernel
theorem dL_idleUnits_7 : decode cL_idleUnits 7 = .ok (.lastore, 1) := by decide +kernel
theorem dL_idleUnits_8 : decode cL_idleUnits 8 = .ok (.goto 6, 3) := by decide +kernel
theorem dL_idleUnits_11 : decode cL_idleUnits 11 = .ok (.astore_n 2, 1) := by decide +kernel
theorem dL_idleUnits_12 : decode cL_idleUnits 12 = .ok (.iconst 1, 1) := by decide +kernel
theorem dL_idleUnits_13 : decode cL_idleUnits 13 = .ok (.ireturn, 1) := by decide +kernel
theorem dL_idleUnits_14 : decode cL_idleUnits 14 = .ok (.iconst 0, 1) := by decide +kernel
theorem dL_idleUnits_15 : decode cL_idleUnits 15 = .ok (.ireturn, 1) := by decide +kernel
set_option maxRecDepth 20000 in
theorem ggL_response_X4_response : GoodIn wsL_response wsX4_response := goodIn_ca (goodIn_ca (goodIn_ca (goodIn_r _ [8, 9, 10, 11, 12, 13, 14, 7, 15, 16, 17, 18, 19, 20, 21, 22, 23, 24, 25, 26, 27, 28, 29, 30, 31, 32, 33, 34, 35, 36, 37, 38, 39, 40, 41, 42, 43, 44, 45, 46, 47, 48, 49, 50, 51, 52, 53, 54, 55, 56, 57, 58, 59, 60, 61] (by decide +kernel) (by decide +kernel)) (goodIn_sub (fun _ h => List.mem_cons_of_mem _ (List.mem_append_left _ (List.mem_append_left _ (List.mem_append_right _ h)))) (by decide +kernel))) (goodIn_sub (fun _ h => List.mem_cons_of_mem _ (List.mem_append_left _ (List.mem_append_right _ h))) (by decide +kernel))) (goodIn_sub (fun _ h => List.mem_cons_of_mem _ (List.mem_append_right _ h)) (by decide +kernel))
set_option maxRecDepth 20000 in
theorem gL_response_X4_response : GoodIn wsL_response (wsV RL 116 RX4 yX4_response wsX4_response) := goodIn_app (goodIn_of _ (by decide +kernel)) ggL_response_X4_response
theorem dL_response_0 : decode cL_response 0 = .ok (.aload_n 2, 1) := by decide +kernel
theorem dL_response_1 : decode cL_response 1 = .ok (.iconst 0, 1) := by decide +kernel
theorem dL_response_2 : decode cL_response 2 = .ok (.aload_n 0, 1) := by decide +kernel
theorem dL_response_3 : decode cL_response 3 = .ok (.iload_n 1, 1) := by decide +kernel
theorem dL_response_4 : decode cL_response 4 = .ok (.invokevirtual 116, 3) := by decide +kernel
theorem dL_response_7 : decode cL_response 7 = .ok (.i2l, 1) := by decide +kernel
theorem dL_response_8 : decode cL_response 8 = .ok (.lastore, 1) := by decide +kernel
theorem dL_response_9 : decode cL_response 9 = .ok (.goto 12, 3) := by decide +kernel
theorem dL_response_12 : decode cL_response 12 = .ok (.astore_n 3, 1) := by decide +kernel
theorem dL_response_13 : decode cL_response 13 = .ok (.iconst 1, 1) := by decide +kernel
theorem dL_response_14 : decode cL_response 14 = .ok (.ireturn, 1) := by decide +kernel
theorem dL_response_15 : decode cL_response 15 = .ok (.astore_n 3, 1) := by decide +kernel
theorem dL_response_16 : decode cL_response 16 = .ok (.iconst 2, 1) := by decide +kernel
theorem dL_response_17 : decode cL_response 17 = .ok (.ireturn, 1) := by decide +kernel
theorem dL_response_18 : decode cL_response 18 = .ok (.astore_n 3, 1) := by decide +kernel
theorem dL_response_19 : decode cL_response 19 = .ok (.iconst 3, 1) := by decide +kernel
theorem dL_response_20 : decode cL_response 20 = .ok (.ireturn, 1) := by decide +kernel
theorem dL_response_21 : decode cL_response 21 = .ok (.iconst 0, 1) := by decide +kernel
theorem dL_response_22 : decode cL_response 22 = .ok (.ireturn, 1) := by decide +kernel
set_option maxRecDepth 20000 in
theorem ggL_restore_X4_restore : GoodIn wsL_restore wsX4_restore := goodIn_ca (goodIn_r _ [6, 7, 8, 9, 10, 11, 12, 13, 14, 15, 16, 17, 18, 19, 20, 21, 22, 23, 24, 25, 26, 27, 28, 29, 30, 31, 32, 33, 5, 34, 35, 36, 37, 38, 39, 40, 41, 42, 43, 44, 45, 46, 47, 48, 49, 50, 51, 52, 53, 54, 55, 56, 57, 58, 59, 60, 61, 62, 63, 64, 65, 66, 67, 68, 69, 70, 71, 72, 73] (by decide +kernel) (by decide +kernel)) (goodIn_sub (fun _ h => List.mem_cons_of_mem _ (List.mem_append_right _ h)) (by decide +kernel))
set_option maxRecDepth 20000 in
theorem gL_restore_X4_restore : GoodIn wsL_restore (wsV RL 119 RX4 yX4_restore wsX4_restore) := goodIn_app (goodIn_of _ (by decide +kernel)) ggL_restore_X4_restore
theorem dL_restore_0 : decode cL_restore 0 = .ok (.aload_n 1, 1) := by decide +kernel
theorem dL_restore_1 : decode cL_restore 1 = .ok (.iconst 0, 1) := by decide +kernel
theorem dL_restore_2 : decode cL_restore 2 = .ok (.aload_n 0, 1) := by decide +kernel
theorem dL_restore_3 : decode cL_restore 3 = .ok (.invokevirtual 119, 3) := by decide +kernel
theorem dL_restore_6 : decode cL_restore 6 = .ok (.i2l, 1) := by decide +kernel
theorem dL_restore_7 : decode cL_restore 7 = .ok (.lastore, 1) := by decide +kernel
theorem dL_restore_8 : decode cL_restore 8 = .ok (.goto 6, 3) := by decide +kernel
theorem dL_restore_11 : decode cL_restore 11 = .ok (.astore_n 2, 1) := by decide +kernel
theorem dL_restore_12 : decode cL_restore 12 = .ok (.iconst 1, 1) := by decide +kernel
theorem dL_restore_13 : decode cL_restore 13 = .ok (.ireturn, 1) := by decide +kernel
theorem dL_restore_14 : decode cL_restore 14 = .ok (.iconst 0, 1) := by decide +kernel
theorem dL_restore_15 : decode cL_restore 15 = .ok (.ireturn, 1) := by decide +kernel
