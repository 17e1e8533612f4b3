/-! PART 82: the law's words stand in the tables -/
set_option maxRecDepth 100000 in
theorem in_wsL_law0_r1 : ∀ w ∈ wsL_law0_r1, w ∈ lw_tbl := fun w h => (goodIn_p wsL_law0_r1 [82, 85] (by decide +kernel) (by decide +kernel) w h).1
set_option maxRecDepth 100000 in
theorem in_wsL_law0_r2 : ∀ w ∈ wsL_law0_r2, w ∈ lw_tbl := fun w h => (goodIn_p wsL_law0_r2 [90, 138] (by decide +kernel) (by decide +kernel) w h).1
set_option maxRecDepth 100000 in
theorem in_wsL_law0_r3 : ∀ w ∈ wsL_law0_r3, w ∈ lw_tbl := fun w h => (goodIn_p wsL_law0_r3 [158, 180, 896] (by decide +kernel) (by decide +kernel) w h).1
set_option maxRecDepth 100000 in
theorem in_wsL_law0_r4 : ∀ w ∈ wsL_law0_r4, w ∈ lw_tbl := fun w h => (goodIn_p wsL_law0_r4 [386] (by decide +kernel) (by decide +kernel) w h).1
set_option maxRecDepth 100000 in
theorem in_wsL_law0_r5 : ∀ w ∈ wsL_law0_r5, w ∈ lw_tbl := fun w h => (goodIn_p wsL_law0_r5 [389, 392, 286, 290, 482] (by decide +kernel) (by decide +kernel) w h).1
set_option maxRecDepth 100000 in
theorem in_wsL_law0_r6 : ∀ w ∈ wsL_law0_r6, w ∈ lw_tbl := fun w h => (goodIn_p wsL_law0_r6 [298, 302, 306, 310, 314, 318] (by decide +kernel) (by decide +kernel) w h).1
set_option maxRecDepth 100000 in
theorem in_wsL_law0_r7 : ∀ w ∈ wsL_law0_r7, w ∈ lw_tbl := fun w h => (goodIn_p wsL_law0_r7 [322, 326, 486, 490, 331] (by decide +kernel) (by decide +kernel) w h).1
set_option maxRecDepth 100000 in
theorem in_wsL_law0_r8 : ∀ w ∈ wsL_law0_r8, w ∈ lw_tbl := fun w h => (goodIn_p wsL_law0_r8 [335, 339, 1002, 1005, 1008] (by decide +kernel) (by decide +kernel) w h).1
set_option maxRecDepth 100000 in
theorem in_wsL_law0_r9 : ∀ w ∈ wsL_law0_r9, w ∈ lw_tbl := fun w h => (goodIn_p wsL_law0_r9 [1012, 1016, 1020, 1024, 1028, 1032] (by decide +kernel) (by decide +kernel) w h).1
set_option maxRecDepth 100000 in
theorem in_wsL_law0_r10 : ∀ w ∈ wsL_law0_r10, w ∈ lw_tbl := fun w h => (goodIn_p wsL_law0_r10 [1036, 1040, 1044, 1048, 1052, 1056] (by decide +kernel) (by decide +kernel) w h).1
set_option maxRecDepth 100000 in
theorem in_wsL_law0_r11 : ∀ w ∈ wsL_law0_r11, w ∈ lw_tbl := fun w h => (goodIn_p wsL_law0_r11 [1060, 1064, 998, 498] (by decide +kernel) (by decide +kernel) w h).1
set_option maxRecDepth 100000 in
theorem in_wsL_law0_r12 : ∀ w ∈ wsL_law0_r12, w ∈ lw_tbl := fun w h => (goodIn_p wsL_law0_r12 [502, 506, 510, 514, 1068] (by decide +kernel) (by decide +kernel) w h).1
set_option maxRecDepth 100000 in
theorem in_wsL_law0_r13 : ∀ w ∈ wsL_law0_r13, w ∈ lw_tbl := fun w h => (goodIn_p wsL_law0_r13 [1072, 1076, 523, 529, 1081] (by decide +kernel) (by decide +kernel) w h).1
set_option maxRecDepth 100000 in
theorem in_wsL_law0_r14 : ∀ w ∈ wsL_law0_r14, w ∈ lw_tbl := fun w h => (goodIn_p wsL_law0_r14 [278, 1085, 537, 541] (by decide +kernel) (by decide +kernel) w h).1
set_option maxRecDepth 100000 in
theorem in_wsL_law0_r15 : ∀ w ∈ wsL_law0_r15, w ∈ lw_tbl := fun w h => (goodIn_p wsL_law0_r15 [561, 1089, 1093, 282, 294, 1097] (by decide +kernel) (by decide +kernel) w h).1
set_option maxRecDepth 100000 in
theorem in_wsL_law0_r16 : ∀ w ∈ wsL_law0_r16, w ∈ lw_tbl := fun w h => (goodIn_p wsL_law0_r16 [568, 1101, 577, 582, 1105] (by decide +kernel) (by decide +kernel) w h).1
set_option maxRecDepth 100000 in
theorem in_wsL_law0_r17 : ∀ w ∈ wsL_law0_r17, w ∈ lw_tbl := fun w h => (goodIn_p wsL_law0_r17 [347, 1109, 351, 1113, 589] (by decide +kernel) (by decide +kernel) w h).1
set_option maxRecDepth 100000 in
theorem in_wsL_law0_r18 : ∀ w ∈ wsL_law0_r18, w ∈ lw_tbl := fun w h => (goodIn_p wsL_law0_r18 [1117, 597, 1121, 604] (by decide +kernel) (by decide +kernel) w h).1
set_option maxRecDepth 100000 in
theorem in_wsL_law0_r19 : ∀ w ∈ wsL_law0_r19, w ∈ lw_tbl := fun w h => (goodIn_p wsL_law0_r19 [1125, 613, 616, 621, 1129] (by decide +kernel) (by decide +kernel) w h).1
set_option maxRecDepth 100000 in
theorem in_wsL_law0_r20 : ∀ w ∈ wsL_law0_r20, w ∈ lw_tbl := fun w h => (goodIn_p wsL_law0_r20 [644, 1133, 651, 1137] (by decide +kernel) (by decide +kernel) w h).1
set_option maxRecDepth 100000 in
theorem in_wsL_law0_r21 : ∀ w ∈ wsL_law0_r21, w ∈ lw_tbl := fun w h => (goodIn_p wsL_law0_r21 [658, 1141, 666, 670, 674] (by decide +kernel) (by decide +kernel) w h).1
set_option maxRecDepth 100000 in
theorem in_wsL_law0_r22 : ∀ w ∈ wsL_law0_r22, w ∈ lw_tbl := fun w h => (goodIn_p wsL_law0_r22 [1145, 1149, 681, 1153] (by decide +kernel) (by decide +kernel) w h).1
set_option maxRecDepth 100000 in
theorem in_wsL_law0_r23 : ∀ w ∈ wsL_law0_r23, w ∈ lw_tbl := fun w h => (goodIn_p wsL_law0_r23 [688, 1157, 355, 1161, 696] (by decide +kernel) (by decide +kernel) w h).1
set_option maxRecDepth 100000 in
theorem in_wsL_law0_r24 : ∀ w ∈ wsL_law0_r24, w ∈ lw_tbl := fun w h => (goodIn_p wsL_law0_r24 [1165, 1169, 703, 707, 1173] (by decide +kernel) (by decide +kernel) w h).1
set_option maxRecDepth 100000 in
theorem in_wsL_law0_r25 : ∀ w ∈ wsL_law0_r25, w ∈ lw_tbl := fun w h => (goodIn_p wsL_law0_r25 [1176, 1179, 716, 1187] (by decide +kernel) (by decide +kernel) w h).1
set_option maxRecDepth 100000 in
theorem in_wsL_law0_r26 : ∀ w ∈ wsL_law0_r26, w ∈ lw_tbl := fun w h => (goodIn_p wsL_law0_r26 [1191, 723, 727, 1195, 1198] (by decide +kernel) (by decide +kernel) w h).1
set_option maxRecDepth 100000 in
theorem in_wsL_law0_r27 : ∀ w ∈ wsL_law0_r27, w ∈ lw_tbl := fun w h => (goodIn_p wsL_law0_r27 [1201, 360, 364, 367, 371] (by decide +kernel) (by decide +kernel) w h).1
set_option maxRecDepth 100000 in
theorem in_wsL_law0_r28 : ∀ w ∈ wsL_law0_r28, w ∈ lw_tbl := fun w h => (goodIn_p wsL_law0_r28 [376, 1209, 1213, 1217, 1221] (by decide +kernel) (by decide +kernel) w h).1
set_option maxRecDepth 100000 in
theorem in_wsL_law0_r29 : ∀ w ∈ wsL_law0_r29, w ∈ lw_tbl := fun w h => (goodIn_p wsL_law0_r29 [735, 1225, 744, 748, 1229] (by decide +kernel) (by decide +kernel) w h).1
set_option maxRecDepth 100000 in
theorem in_wsL_law0_r30 : ∀ w ∈ wsL_law0_r30, w ∈ lw_tbl := fun w h => (goodIn_p wsL_law0_r30 [1233, 771, 1237, 778] (by decide +kernel) (by decide +kernel) w h).1
set_option maxRecDepth 100000 in
theorem in_wsL_law0_r31 : ∀ w ∈ wsL_law0_r31, w ∈ lw_tbl := fun w h => (goodIn_p wsL_law0_r31 [1241, 785, 791, 795] (by decide +kernel) (by decide +kernel) w h).1
set_option maxRecDepth 100000 in
theorem in_wsL_law0_r32 : ∀ w ∈ wsL_law0_r32, w ∈ lw_tbl := fun w h => (goodIn_p wsL_law0_r32 [801, 805, 810, 816] (by decide +kernel) (by decide +kernel) w h).1
set_option maxRecDepth 100000 in
theorem in_wsL_law0_r33 : ∀ w ∈ wsL_law0_r33, w ∈ lw_tbl := fun w h => (goodIn_p wsL_law0_r33 [820, 825, 829, 834, 838] (by decide +kernel) (by decide +kernel) w h).1
set_option maxRecDepth 100000 in
theorem in_wsL_law0_r34 : ∀ w ∈ wsL_law0_r34, w ∈ lw_tbl := fun w h => (goodIn_p wsL_law0_r34 [842, 1245, 1249, 1253] (by decide +kernel) (by decide +kernel) w h).1
set_option maxRecDepth 100000 in
theorem in_wsL_law0_r35 : ∀ w ∈ wsL_law0_r35, w ∈ lw_tbl := fun w h => (goodIn_p wsL_law0_r35 [1258, 1262, 1266, 1270, 1274, 1278] (by decide +kernel) (by decide +kernel) w h).1
set_option maxRecDepth 100000 in
theorem in_wsL_law0_r36 : ∀ w ∈ wsL_law0_r36, w ∈ lw_tbl := fun w h => (goodIn_p wsL_law0_r36 [849, 853, 1282, 1286, 861] (by decide +kernel) (by decide +kernel) w h).1
set_option maxRecDepth 100000 in
theorem in_wsL_law0_r37 : ∀ w ∈ wsL_law0_r37, w ∈ lw_tbl := fun w h => (goodIn_p wsL_law0_r37 [1290, 868, 1294, 875] (by decide +kernel) (by decide +kernel) w h).1
set_option maxRecDepth 100000 in
theorem in_wsL_law0_r38 : ∀ w ∈ wsL_law0_r38, w ∈ lw_tbl := fun w h => (goodIn_p wsL_law0_r38 [1298, 882, 1302, 343, 1306] (by decide +kernel) (by decide +kernel) w h).1
set_option maxRecDepth 100000 in
theorem in_wsL_law0_r39 : ∀ w ∈ wsL_law0_r39, w ∈ lw_tbl := fun w h => (goodIn_p wsL_law0_r39 [890, 1310] (by decide +kernel) (by decide +kernel) w h).1
set_option maxRecDepth 100000 in
theorem in_wsX40 : ∀ w ∈ wsX40, w ∈ lw_tbl := by decide +kernel
set_option maxRecDepth 100000 in
theorem in_wsX50 : ∀ w ∈ wsX50, w ∈ lw_tbl := by decide +kernel
set_option maxRecDepth 100000 in
theorem in_wsX00 : ∀ w ∈ wsX00, w ∈ lw_tbl := by decide +kernel
set_option maxRecDepth 100000 in
theorem in_wsX10 : ∀ w ∈ wsX10, w ∈ lw_tbl := by decide +kernel
set_option maxRecDepth 100000 in
theorem in_wsX30 : ∀ w ∈ wsX30, w ∈ lw_tbl := by decide +kernel
set_option maxRecDepth 100000 in
theorem in_wsX20 : ∀ w ∈ wsX20, w ∈ lw_tbl := by decide +kernel
set_option maxRecDepth 100000 in
theorem wsL_law_x0 : ∀ w ∈ (vx_atS RX4 55 "java/lang/IllegalArgumentException" ["java/lang/RuntimeException", "java/lang/Exception"]).filter goodWord, w ∈ lw_tbl := by decide +kernel
set_option maxRecDepth 100000 in
theorem wsL_law_x1 : ∀ w ∈ (vx_atS RX4 66 "java/lang/IllegalStateException" ["java/lang/RuntimeException", "java/lang/Exception"]).filter goodWord, w ∈ lw_tbl := by decide +kernel
set_option maxRecDepth 100000 in
theorem wsL_law_x2 : ∀ w ∈ (vx_atS RX4 231 "java/lang/IndexOutOfBoundsException" ["java/lang/RuntimeException", "java/lang/Exception"]).filter goodWord, w ∈ lw_tbl := by decide +kernel
set_option maxRecDepth 100000 in
theorem wsL_law_x3 : ∀ w ∈ (vx_atS RX4 181 "java/lang/UnsupportedOperationException" ["java/lang/RuntimeException", "java/lang/Exception"]).filter goodWord, w ∈ lw_tbl := by decide +kernel
set_option maxRecDepth 100000 in
theorem wsL_law_x4 : ∀ w ∈ (vx_atN RX4 277 "java/util/NoSuchElementException" "java/lang/RuntimeException" ["java/lang/Exception"]).filter goodWord, w ∈ lw_tbl := by decide +kernel
theorem wsL_law_in0 : ∀ w ∈ wsL_law0, w ∈ lw_tbl := fun w => fun h => (List.mem_append.mp h).elim (fun h => (List.mem_append.mp h).elim (fun h => (List.mem_append.mp h).elim (fun h => (List.mem_append.mp h).elim (fun h => (List.mem_append.mp h).elim (fun h => (List.mem_append.mp h).elim (fun h => (List.mem_append.mp h).elim (fun h => (List.mem_append.mp h).elim (fun h => in_wsL_law0_r1 w h) (fun h => (List.mem_append.mp h).elim (fun h => in_wsL_law0_r2 w h) (fun h => (List.mem_append.mp h).elim (fun h => in_wsL_law0_r3 w h) (fun h => (List.mem_append.mp h).elim (fun h => in_wsL_law0_r4 w h) (fun h => (List.mem_append.mp h).elim (fun h => in_wsL_law0_r5 w h) (fun h => (List.mem_append.mp h).elim (fun h => in_wsL_law0_r6 w h) (fun h => (List.mem_append.mp h).elim (fun h => in_wsL_law0_r7 w h) (fun h => (List.mem_append.mp h).elim (fun h => in_wsL_law0_r8 w h) (fun h => (List.mem_append.mp h).elim (fun h => in_wsL_law0_r9 w h) (fun h => (List.mem_append.mp h).elim (fun h => in_wsL_law0_r10 w h) (fun h => (List.mem_append.mp h).elim (fun h => in_wsL_law0_r11 w h) (fun h => (List.mem_append.mp h).elim (fun h => in_wsL_law0_r12 w h) (fun h => (List.mem_append.mp h).elim (fun h => in_wsL_law0_r13 w h) (fun h => (List.mem_append.mp h).elim (fun h => in_wsL_law0_r14 w h) (fun h => (List.mem_append.mp h).elim (fun h => in_wsL_law0_r15 w h) (fun h => (List.mem_append.mp h).elim (fun h => in_wsL_law0_r16 w h) (fun h => (List.mem_append.mp h).elim (fun h => in_wsL_law0_r17 w h) (fun h => (List.mem_append.mp h).elim (fun h => in_wsL_law0_r18 w h) (fun h => (List.mem_append.mp h).elim (fun h => in_wsL_law0_r19 w h) (fun h => (List.mem_append.mp h).elim (fun h => in_wsL_law0_r20 w h) (fun h => (List.mem_append.mp h).elim (fun h => in_wsL_law0_r21 w h) (fun h => (List.mem_append.mp h).elim (fun h => in_wsL_law0_r22 w h) (fun h => (List.mem_append.mp h).elim (fun h => in_wsL_law0_r23 w h) (fun h => (List.mem_append.mp h).elim (fun h => in_wsL_law0_r24 w h) (fun h => (List.mem_append.mp h).elim (fun h => in_wsL_law0_r25 w h) (fun h => (List.mem_append.mp h).elim (fun h => in_wsL_law0_r26 w h) (fun h => (List.mem_append.mp h).elim (fun h => in_wsL_law0_r27 w h) (fun h => (List.mem_append.mp h).elim (fun h => in_wsL_law0_r28 w h) (fun h => (List.mem_append.mp h).elim (fun h => in_wsL_law0_r29 w h) (fun h => (List.mem_append.mp h).elim (fun h => in_wsL_law0_r30 w h) (fun h => (List.mem_append.mp h).elim (fun h => in_wsL_law0_r31 w h) (fun h => (List.mem_append.mp h).elim (fun h => in_wsL_law0_r32 w h) (fun h => (List.mem_append.mp h).elim (fun h => in_wsL_law0_r33 w h) (fun h => (List.mem_append.mp h).elim (fun h => in_wsL_law0_r34 w h) (fun h => (List.mem_append.mp h).elim (fun h => in_wsL_law0_r35 w h) (fun h => (List.mem_append.mp h).elim (fun h => in_wsL_law0_r36 w h) (fun h => (List.mem_append.mp h).elim (fun h => in_wsL_law0_r37 w h) (fun h => (List.mem_append.mp h).elim (fun h => in_wsL_law0_r38 w h) (fun h => in_wsL_law0_r39 w h))))))))))))))))))))))))))))))))))))))) (fun h => in_wsX40 w h)) (fun h => in_wsX50 w h)) (fun h => in_wsX00 w h)) (fun h => in_wsX10 w h)) (fun h => in_wsX30 w h)) (fun h => in_wsX20 w h)) (fun h => by cases h)
theorem wsL_law_in : ∀ w ∈ wnL_law, w ∈ lw_tbl := fun w h => (List.mem_append.mp h).elim (fun h => (List.mem_append.mp h).elim (fun h => (List.mem_append.mp h).elim (fun h => (List.mem_append.mp h).elim (fun h => (List.mem_append.mp h).elim (fun h => wsL_law_in0 w h) (fun h => wsL_law_x0 w h)) (fun h => wsL_law_x1 w h)) (fun h => wsL_law_x2 w h)) (fun h => wsL_law_x3 w h)) (fun h => wsL_law_x4 w h)
theorem inlX0 : ∀ w ∈ wsX00, w ∈ wnL_law := fun _ h => List.mem_append_left _ (List.mem_append_left _ (List.mem_append_left _ (List.mem_append_left _ (List.mem_append_left _ (List.mem_append_left _ (List.mem_append_left _ (List.mem_append_left _ (List.mem_append_left _ (List.mem_append_right _ h)))))))))
theorem inX0 : ∀ w ∈ wsX00, w ∈ lw_tbl := fun w h => wsL_law_in w (inlX0 w h)
theorem inlX1 : ∀ w ∈ wsX10, w ∈ wnL_law := fun _ h => List.mem_append_left _ (List.mem_append_left _ (List.mem_append_left _ (List.mem_append_left _ (List.mem_append_left _ (List.mem_append_left _ (List.mem_append_left _ (List.mem_append_left _ (List.mem_append_right _ h))))))))
theorem inX1 : ∀ w ∈ wsX10, w ∈ lw_tbl := fun w h => wsL_law_in w (inlX1 w h)
theorem inlX2 : ∀ w ∈ wsX20, w ∈ wnL_law := fun _ h => List.mem_append_left _ (List.mem_append_left _ (List.mem_append_left _ (List.mem_append_left _ (List.mem_append_left _ (List.mem_append_left _ (List.mem_append_right _ h))))))
theorem inX2 : ∀ w ∈ wsX20, w ∈ lw_tbl := fun w h => wsL_law_in w (inlX2 w h)
theorem inlX3 : ∀ w ∈ wsX30, w ∈ wnL_law := fun _ h => List.mem_append_left _ (List.mem_append_left _ (List.mem_append_left _ (List.mem_append_left _ (List.mem_append_left _ (List.mem_append_left _ (List.mem_append_left _ (List.mem_append_right _ h)))))))
theorem inX3 : ∀ w ∈ wsX30, w ∈ lw_tbl := fun w h => wsL_law_in w (inlX3 w h)
theorem inlX4 : ∀ w ∈ wsX40, w ∈ wnL_law := fun _ h => List.mem_append_left _ (List.mem_append_left _ (List.mem_append_left _ (List.mem_append_left _ (List.mem_append_left _ (List.mem_append_left _ (List.mem_append_left _ (List.mem_append_left _ (List.mem_append_left _ (List.mem_append_left _ (List.mem_append_left _ (List.mem_append_right _ h)))))))))))
theorem inX4 : ∀ w ∈ wsX40, w ∈ lw_tbl := fun w h => wsL_law_in w (inlX4 w h)
theorem inlX5 : ∀ w ∈ wsX50, w ∈ wnL_law := fun _ h => List.mem_append_left _ (List.mem_append_left _ (List.mem_append_left _ (List.mem_append_left _ (List.mem_append_left _ (List.mem_append_left _ (List.mem_append_left _ (List.mem_append_left _ (List.mem_append_left _ (List.mem_append_left _ (List.mem_append_right _ h))))))))))
theorem inX5 : ∀ w ∈ wsX50, w ∈ lw_tbl := fun w h => wsL_law_in w (inlX5 w h)
