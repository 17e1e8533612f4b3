set_option maxRecDepth 20000 in
theorem ggL_law_X4_init : GoodIn wnL_law wsX4_init := goodIn_r _ [10, 11, 12, 13, 14, 15, 16, 17, 18, 19, 20, 21, 22, 23, 24, 25, 26, 27, 28, 29, 30, 31, 32, 33, 34, 35, 36, 37, 38, 39, 40, 41, 42, 43, 44, 45, 46, 47, 48, 49, 50, 51, 52, 53, 54, 55, 56, 57, 58, 59, 60, 61, 62, 63, 64, 65, 66, 966, 967, 968, 969, 970, 971, 972, 973, 974, 922, 923, 924, 925, 926, 927, 928, 929, 930, 931, 932, 933, 975, 976, 977, 978, 979, 980, 981, 982, 983, 984, 985, 986, 987, 988, 989, 990, 991, 992, 993, 994, 995, 996] (by decide +kernel) (by decide +kernel)
set_option maxRecDepth 20000 in
theorem gL_law_X4_init : GoodIn wnL_law (wsX4_init) := ggL_law_X4_init
set_option maxRecDepth 20000 in
theorem ggL_law_X5_init : GoodIn wnL_law wsX5_init := goodIn_r _ [69, 70, 12, 13, 35, 71, 72, 73, 74, 75, 76, 77, 78, 79, 80, 81, 82, 83, 934, 935, 936, 937, 938, 939, 940, 941, 942, 943, 944, 945, 946, 947, 948, 949, 950, 951, 952, 953, 954, 955, 956, 957, 958, 959, 960, 961, 962, 963, 964, 965] (by decide +kernel) (by decide +kernel)
set_option maxRecDepth 20000 in
theorem gL_law_X5_init : GoodIn wnL_law (wsX5_init) := ggL_law_X5_init
set_option maxRecDepth 20000 in
theorem ggL_law_L_propose : GoodIn wnL_law wsL_propose := goodIn_ca (goodIn_ca (goodIn_r _ [87, 88, 89, 90, 91, 92, 2, 93, 94, 95, 96, 97, 17, 18, 98, 99, 100, 101, 102, 103, 104, 105, 106, 16, 107, 108, 43, 109, 110, 111, 112, 36, 37, 38, 39, 40, 41, 42, 113, 114, 115, 116, 117, 118, 119, 120, 121, 122, 123, 124, 125, 126, 127, 128, 129, 130, 131, 132, 133, 134, 135, 136, 137, 138, 139, 140, 141, 142, 143, 144, 145, 146, 147, 148, 149, 150, 151, 152, 153, 154, 155, 156, 157, 158, 159, 160, 161, 162, 163, 164, 165, 166, 23, 167, 168, 169, 170, 22, 171, 49, 172, 173, 174, 175, 176, 177, 178, 922, 923, 924, 925, 926, 927, 928, 929, 930, 931, 932, 933, 966, 967, 968, 969, 970, 971, 972, 973, 974, 975, 976, 977] (by decide +kernel) (by decide +kernel)) (goodIn_sub (fun _ h => List.mem_append_left _ (List.mem_append_left _ (List.mem_append_left _ (List.mem_append_left _ (List.mem_append_right _ h))))) (by decide +kernel))) (goodIn_sub (fun _ h => List.mem_append_left _ (List.mem_append_left _ (List.mem_append_left _ (List.mem_append_right _ h)))) (by decide +kernel))
set_option maxRecDepth 20000 in
theorem gL_law_L_propose : GoodIn wnL_law (va_wsS RL 126 yL_propose wsL_propose) := goodIn_app (goodIn_of _ (by decide +kernel)) ggL_law_L_propose
set_option maxRecDepth 20000 in
theorem ggL_law_X5_propose : GoodIn wnL_law wsX5_propose := goodIn_r _ [182, 183, 71, 184, 185, 5, 186, 187, 188, 189, 190, 191, 192, 193, 194, 195, 196, 197, 72, 198, 199, 200, 201, 202, 203, 204, 205, 206, 207, 208, 209, 210, 211, 212, 213, 214, 215, 216, 217, 218, 219, 220, 221, 222, 223, 224, 225, 226, 227, 228, 229, 230, 231, 232, 233, 234, 235, 236, 237, 238, 239, 240, 241, 242, 243, 244, 245, 246, 247, 248, 249, 250, 74, 251, 934, 935, 936, 937, 938, 939, 940, 941, 942, 943, 944, 945, 946, 947, 948, 949, 950, 951, 952, 953, 954, 955, 956, 957, 958, 959, 960, 961, 962, 963, 964, 965] (by decide +kernel) (by decide +kernel)
set_option maxRecDepth 20000 in
theorem gL_law_X5_propose : GoodIn wnL_law (wsV RL 131 RX5 yX5_propose wsX5_propose) := goodIn_app (goodIn_of _ (by decide +kernel)) ggL_law_X5_propose
set_option maxRecDepth 20000 in
theorem ggL_law_X5_thrown : GoodIn wnL_law wsX5_thrown := goodIn_r _ [255, 183, 934, 935, 936, 937, 938, 939, 940, 941, 942, 943, 944, 945, 946, 947, 948, 949, 950, 951, 952, 953, 954, 955, 956, 957, 958, 959, 960, 961, 962, 963, 964, 965] (by decide +kernel) (by decide +kernel)
set_option maxRecDepth 20000 in
theorem gL_law_X5_thrown : GoodIn wnL_law (wsV RL 132 RX5 yX5_thrown wsX5_thrown) := goodIn_app (goodIn_of _ (by decide +kernel)) ggL_law_X5_thrown
set_option maxRecDepth 20000 in
theorem ggL_law_L_proposeText : GoodIn wnL_law wsL_proposeText := goodIn_ca (goodIn_ca (goodIn_r _ [258, 88, 89, 259, 260, 261, 2, 262, 94, 95, 27, 263, 264, 265, 26, 266, 55, 267, 268, 269, 270, 271, 53, 54, 272, 273, 274, 275, 276, 277, 278, 279, 280, 91, 92, 93, 96, 97, 17, 18, 98, 99, 100, 101, 102, 103, 104, 105, 106, 16, 107, 108, 43, 109, 110, 111, 112, 36, 37, 38, 39, 40, 41, 42, 113, 114, 115, 116, 117, 118, 119, 120, 121, 122, 123, 124, 125, 126, 127, 128, 129, 130, 131, 132, 133, 134, 135, 136, 137, 138, 139, 140, 141, 142, 143, 144, 145, 146, 147, 148, 149, 150, 151, 152, 153, 154, 155, 156, 157, 158, 159, 160, 161, 162, 163, 164, 165, 166, 23, 167, 168, 169, 170, 22, 171, 49, 172, 173, 174, 175, 176, 177, 178, 922, 923, 924, 925, 926, 927, 928, 929, 930, 931, 932, 933, 978, 979, 980, 981, 966, 967, 968, 969, 970, 971, 972, 973, 974, 975, 976, 977] (by decide +kernel) (by decide +kernel)) (goodIn_sub (fun _ h => List.mem_append_left _ (List.mem_append_left _ (List.mem_append_left _ (List.mem_append_left _ (List.mem_append_right _ h))))) (by decide +kernel))) (goodIn_sub (fun _ h => List.mem_append_left _ (List.mem_append_left _ (List.mem_append_left _ (List.mem_append_right _ h)))) (by decide +kernel))
set_option maxRecDepth 20000 in
theorem gL_law_L_proposeText : GoodIn wnL_law (va_wsS RL 135 yL_proposeText wsL_proposeText) := goodIn_app (goodIn_of _ (by decide +kernel)) ggL_law_L_proposeText
set_option maxRecDepth 20000 in
theorem ggL_law_X5_proposeText : GoodIn wnL_law wsX5_proposeText := goodIn_r _ [284, 183, 285, 286, 76, 78, 287, 288, 289, 5, 290, 291, 292, 293, 294, 75, 187, 188, 189, 190, 191, 192, 193, 295, 180, 181, 182, 71, 184, 185, 186, 194, 195, 196, 197, 72, 198, 199, 200, 201, 202, 203, 204, 205, 206, 207, 208, 209, 210, 211, 212, 213, 214, 215, 216, 217, 218, 219, 220, 221, 222, 223, 224, 225, 226, 227, 228, 229, 230, 231, 232, 233, 234, 235, 236, 237, 238, 239, 240, 241, 242, 243, 244, 245, 246, 247, 248, 249, 250, 74, 251, 934, 935, 936, 937, 938, 939, 940, 941, 942, 943, 944, 945, 946, 947, 948, 949, 950, 951, 952, 953, 954, 955, 956, 957, 958, 959, 960, 961, 962, 963, 964, 965] (by decide +kernel) (by decide +kernel)
set_option maxRecDepth 20000 in
theorem gL_law_X5_proposeText : GoodIn wnL_law (wsV RL 138 RX5 yX5_proposeText wsX5_proposeText) := goodIn_app (goodIn_of _ (by decide +kernel)) ggL_law_X5_proposeText
set_option maxRecDepth 20000 in
theorem ggL_law_L_appendCharacter : GoodIn wnL_law wsL_appendCharacter := goodIn_ca (goodIn_ca (goodIn_r _ [298, 88, 89, 299, 300, 301, 2, 302, 94, 95, 96, 97, 27, 303, 304, 305, 26, 306, 53, 267, 922, 923, 924, 925, 926, 927, 928, 929, 930, 931, 932, 933, 978, 979, 980, 981] (by decide +kernel) (by decide +kernel)) (goodIn_sub (fun _ h => List.mem_append_left _ (List.mem_append_left _ (List.mem_append_left _ (List.mem_append_left _ (List.mem_append_right _ h))))) (by decide +kernel))) (goodIn_sub (fun _ h => List.mem_append_left _ (List.mem_append_left _ (List.mem_append_left _ (List.mem_append_right _ h)))) (by decide +kernel))
set_option maxRecDepth 20000 in
theorem gL_law_L_appendCharacter : GoodIn wnL_law (va_wsS RL 139 yL_appendCharacter wsL_appendCharacter) := goodIn_app (goodIn_of _ (by decide +kernel)) ggL_law_L_appendCharacter
set_option maxRecDepth 20000 in
theorem ggL_law_X5_appendCharacter : GoodIn wnL_law wsX5_appendCharacter := goodIn_r _ [310, 183, 286, 75, 187, 188, 5, 189, 190, 191, 192, 193, 934, 935, 936, 937, 938, 939, 940, 941, 942, 943, 944, 945, 946, 947, 948, 949, 950, 951, 952, 953, 954, 955, 956, 957, 958, 959, 960, 961, 962, 963, 964, 965] (by decide +kernel) (by decide +kernel)
set_option maxRecDepth 20000 in
theorem gL_law_X5_appendCharacter : GoodIn wnL_law (wsV RL 142 RX5 yX5_appendCharacter wsX5_appendCharacter) := goodIn_app (goodIn_of _ (by decide +kernel)) ggL_law_X5_appendCharacter
set_option maxRecDepth 20000 in
theorem ggL_law_X4_faultPosition : GoodIn wnL_law wsX4_faultPosition := goodIn_r _ [314, 27, 922, 923, 924, 925, 926, 927, 928, 929, 930, 931, 932, 933, 978, 979, 980, 981] (by decide +kernel) (by decide +kernel)
set_option maxRecDepth 20000 in
theorem gL_law_X4_faultPosition : GoodIn wnL_law (wsV RL 143 RX4 yX4_faultPosition wsX4_faultPosition) := goodIn_app (goodIn_of _ (by decide +kernel)) ggL_law_X4_faultPosition
set_option maxRecDepth 20000 in
theorem ggL_law_X5_faultPosition : GoodIn wnL_law wsX5_faultPosition := goodIn_r _ [318, 183, 76, 934, 935, 936, 937, 938, 939, 940, 941, 942, 943, 944, 945, 946, 947, 948, 949, 950, 951, 952, 953, 954, 955, 956, 957, 958, 959, 960, 961, 962, 963, 964, 965] (by decide +kernel) (by decide +kernel)
set_option maxRecDepth 20000 in
theorem gL_law_X5_faultPosition : GoodIn wnL_law (wsV RL 146 RX5 yX5_faultPosition wsX5_faultPosition) := goodIn_app (goodIn_of _ (by decide +kernel)) ggL_law_X5_faultPosition
set_option maxRecDepth 20000 in
theorem ggL_law_L_withdraw : GoodIn wnL_law wsL_withdraw := goodIn_ca (goodIn_r _ [321, 322, 323, 324, 325, 2, 326, 18, 17, 327, 328, 329, 330, 331, 332, 104, 105, 106, 16, 107, 108, 43, 109, 110, 111, 112, 36, 37, 38, 39, 40, 41, 42, 333, 334, 335, 336, 117, 118, 119, 120, 121, 122, 123, 124, 125, 126, 127, 128, 129, 130, 131, 132, 133, 134, 135, 136, 137, 138, 139, 140, 141, 142, 143, 144, 145, 146, 147, 148, 163, 164, 165, 166, 23, 167, 168, 169, 170, 22, 171, 49, 172, 173, 174, 175, 176, 177, 178, 922, 923, 924, 925, 926, 927, 928, 929, 930, 931, 932, 933, 966, 967, 968, 969, 970, 971, 972, 973, 974, 975, 976, 977] (by decide +kernel) (by decide +kernel)) (goodIn_sub (fun _ h => List.mem_append_left _ (List.mem_append_left _ (List.mem_append_right _ h))) (by decide +kernel))
set_option maxRecDepth 20000 in
theorem gL_law_L_withdraw : GoodIn wnL_law (va_wsS RL 147 yL_withdraw wsL_withdraw) := goodIn_app (goodIn_of _ (by decide +kernel)) ggL_law_L_withdraw
set_option maxRecDepth 20000 in
theorem ggL_law_X5_withdraw : GoodIn wnL_law wsX5_withdraw := goodIn_r _ [340, 183, 71, 341, 342, 343, 5, 344, 187, 188, 189, 190, 191, 192, 193, 194, 195, 196, 197, 72, 198, 199, 200, 201, 202, 203, 204, 205, 206, 207, 208, 209, 210, 211, 212, 213, 214, 215, 216, 217, 218, 219, 220, 221, 222, 223, 224, 225, 226, 227, 228, 229, 246, 247, 248, 249, 250, 74, 251, 934, 935, 936, 937, 938, 939, 940, 941, 942, 943, 944, 945, 946, 947, 948, 949, 950, 951, 952, 953, 954, 955, 956, 957, 958, 959, 960, 961, 962, 963, 964, 965] (by decide +kernel) (by decide +kernel)
set_option maxRecDepth 20000 in
theorem gL_law_X5_withdraw : GoodIn wnL_law (wsV RL 149 RX5 yX5_withdraw wsX5_withdraw) := goodIn_app (goodIn_of _ (by decide +kernel)) ggL_law_X5_withdraw
set_option maxRecDepth 20000 in
theorem ggL_law_X4_upgrade : GoodIn wnL_law wsX4_upgrade := goodIn_r _ [348, 18, 17, 104, 105, 106, 16, 107, 108, 43, 109, 110, 111, 112, 36, 37, 38, 39, 40, 41, 42, 349, 350, 351, 352, 353, 118, 119, 120, 121, 122, 123, 124, 125, 126, 127, 128, 129, 130, 131, 132, 133, 134, 135, 136, 137, 138, 139, 140, 141, 142, 143, 144, 145, 146, 147, 148, 117, 163, 164, 165, 2, 166, 23, 167, 168, 169, 170, 22, 171, 49, 172, 173, 174, 175, 176, 177, 178, 922, 923, 924, 925, 926, 927, 928, 929, 930, 931, 932, 933, 966, 967, 968, 969, 970, 971, 972, 973, 974, 975, 976, 977] (by decide +kernel) (by decide +kernel)
set_option maxRecDepth 20000 in
theorem gL_law_X4_upgrade : GoodIn wnL_law (wsV RL 150 RX4 yX4_upgrade wsX4_upgrade) := goodIn_app (goodIn_of _ (by decide +kernel)) ggL_law_X4_upgrade
set_option maxRecDepth 20000 in
theorem ggL_law_X5_upgrade : GoodIn wnL_law wsX5_upgrade := goodIn_r _ [357, 183, 71, 194, 195, 196, 5, 197, 72, 198, 199, 200, 201, 202, 203, 204, 205, 206, 207, 208, 209, 210, 211, 212, 213, 214, 215, 216, 217, 218, 219, 220, 221, 222, 223, 224, 225, 226, 227, 228, 229, 187, 188, 189, 246, 247, 248, 249, 250, 74, 251, 934, 935, 936, 937, 938, 939, 940, 941, 942, 943, 944, 945, 946, 947, 948, 949, 950, 951, 952, 953, 954, 955, 956, 957, 958, 959, 960, 961, 962, 963, 964, 965] (by decide +kernel) (by decide +kernel)
set_option maxRecDepth 20000 in
theorem gL_law_X5_upgrade : GoodIn wnL_law (wsV RL 153 RX5 yX5_upgrade wsX5_upgrade) := goodIn_app (goodIn_of _ (by decide +kernel)) ggL_law_X5_upgrade
set_option maxRecDepth 20000 in
theorem ggL_law_L_setLevel : GoodIn wnL_law wsL_setLevel := goodIn_ca (goodIn_ca (goodIn_ca (goodIn_r _ [360, 322, 88, 89, 361, 362, 363, 2, 364, 94, 95, 96, 97, 17, 18, 327, 328, 329, 330, 331, 332, 104, 105, 106, 16, 107, 108, 43, 109, 110, 111, 112, 36, 37, 38, 39, 40, 41, 42, 117, 118, 119, 120, 121, 122, 123, 124, 125, 126, 127, 128, 129, 130, 131, 132, 133, 134, 135, 136, 137, 138, 139, 140, 141, 142, 143, 144, 145, 146, 147, 148, 163, 164, 165, 166, 23, 167, 168, 169, 170, 22, 171, 49, 172, 173, 174, 175, 176, 177, 178, 922, 923, 924, 925, 926, 927, 928, 929, 930, 931, 932, 933, 966, 967, 968, 969, 970, 971, 972, 973, 974, 975, 976, 977] (by decide +kernel) (by decide +kernel)) (goodIn_sub (fun _ h => List.mem_append_left _ (List.mem_append_left _ (List.mem_append_left _ (List.mem_append_left _ (List.mem_append_right _ h))))) (by decide +kernel))) (goodIn_sub (fun _ h => List.mem_append_left _ (List.mem_append_left _ (List.mem_append_left _ (List.mem_append_right _ h)))) (by decide +kernel))) (goodIn_sub (fun _ h => List.mem_append_left _ (List.mem_append_left _ (List.mem_append_right _ h))) (by decide +kernel))
set_option maxRecDepth 20000 in
theorem gL_law_L_setLevel : GoodIn wnL_law (va_wsS RL 154 yL_setLevel wsL_setLevel) := goodIn_app (goodIn_of _ (by decide +kernel)) ggL_law_L_setLevel
set_option maxRecDepth 20000 in
theorem ggL_law_X5_setLevel : GoodIn wnL_law wsX5_setLevel := goodIn_r _ [368, 183, 71, 341, 342, 343, 5, 344, 187, 188, 189, 190, 191, 192, 193, 194, 195, 196, 197, 72, 198, 199, 200, 201, 202, 203, 204, 205, 206, 207, 208, 209, 210, 211, 212, 213, 214, 215, 216, 217, 218, 219, 220, 221, 222, 223, 224, 225, 226, 227, 228, 229, 242, 243, 244, 245, 246, 247, 248, 249, 250, 74, 251, 934, 935, 936, 937, 938, 939, 940, 941, 942, 943, 944, 945, 946, 947, 948, 949, 950, 951, 952, 953, 954, 955, 956, 957, 958, 959, 960, 961, 962, 963, 964, 965] (by decide +kernel) (by decide +kernel)
set_option maxRecDepth 20000 in
theorem gL_law_X5_setLevel : GoodIn wnL_law (wsV RL 157 RX5 yX5_setLevel wsX5_setLevel) := goodIn_app (goodIn_of _ (by decide +kernel)) ggL_law_X5_setLevel
set_option maxRecDepth 20000 in
theorem ggL_law_L_undo : GoodIn wnL_law wsL_undo := goodIn_ca (goodIn_r _ [371, 89, 372, 373, 374, 2, 375, 96, 97, 23, 17, 167, 376, 377, 378, 22, 379, 172, 173, 49, 178, 105, 106, 16, 107, 108, 43, 109, 110, 111, 112, 36, 37, 38, 39, 40, 41, 42, 922, 923, 924, 925, 926, 927, 928, 929, 930, 931, 932, 933, 975, 976, 977, 966, 967, 968, 969, 970, 971, 972, 973, 974] (by decide +kernel) (by decide +kernel)) (goodIn_sub (fun _ h => List.mem_append_left _ (List.mem_append_left _ (List.mem_append_left _ (List.mem_append_right _ h)))) (by decide +kernel))
set_option maxRecDepth 20000 in
theorem gL_law_L_undo : GoodIn wnL_law (va_wsS RL 158 yL_undo wsL_undo) := goodIn_app (goodIn_of _ (by decide +kernel)) ggL_law_L_undo
set_option maxRecDepth 20000 in
theorem ggL_law_X5_undo : GoodIn wnL_law wsX5_undo := goodIn_r _ [383, 183, 250, 71, 74, 251, 190, 191, 192, 5, 193, 934, 935, 936, 937, 938, 939, 940, 941, 942, 943, 944, 945, 946, 947, 948, 949, 950, 951, 952, 953, 954, 955, 956, 957, 958, 959, 960, 961, 962, 963, 964, 965] (by decide +kernel) (by decide +kernel)
set_option maxRecDepth 20000 in
theorem gL_law_X5_undo : GoodIn wnL_law (wsV RL 160 RX5 yX5_undo wsX5_undo) := goodIn_app (goodIn_of _ (by decide +kernel)) ggL_law_X5_undo
set_option maxRecDepth 20000 in
theorem ggL_law_X4_taskCount : GoodIn wnL_law wsX4_taskCount := goodIn_r _ [387, 17, 922, 923, 924, 925, 926, 927, 928, 929, 930, 931, 932, 933, 966, 967, 968, 969, 970, 971, 972, 973, 974] (by decide +kernel) (by decide +kernel)
set_option maxRecDepth 20000 in
theorem gL_law_X4_taskCount : GoodIn wnL_law (wsV RL 161 RX4 yX4_taskCount wsX4_taskCount) := goodIn_app (goodIn_of _ (by decide +kernel)) ggL_law_X4_taskCount
set_option maxRecDepth 20000 in
theorem ggL_law_X5_taskCount : GoodIn wnL_law wsX5_taskCount := goodIn_r _ [391, 183, 71, 934, 935, 936, 937, 938, 939, 940, 941, 942, 943, 944, 945, 946, 947, 948, 949, 950, 951, 952, 953, 954, 955, 956, 957, 958, 959, 960, 961, 962, 963, 964, 965] (by decide +kernel) (by decide +kernel)
set_option maxRecDepth 20000 in
theorem gL_law_X5_taskCount : GoodIn wnL_law (wsV RL 164 RX5 yX5_taskCount wsX5_taskCount) := goodIn_app (goodIn_of _ (by decide +kernel)) ggL_law_X5_taskCount
set_option maxRecDepth 20000 in
theorem ggL_law_X4_scale : GoodIn wnL_law wsX4_scale := goodIn_r _ [395, 17, 922, 923, 924, 925, 926, 927, 928, 929, 930, 931, 932, 933, 966, 967, 968, 969, 970, 971, 972, 973, 974] (by decide +kernel) (by decide +kernel)
set_option maxRecDepth 20000 in
theorem gL_law_X4_scale : GoodIn wnL_law (wsV RL 165 RX4 yX4_scale wsX4_scale) := goodIn_app (goodIn_of _ (by decide +kernel)) ggL_law_X4_scale
set_option maxRecDepth 20000 in
theorem ggL_law_X5_scale : GoodIn wnL_law wsX5_scale := goodIn_r _ [399, 183, 71, 934, 935, 936, 937, 938, 939, 940, 941, 942, 943, 944, 945, 946, 947, 948, 949, 950, 951, 952, 953, 954, 955, 956, 957, 958, 959, 960, 961, 962, 963, 964, 965] (by decide +kernel) (by decide +kernel)
set_option maxRecDepth 20000 in
theorem gL_law_X5_scale : GoodIn wnL_law (wsV RL 168 RX5 yX5_scale wsX5_scale) := goodIn_app (goodIn_of _ (by decide +kernel)) ggL_law_X5_scale
set_option maxRecDepth 20000 in
theorem ggL_law_L_period : GoodIn wnL_law wsL_period := goodIn_ca (goodIn_r _ [402, 322, 403, 404, 405, 2, 406, 17, 327, 328, 329, 330, 331, 332, 407, 138, 139, 16, 140, 36, 42, 922, 923, 924, 925, 926, 927, 928, 929, 930, 931, 932, 933, 966, 967, 968, 969, 970, 971, 972, 973, 974] (by decide +kernel) (by decide +kernel)) (goodIn_sub (fun _ h => List.mem_append_left _ (List.mem_append_left _ (List.mem_append_right _ h))) (by decide +kernel))
set_option maxRecDepth 20000 in
theorem gL_law_L_period : GoodIn wnL_law (va_wsS RL 169 yL_period wsL_period) := goodIn_app (goodIn_of _ (by decide +kernel)) ggL_law_L_period
set_option maxRecDepth 20000 in
theorem ggL_law_X5_period : GoodIn wnL_law wsX5_period := goodIn_r _ [411, 183, 341, 342, 343, 5, 344, 71, 187, 188, 189, 226, 227, 228, 229, 190, 191, 192, 193, 934, 935, 936, 937, 938, 939, 940, 941, 942, 943, 944, 945, 946, 947, 948, 949, 950, 951, 952, 953, 954, 955, 956, 957, 958, 959, 960, 961, 962, 963, 964, 965] (by decide +kernel) (by decide +kernel)
set_option maxRecDepth 20000 in
theorem gL_law_X5_period : GoodIn wnL_law (wsV RL 171 RX5 yX5_period wsX5_period) := goodIn_app (goodIn_of _ (by decide +kernel)) ggL_law_X5_period
set_option maxRecDepth 20000 in
theorem ggL_law_L_deadline : GoodIn wnL_law wsL_deadline := goodIn_ca (goodIn_r _ [414, 322, 415, 416, 417, 2, 418, 17, 327, 328, 329, 330, 331, 332, 922, 923, 924, 925, 926, 927, 928, 929, 930, 931, 932, 933, 966, 967, 968, 969, 970, 971, 972, 973, 974] (by decide +kernel) (by decide +kernel)) (goodIn_sub (fun _ h => List.mem_append_left _ (List.mem_append_left _ (List.mem_append_right _ h))) (by decide +kernel))
set_option maxRecDepth 20000 in
theorem gL_law_L_deadline : GoodIn wnL_law (va_wsS RL 172 yL_deadline wsL_deadline) := goodIn_app (goodIn_of _ (by decide +kernel)) ggL_law_L_deadline
set_option maxRecDepth 20000 in
theorem ggL_law_X5_deadline : GoodIn wnL_law wsX5_deadline := goodIn_r _ [422, 183, 71, 341, 342, 343, 5, 344, 187, 188, 189, 190, 191, 192, 193, 934, 935, 936, 937, 938, 939, 940, 941, 942, 943, 944, 945, 946, 947, 948, 949, 950, 951, 952, 953, 954, 955, 956, 957, 958, 959, 960, 961, 962, 963, 964, 965] (by decide +kernel) (by decide +kernel)
set_option maxRecDepth 20000 in
theorem gL_law_X5_deadline : GoodIn wnL_law (wsV RL 174 RX5 yX5_deadline wsX5_deadline) := goodIn_app (goodIn_of _ (by decide +kernel)) ggL_law_X5_deadline
set_option maxRecDepth 20000 in
theorem ggL_law_L_virtualDeadline : GoodIn wnL_law wsL_virtualDeadline := goodIn_ca (goodIn_r _ [425, 322, 426, 427, 428, 2, 429, 17, 327, 328, 329, 330, 331, 332, 430, 134, 135, 16, 136, 39, 37, 38, 922, 923, 924, 925, 926, 927, 928, 929, 930, 931, 932, 933, 966, 967, 968, 969, 970, 971, 972, 973, 974] (by decide +kernel) (by decide +kernel)) (goodIn_sub (fun _ h => List.mem_append_left _ (List.mem_append_left _ (List.mem_append_right _ h))) (by decide +kernel))
set_option maxRecDepth 20000 in
theorem gL_law_L_virtualDeadline : GoodIn wnL_law (va_wsS RL 175 yL_virtualDeadline wsL_virtualDeadline) := goodIn_app (goodIn_of _ (by decide +kernel)) ggL_law_L_virtualDeadline
set_option maxRecDepth 20000 in
theorem ggL_law_X5_virtualDeadline : GoodIn wnL_law wsX5_virtualDeadline := goodIn_r _ [434, 183, 341, 342, 343, 5, 344, 71, 187, 188, 189, 214, 215, 216, 217, 218, 219, 220, 221, 190, 191, 192, 193, 934, 935, 936, 937, 938, 939, 940, 941, 942, 943, 944, 945, 946, 947, 948, 949, 950, 951, 952, 953, 954, 955, 956, 957, 958, 959, 960, 961, 962, 963, 964, 965] (by decide +kernel) (by decide +kernel)
set_option maxRecDepth 20000 in
theorem gL_law_X5_virtualDeadline : GoodIn wnL_law (wsV RL 177 RX5 yX5_virtualDeadline wsX5_virtualDeadline) := goodIn_app (goodIn_of _ (by decide +kernel)) ggL_law_X5_virtualDeadline
set_option maxRecDepth 20000 in
theorem ggL_law_L_budget : GoodIn wnL_law wsL_budget := goodIn_ca (goodIn_ca (goodIn_ca (goodIn_r _ [437, 322, 88, 438, 439, 440, 441, 2, 442, 443, 444, 17, 327, 328, 329, 330, 331, 332, 445, 446, 447, 94, 95, 448, 449, 450, 16, 451, 39, 922, 923, 924, 925, 926, 927, 928, 929, 930, 931, 932, 933, 966, 967, 968, 969, 970, 971, 972, 973, 974] (by decide +kernel) (by decide +kernel)) (goodIn_sub (fun _ h => List.mem_append_left _ (List.mem_append_right _ h)) (by decide +kernel))) (goodIn_sub (fun _ h => List.mem_append_left _ (List.mem_append_left _ (List.mem_append_right _ h))) (by decide +kernel))) (goodIn_sub (fun _ h => List.mem_append_left _ (List.mem_append_left _ (List.mem_append_left _ (List.mem_append_left _ (List.mem_append_right _ h))))) (by decide +kernel))
set_option maxRecDepth 20000 in
theorem gL_law_L_budget : GoodIn wnL_law (va_wsS RL 178 yL_budget wsL_budget) := goodIn_app (goodIn_of _ (by decide +kernel)) ggL_law_L_budget
set_option maxRecDepth 20000 in
theorem ggL_law_X5_budget : GoodIn wnL_law wsX5_budget := goodIn_r _ [455, 183, 71, 341, 342, 343, 5, 344, 187, 188, 189, 190, 191, 192, 193, 218, 219, 220, 221, 934, 935, 936, 937, 938, 939, 940, 941, 942, 943, 944, 945, 946, 947, 948, 949, 950, 951, 952, 953, 954, 955, 956, 957, 958, 959, 960, 961, 962, 963, 964, 965] (by decide +kernel) (by decide +kernel)
set_option maxRecDepth 20000 in
theorem gL_law_X5_budget : GoodIn wnL_law (wsV RL 180 RX5 yX5_budget wsX5_budget) := goodIn_app (goodIn_of _ (by decide +kernel)) ggL_law_X5_budget
set_option maxRecDepth 20000 in
theorem ggL_law_L_level : GoodIn wnL_law wsL_level := goodIn_ca (goodIn_r _ [458, 322, 459, 460, 461, 2, 462, 17, 327, 328, 329, 330, 331, 332, 922, 923, 924, 925, 926, 927, 928, 929, 930, 931, 932, 933, 966, 967, 968, 969, 970, 971, 972, 973, 974] (by decide +kernel) (by decide +kernel)) (goodIn_sub (fun _ h => List.mem_append_left _ (List.mem_append_left _ (List.mem_append_right _ h))) (by decide +kernel))
set_option maxRecDepth 20000 in
theorem gL_law_L_level : GoodIn wnL_law (va_wsS RL 181 yL_level wsL_level) := goodIn_app (goodIn_of _ (by decide +kernel)) ggL_law_L_level
set_option maxRecDepth 20000 in
theorem ggL_law_X5_level : GoodIn wnL_law wsX5_level := goodIn_r _ [466, 183, 71, 341, 342, 343, 5, 344, 187, 188, 189, 190, 191, 192, 193, 934, 935, 936, 937, 938, 939, 940, 941, 942, 943, 944, 945, 946, 947, 948, 949, 950, 951, 952, 953, 954, 955, 956, 957, 958, 959, 960, 961, 962, 963, 964, 965] (by decide +kernel) (by decide +kernel)
set_option maxRecDepth 20000 in
theorem gL_law_X5_level : GoodIn wnL_law (wsV RL 183 RX5 yX5_level wsX5_level) := goodIn_app (goodIn_of _ (by decide +kernel)) ggL_law_X5_level
set_option maxRecDepth 20000 in
theorem ggL_law_L_isCritical : GoodIn wnL_law wsL_isCritical := goodIn_ca (goodIn_r _ [469, 322, 470, 471, 472, 2, 473, 17, 327, 328, 329, 330, 331, 332, 448, 449, 450, 16, 451, 39, 922, 923, 924, 925, 926, 927, 928, 929, 930, 931, 932, 933, 966, 967, 968, 969, 970, 971, 972, 973, 974] (by decide +kernel) (by decide +kernel)) (goodIn_sub (fun _ h => List.mem_append_left _ (List.mem_append_left _ (List.mem_append_right _ h))) (by decide +kernel))
set_option maxRecDepth 20000 in
theorem gL_law_L_isCritical : GoodIn wnL_law (va_wsS RL 184 yL_isCritical wsL_isCritical) := goodIn_app (goodIn_of _ (by decide +kernel)) ggL_law_L_isCritical
set_option maxRecDepth 20000 in
theorem ggL_law_X5_isCritical : GoodIn wnL_law wsX5_isCritical := goodIn_r _ [477, 183, 341, 342, 343, 5, 344, 71, 187, 188, 189, 218, 219, 220, 221, 934, 935, 936, 937, 938, 939, 940, 941, 942, 943, 944, 945, 946, 947, 948, 949, 950, 951, 952, 953, 954, 955, 956, 957, 958, 959, 960, 961, 962, 963, 964, 965] (by decide +kernel) (by decide +kernel)
set_option maxRecDepth 20000 in
theorem gL_law_X5_isCritical : GoodIn wnL_law (wsV RL 186 RX5 yX5_isCritical wsX5_isCritical) := goodIn_app (goodIn_of _ (by decide +kernel)) ggL_law_X5_isCritical
set_option maxRecDepth 20000 in
theorem ggL_law_L_demand : GoodIn wnL_law wsL_demand := goodIn_ca (goodIn_r _ [480, 88, 481, 482, 483, 2, 484, 94, 95, 17, 445, 446, 447, 162, 130, 131, 16, 132, 108, 39, 37, 133, 134, 135, 136, 38, 137, 138, 139, 140, 36, 42, 141, 142, 143, 144, 145, 146, 147, 148, 922, 923, 924, 925, 926, 927, 928, 929, 930, 931, 932, 933, 966, 967, 968, 969, 970, 971, 972, 973, 974] (by decide +kernel) (by decide +kernel)) (goodIn_sub (fun _ h => List.mem_append_left _ (List.mem_append_left _ (List.mem_append_left _ (List.mem_append_left _ (List.mem_append_right _ h))))) (by decide +kernel))
set_option maxRecDepth 20000 in
theorem gL_law_L_demand : GoodIn wnL_law (va_wsS RL 187 yL_demand wsL_demand) := goodIn_app (goodIn_of _ (by decide +kernel)) ggL_law_L_demand
set_option maxRecDepth 20000 in
theorem ggL_law_X5_demand : GoodIn wnL_law wsX5_demand := goodIn_r _ [488, 183, 187, 188, 5, 189, 210, 211, 212, 213, 71, 214, 215, 216, 217, 218, 219, 220, 221, 222, 223, 224, 225, 226, 227, 228, 229, 190, 191, 192, 193, 934, 935, 936, 937, 938, 939, 940, 941, 942, 943, 944, 945, 946, 947, 948, 949, 950, 951, 952, 953, 954, 955, 956, 957, 958, 959, 960, 961, 962, 963, 964, 965] (by decide +kernel) (by decide +kernel)
set_option maxRecDepth 20000 in
theorem gL_law_X5_demand : GoodIn wnL_law (wsV RL 189 RX5 yX5_demand wsX5_demand) := goodIn_app (goodIn_of _ (by decide +kernel)) ggL_law_X5_demand
set_option maxRecDepth 20000 in
theorem ggL_law_L_slack : GoodIn wnL_law wsL_slack := goodIn_ca (goodIn_r _ [491, 88, 492, 493, 494, 2, 495, 445, 446, 447, 94, 95, 496, 497, 498, 499, 500, 501, 502, 503, 17, 162, 130, 131, 16, 132, 108, 39, 37, 133, 134, 135, 136, 38, 137, 138, 139, 140, 36, 42, 141, 142, 143, 144, 145, 146, 147, 148, 922, 923, 924, 925, 926, 927, 928, 929, 930, 931, 932, 933, 966, 967, 968, 969, 970, 971, 972, 973, 974] (by decide +kernel) (by decide +kernel)) (goodIn_sub (fun _ h => List.mem_append_left _ (List.mem_append_left _ (List.mem_append_left _ (List.mem_append_left _ (List.mem_append_right _ h))))) (by decide +kernel))
set_option maxRecDepth 20000 in
theorem gL_law_L_slack : GoodIn wnL_law (va_wsS RL 190 yL_slack wsL_slack) := goodIn_app (goodIn_of _ (by decide +kernel)) ggL_law_L_slack
set_option maxRecDepth 20000 in
theorem ggL_law_X5_slack : GoodIn wnL_law wsX5_slack := goodIn_r _ [507, 183, 187, 188, 5, 189, 190, 191, 192, 193, 508, 509, 510, 511, 210, 211, 212, 213, 71, 214, 215, 216, 217, 218, 219, 220, 221, 222, 223, 224, 225, 226, 227, 228, 229, 934, 935, 936, 937, 938, 939, 940, 941, 942, 943, 944, 945, 946, 947, 948, 949, 950, 951, 952, 953, 954, 955, 956, 957, 958, 959, 960, 961, 962, 963, 964, 965] (by decide +kernel) (by decide +kernel)
set_option maxRecDepth 20000 in
theorem gL_law_X5_slack : GoodIn wnL_law (wsV RL 192 RX5 yX5_slack wsX5_slack) := goodIn_app (goodIn_of _ (by decide +kernel)) ggL_law_X5_slack
set_option maxRecDepth 20000 in
theorem ggL_law_L_tightest : GoodIn wnL_law wsL_tightest := goodIn_ca (goodIn_r _ [514, 88, 515, 516, 517, 2, 518, 445, 446, 447, 94, 95, 496, 497, 498, 499, 500, 501, 502, 503, 17, 162, 130, 131, 16, 132, 108, 39, 37, 133, 134, 135, 136, 38, 137, 138, 139, 140, 36, 42, 141, 142, 143, 144, 145, 146, 147, 148, 922, 923, 924, 925, 926, 927, 928, 929, 930, 931, 932, 933, 966, 967, 968, 969, 970, 971, 972, 973, 974] (by decide +kernel) (by decide +kernel)) (goodIn_sub (fun _ h => List.mem_append_left _ (List.mem_append_left _ (List.mem_append_left _ (List.mem_append_left _ (List.mem_append_right _ h))))) (by decide +kernel))
set_option maxRecDepth 20000 in
theorem gL_law_L_tightest : GoodIn wnL_law (va_wsS RL 193 yL_tightest wsL_tightest) := goodIn_app (goodIn_of _ (by decide +kernel)) ggL_law_L_tightest
set_option maxRecDepth 20000 in
theorem ggL_law_X5_tightest : GoodIn wnL_law wsX5_tightest := goodIn_r _ [522, 183, 187, 188, 5, 189, 508, 509, 510, 511, 210, 211, 212, 213, 71, 214, 215, 216, 217, 218, 219, 220, 221, 222, 223, 224, 225, 226, 227, 228, 229, 190, 191, 192, 193, 934, 935, 936, 937, 938, 939, 940, 941, 942, 943, 944, 945, 946, 947, 948, 949, 950, 951, 952, 953, 954, 955, 956, 957, 958, 959, 960, 961, 962, 963, 964, 965] (by decide +kernel) (by decide +kernel)
set_option maxRecDepth 20000 in
theorem gL_law_X5_tightest : GoodIn wnL_law (wsV RL 195 RX5 yX5_tightest wsX5_tightest) := goodIn_app (goodIn_of _ (by decide +kernel)) ggL_law_X5_tightest
set_option maxRecDepth 20000 in
theorem ggL_law_L_passes : GoodIn wnL_law wsL_passes := goodIn_ca (goodIn_r _ [525, 88, 526, 527, 528, 2, 529, 94, 95, 17, 445, 446, 447, 161, 126, 127, 16, 128, 129, 130, 131, 132, 108, 39, 37, 133, 134, 135, 136, 38, 137, 138, 139, 140, 36, 42, 141, 142, 143, 144, 145, 146, 147, 148, 922, 923, 924, 925, 926, 927, 928, 929, 930, 931, 932, 933, 966, 967, 968, 969, 970, 971, 972, 973, 974] (by decide +kernel) (by decide +kernel)) (goodIn_sub (fun _ h => List.mem_append_left _ (List.mem_append_left _ (List.mem_append_left _ (List.mem_append_left _ (List.mem_append_right _ h))))) (by decide +kernel))
set_option maxRecDepth 20000 in
theorem gL_law_L_passes : GoodIn wnL_law (va_wsS RL 196 yL_passes wsL_passes) := goodIn_app (goodIn_of _ (by decide +kernel)) ggL_law_L_passes
set_option maxRecDepth 20000 in
theorem ggL_law_X5_passes : GoodIn wnL_law wsX5_passes := goodIn_r _ [533, 183, 71, 187, 188, 5, 189, 202, 203, 204, 205, 206, 207, 208, 209, 210, 211, 212, 213, 214, 215, 216, 217, 218, 219, 220, 221, 222, 223, 224, 225, 226, 227, 228, 229, 934, 935, 936, 937, 938, 939, 940, 941, 942, 943, 944, 945, 946, 947, 948, 949, 950, 951, 952, 953, 954, 955, 956, 957, 958, 959, 960, 961, 962, 963, 964, 965] (by decide +kernel) (by decide +kernel)
set_option maxRecDepth 20000 in
theorem gL_law_X5_passes : GoodIn wnL_law (wsV RL 198 RX5 yX5_passes wsX5_passes) := goodIn_app (goodIn_of _ (by decide +kernel)) ggL_law_X5_passes
set_option maxRecDepth 20000 in
theorem ggL_law_X4_feasibleScales : GoodIn wnL_law wsX4_feasibleScales := goodIn_r _ [537, 17, 538, 122, 123, 16, 124, 125, 126, 127, 128, 129, 130, 131, 132, 108, 39, 37, 133, 134, 135, 136, 38, 137, 138, 139, 140, 36, 42, 141, 142, 143, 144, 145, 146, 147, 148, 922, 923, 924, 925, 926, 927, 928, 929, 930, 931, 932, 933, 966, 967, 968, 969, 970, 971, 972, 973, 974] (by decide +kernel) (by decide +kernel)
set_option maxRecDepth 20000 in
theorem gL_law_X4_feasibleScales : GoodIn wnL_law (wsV RL 199 RX4 yX4_feasibleScales wsX4_feasibleScales) := goodIn_app (goodIn_of _ (by decide +kernel)) ggL_law_X4_feasibleScales
set_option maxRecDepth 20000 in
theorem ggL_law_X5_feasibleScales : GoodIn wnL_law wsX5_feasibleScales := goodIn_r _ [542, 183, 71, 202, 203, 204, 5, 205, 206, 207, 208, 209, 210, 211, 212, 213, 214, 215, 216, 217, 218, 219, 220, 221, 222, 223, 224, 225, 226, 227, 228, 229, 187, 188, 189, 934, 935, 936, 937, 938, 939, 940, 941, 942, 943, 944, 945, 946, 947, 948, 949, 950, 951, 952, 953, 954, 955, 956, 957, 958, 959, 960, 961, 962, 963, 964, 965] (by decide +kernel) (by decide +kernel)
set_option maxRecDepth 20000 in
theorem gL_law_X5_feasibleScales : GoodIn wnL_law (wsV RL 202 RX5 yX5_feasibleScales wsX5_feasibleScales) := goodIn_app (goodIn_of _ (by decide +kernel)) ggL_law_X5_feasibleScales
set_option maxRecDepth 20000 in
theorem ggL_law_L_utilization : GoodIn wnL_law wsL_utilization := goodIn_ca (goodIn_r _ [545, 88, 546, 547, 548, 2, 549, 17, 445, 446, 447, 94, 95, 407, 138, 139, 16, 140, 36, 42, 448, 449, 450, 451, 39, 922, 923, 924, 925, 926, 927, 928, 929, 930, 931, 932, 933, 966, 967, 968, 969, 970, 971, 972, 973, 974] (by decide +kernel) (by decide +kernel)) (goodIn_sub (fun _ h => List.mem_append_left _ (List.mem_append_left _ (List.mem_append_left _ (List.mem_append_left _ (List.mem_append_right _ h))))) (by decide +kernel))
set_option maxRecDepth 20000 in
theorem gL_law_L_utilization : GoodIn wnL_law (va_wsS RL 203 yL_utilization wsL_utilization) := goodIn_app (goodIn_of _ (by decide +kernel)) ggL_law_L_utilization
set_option maxRecDepth 20000 in
theorem ggL_law_X5_utilization : GoodIn wnL_law wsX5_utilization := goodIn_r _ [553, 183, 187, 188, 5, 189, 554, 555, 556, 557, 71, 218, 219, 220, 221, 226, 227, 228, 229, 934, 935, 936, 937, 938, 939, 940, 941, 942, 943, 944, 945, 946, 947, 948, 949, 950, 951, 952, 953, 954, 955, 956, 957, 958, 959, 960, 961, 962, 963, 964, 965] (by decide +kernel) (by decide +kernel)
set_option maxRecDepth 20000 in
theorem gL_law_X5_utilization : GoodIn wnL_law (wsV RL 206 RX5 yX5_utilization wsX5_utilization) := goodIn_app (goodIn_of _ (by decide +kernel)) ggL_law_X5_utilization
set_option maxRecDepth 20000 in
theorem ggL_law_L_utilizationBits : GoodIn wnL_law wsL_utilizationBits := goodIn_ca (goodIn_r _ [560, 88, 561, 562, 563, 2, 564, 565, 547, 548, 549, 17, 445, 446, 447, 94, 95, 407, 138, 139, 16, 140, 36, 42, 448, 449, 450, 451, 39, 566, 567, 568, 569, 570, 922, 923, 924, 925, 926, 927, 928, 929, 930, 931, 932, 933, 966, 967, 968, 969, 970, 971, 972, 973, 974] (by decide +kernel) (by decide +kernel)) (goodIn_sub (fun _ h => List.mem_append_left _ (List.mem_append_left _ (List.mem_append_left _ (List.mem_append_left _ (List.mem_append_right _ h))))) (by decide +kernel))
set_option maxRecDepth 20000 in
theorem gL_law_L_utilizationBits : GoodIn wnL_law (va_wsS RL 207 yL_utilizationBits wsL_utilizationBits) := goodIn_app (goodIn_of _ (by decide +kernel)) ggL_law_L_utilizationBits
set_option maxRecDepth 20000 in
theorem ggL_law_X5_utilizationBits : GoodIn wnL_law wsX5_utilizationBits := goodIn_r _ [574, 183, 187, 188, 5, 189, 554, 555, 556, 557, 71, 218, 219, 220, 221, 226, 227, 228, 229, 575, 576, 577, 578, 579, 580, 581, 582, 583, 584, 585, 586, 934, 935, 936, 937, 938, 939, 940, 941, 942, 943, 944, 945, 946, 947, 948, 949, 950, 951, 952, 953, 954, 955, 956, 957, 958, 959, 960, 961, 962, 963, 964, 965] (by decide +kernel) (by decide +kernel)
set_option maxRecDepth 20000 in
theorem gL_law_X5_utilizationBits : GoodIn wnL_law (wsV RL 209 RX5 yX5_utilizationBits wsX5_utilizationBits) := goodIn_app (goodIn_of _ (by decide +kernel)) ggL_law_X5_utilizationBits
set_option maxRecDepth 20000 in
theorem ggL_law_L_load : GoodIn wnL_law wsL_load := goodIn_ca (goodIn_r _ [589, 88, 590, 591, 592, 2, 593, 17, 445, 446, 447, 94, 95, 162, 130, 131, 16, 132, 108, 39, 37, 133, 134, 135, 136, 38, 137, 138, 139, 140, 36, 42, 141, 142, 143, 144, 145, 146, 147, 148, 922, 923, 924, 925, 926, 927, 928, 929, 930, 931, 932, 933, 966, 967, 968, 969, 970, 971, 972, 973, 974] (by decide +kernel) (by decide +kernel)) (goodIn_sub (fun _ h => List.mem_append_left _ (List.mem_append_left _ (List.mem_append_left _ (List.mem_append_left _ (List.mem_append_right _ h))))) (by decide +kernel))
set_option maxRecDepth 20000 in
theorem gL_law_L_load : GoodIn wnL_law (va_wsS RL 210 yL_load wsL_load) := goodIn_app (goodIn_of _ (by decide +kernel)) ggL_law_L_load
set_option maxRecDepth 20000 in
theorem ggL_law_X5_load : GoodIn wnL_law wsX5_load := goodIn_r _ [597, 183, 187, 188, 5, 189, 598, 599, 600, 601, 210, 211, 212, 213, 71, 214, 215, 216, 217, 218, 219, 220, 221, 222, 223, 224, 225, 226, 227, 228, 229, 934, 935, 936, 937, 938, 939, 940, 941, 942, 943, 944, 945, 946, 947, 948, 949, 950, 951, 952, 953, 954, 955, 956, 957, 958, 959, 960, 961, 962, 963, 964, 965] (by decide +kernel) (by decide +kernel)
set_option maxRecDepth 20000 in
theorem gL_law_X5_load : GoodIn wnL_law (wsV RL 212 RX5 yX5_load wsX5_load) := goodIn_app (goodIn_of _ (by decide +kernel)) ggL_law_X5_load
set_option maxRecDepth 20000 in
theorem ggL_law_L_loadBits : GoodIn wnL_law wsL_loadBits := goodIn_ca (goodIn_r _ [604, 88, 605, 606, 607, 2, 608, 609, 591, 592, 593, 17, 445, 446, 447, 94, 95, 162, 130, 131, 16, 132, 108, 39, 37, 133, 134, 135, 136, 38, 137, 138, 139, 140, 36, 42, 141, 142, 143, 144, 145, 146, 147, 148, 610, 611, 612, 613, 922, 923, 924, 925, 926, 927, 928, 929, 930, 931, 932, 933, 966, 967, 968, 969, 970, 971, 972, 973, 974] (by decide +kernel) (by decide +kernel)) (goodIn_sub (fun _ h => List.mem_append_left _ (List.mem_append_left _ (List.mem_append_left _ (List.mem_append_left _ (List.mem_append_right _ h))))) (by decide +kernel))
set_option maxRecDepth 20000 in
theorem gL_law_L_loadBits : GoodIn wnL_law (va_wsS RL 213 yL_loadBits wsL_loadBits) := goodIn_app (goodIn_of _ (by decide +kernel)) ggL_law_L_loadBits
set_option maxRecDepth 20000 in
theorem ggL_law_X5_loadBits : GoodIn wnL_law wsX5_loadBits := goodIn_r _ [617, 183, 187, 188, 5, 189, 598, 599, 600, 601, 210, 211, 212, 213, 71, 214, 215, 216, 217, 218, 219, 220, 221, 222, 223, 224, 225, 226, 227, 228, 229, 618, 619, 620, 621, 622, 623, 624, 625, 626, 627, 628, 629, 934, 935, 936, 937, 938, 939, 940, 941, 942, 943, 944, 945, 946, 947, 948, 949, 950, 951, 952, 953, 954, 955, 956, 957, 958, 959, 960, 961, 962, 963, 964, 965] (by decide +kernel) (by decide +kernel)
set_option maxRecDepth 20000 in
theorem gL_law_X5_loadBits : GoodIn wnL_law (wsV RL 215 RX5 yX5_loadBits wsX5_loadBits) := goodIn_app (goodIn_of _ (by decide +kernel)) ggL_law_X5_loadBits
set_option maxRecDepth 20000 in
theorem ggL_law_X4_descentLength : GoodIn wnL_law wsX4_descentLength := goodIn_r _ [633, 17, 634, 635, 636, 16, 637, 108, 43, 638, 639, 176, 640, 133, 134, 135, 136, 39, 37, 38, 137, 138, 139, 140, 36, 42, 641, 642, 643, 2, 644, 162, 130, 131, 132, 141, 142, 143, 144, 145, 146, 147, 148, 645, 646, 647, 648, 649, 175, 177, 922, 923, 924, 925, 926, 927, 928, 929, 930, 931, 932, 933, 966, 967, 968, 969, 970, 971, 972, 973, 974] (by decide +kernel) (by decide +kernel)
set_option maxRecDepth 20000 in
theorem gL_law_X4_descentLength : GoodIn wnL_law (wsV RL 216 RX4 yX4_descentLength wsX4_descentLength) := goodIn_app (goodIn_of _ (by decide +kernel)) ggL_law_X4_descentLength
set_option maxRecDepth 20000 in
theorem ggL_law_X5_descentLength : GoodIn wnL_law wsX5_descentLength := goodIn_r _ [653, 183, 654, 655, 656, 657, 5, 658, 71, 79, 659, 660, 661, 662, 214, 215, 216, 217, 218, 219, 220, 221, 226, 227, 228, 229, 663, 664, 665, 666, 210, 211, 212, 213, 222, 223, 224, 225, 187, 188, 189, 934, 935, 936, 937, 938, 939, 940, 941, 942, 943, 944, 945, 946, 947, 948, 949, 950, 951, 952, 953, 954, 955, 956, 957, 958, 959, 960, 961, 962, 963, 964, 965] (by decide +kernel) (by decide +kernel)
set_option maxRecDepth 20000 in
theorem gL_law_X5_descentLength : GoodIn wnL_law (wsV RL 219 RX5 yX5_descentLength wsX5_descentLength) := goodIn_app (goodIn_of _ (by decide +kernel)) ggL_law_X5_descentLength
set_option maxRecDepth 20000 in
theorem ggL_law_L_descentPoint : GoodIn wnL_law wsL_descentPoint := goodIn_ca (goodIn_r _ [669, 322, 670, 671, 672, 2, 673, 331, 332, 17, 634, 635, 636, 16, 637, 108, 43, 638, 639, 176, 640, 133, 134, 135, 136, 39, 37, 38, 137, 138, 139, 140, 36, 42, 641, 642, 643, 644, 162, 130, 131, 132, 141, 142, 143, 144, 145, 146, 147, 148, 645, 646, 647, 648, 649, 175, 177, 922, 923, 924, 925, 926, 927, 928, 929, 930, 931, 932, 933, 966, 967, 968, 969, 970, 971, 972, 973, 974] (by decide +kernel) (by decide +kernel)) (goodIn_sub (fun _ h => List.mem_append_left _ (List.mem_append_left _ (List.mem_append_right _ h))) (by decide +kernel))
set_option maxRecDepth 20000 in
theorem gL_law_L_descentPoint : GoodIn wnL_law (va_wsS RL 220 yL_descentPoint wsL_descentPoint) := goodIn_app (goodIn_of _ (by decide +kernel)) ggL_law_L_descentPoint
set_option maxRecDepth 20000 in
theorem ggL_law_X5_descentPoint : GoodIn wnL_law wsX5_descentPoint := goodIn_r _ [677, 183, 654, 79, 655, 656, 657, 5, 658, 71, 659, 660, 661, 662, 214, 215, 216, 217, 218, 219, 220, 221, 226, 227, 228, 229, 663, 664, 665, 666, 210, 211, 212, 213, 222, 223, 224, 225, 187, 188, 189, 190, 191, 192, 193, 934, 935, 936, 937, 938, 939, 940, 941, 942, 943, 944, 945, 946, 947, 948, 949, 950, 951, 952, 953, 954, 955, 956, 957, 958, 959, 960, 961, 962, 963, 964, 965] (by decide +kernel) (by decide +kernel)
set_option maxRecDepth 20000 in
theorem gL_law_X5_descentPoint : GoodIn wnL_law (wsV RL 222 RX5 yX5_descentPoint wsX5_descentPoint) := goodIn_app (goodIn_of _ (by decide +kernel)) ggL_law_X5_descentPoint
set_option maxRecDepth 20000 in
theorem ggL_law_L_rejectionMode : GoodIn wnL_law wnL_rejectionMode := goodIn_ca (goodIn_r _ [680, 681, 682, 683, 684, 2, 685, 157, 686, 687, 688, 689, 690, 691, 160, 922, 923, 924, 925, 926, 927, 928, 929, 930, 931, 932, 933] (by decide +kernel) (by decide +kernel)) (goodIn_sub (fun _ h => List.mem_append_right _ h) (by decide +kernel))
set_option maxRecDepth 20000 in
theorem gL_law_L_rejectionMode : GoodIn wnL_law (va_wsS RL 223 yL_rejectionMode wnL_rejectionMode) := goodIn_app (goodIn_of _ (by decide +kernel)) ggL_law_L_rejectionMode
set_option maxRecDepth 20000 in
theorem ggL_law_X5_rejectionMode : GoodIn wnL_law wsX5_rejectionMode := goodIn_r _ [695, 239, 696, 697, 698, 5, 699, 238, 183, 934, 935, 936, 937, 938, 939, 940, 941, 942, 943, 944, 945, 946, 947, 948, 949, 950, 951, 952, 953, 954, 955, 956, 957, 958, 959, 960, 961, 962, 963, 964, 965] (by decide +kernel) (by decide +kernel)
set_option maxRecDepth 20000 in
theorem gL_law_X5_rejectionMode : GoodIn wnL_law (wsV RL 225 RX5 yX5_rejectionMode wsX5_rejectionMode) := goodIn_app (goodIn_of _ (by decide +kernel)) ggL_law_X5_rejectionMode
set_option maxRecDepth 20000 in
theorem ggL_law_L_rejectionLength : GoodIn wnL_law wnL_rejectionLength := goodIn_ca (goodIn_r _ [702, 681, 703, 704, 705, 2, 706, 158, 686, 687, 688, 689, 690, 691, 160, 922, 923, 924, 925, 926, 927, 928, 929, 930, 931, 932, 933] (by decide +kernel) (by decide +kernel)) (goodIn_sub (fun _ h => List.mem_append_right _ h) (by decide +kernel))
set_option maxRecDepth 20000 in
theorem gL_law_L_rejectionLength : GoodIn wnL_law (va_wsS RL 226 yL_rejectionLength wnL_rejectionLength) := goodIn_app (goodIn_of _ (by decide +kernel)) ggL_law_L_rejectionLength
set_option maxRecDepth 20000 in
theorem ggL_law_X5_rejectionLength : GoodIn wnL_law wsX5_rejectionLength := goodIn_r _ [710, 240, 696, 697, 698, 5, 699, 238, 183, 934, 935, 936, 937, 938, 939, 940, 941, 942, 943, 944, 945, 946, 947, 948, 949, 950, 951, 952, 953, 954, 955, 956, 957, 958, 959, 960, 961, 962, 963, 964, 965] (by decide +kernel) (by decide +kernel)
set_option maxRecDepth 20000 in
theorem gL_law_X5_rejectionLength : GoodIn wnL_law (wsV RL 228 RX5 yX5_rejectionLength wsX5_rejectionLength) := goodIn_app (goodIn_of _ (by decide +kernel)) ggL_law_X5_rejectionLength
set_option maxRecDepth 20000 in
theorem ggL_law_L_rejectionDemand : GoodIn wnL_law wnL_rejectionDemand := goodIn_ca (goodIn_r _ [713, 681, 714, 715, 716, 2, 717, 159, 686, 687, 688, 689, 690, 691, 160, 922, 923, 924, 925, 926, 927, 928, 929, 930, 931, 932, 933] (by decide +kernel) (by decide +kernel)) (goodIn_sub (fun _ h => List.mem_append_right _ h) (by decide +kernel))
set_option maxRecDepth 20000 in
theorem gL_law_L_rejectionDemand : GoodIn wnL_law (va_wsS RL 229 yL_rejectionDemand wnL_rejectionDemand) := goodIn_app (goodIn_of _ (by decide +kernel)) ggL_law_L_rejectionDemand
set_option maxRecDepth 20000 in
theorem ggL_law_X5_rejectionDemand : GoodIn wnL_law wsX5_rejectionDemand := goodIn_r _ [721, 241, 696, 697, 698, 5, 699, 238, 183, 934, 935, 936, 937, 938, 939, 940, 941, 942, 943, 944, 945, 946, 947, 948, 949, 950, 951, 952, 953, 954, 955, 956, 957, 958, 959, 960, 961, 962, 963, 964, 965] (by decide +kernel) (by decide +kernel)
set_option maxRecDepth 20000 in
theorem gL_law_X5_rejectionDemand : GoodIn wnL_law (wsV RL 231 RX5 yX5_rejectionDemand wsX5_rejectionDemand) := goodIn_app (goodIn_of _ (by decide +kernel)) ggL_law_X5_rejectionDemand
set_option maxRecDepth 20000 in
theorem ggL_law_L_simulate : GoodIn wnL_law wsL_simulate := goodIn_ca (goodIn_r _ [724, 88, 725, 726, 727, 2, 728, 94, 95, 31, 17, 167, 729, 730, 731, 30, 732, 60, 733, 734, 735, 175, 176, 177, 736, 737, 738, 739, 740, 741, 742, 61, 66, 743, 744, 745, 746, 747, 105, 106, 16, 107, 108, 43, 109, 110, 111, 112, 36, 37, 38, 39, 40, 41, 42, 748, 749, 750, 751, 752, 753, 754, 755, 62, 756, 134, 135, 136, 757, 758, 759, 760, 761, 138, 139, 140, 762, 449, 450, 451, 763, 764, 765, 766, 65, 63, 767, 768, 769, 770, 771, 772, 773, 774, 775, 776, 777, 778, 779, 780, 639, 640, 781, 782, 783, 784, 785, 786, 787, 788, 789, 790, 791, 792, 922, 923, 924, 925, 926, 927, 928, 929, 930, 931, 932, 933, 982, 983, 984, 985, 986, 987, 988, 989, 990, 991, 992, 993, 994, 995, 996, 966, 967, 968, 969, 970, 971, 972, 973, 974] (by decide +kernel) (by decide +kernel)) (goodIn_sub (fun _ h => List.mem_append_left _ (List.mem_append_left _ (List.mem_append_left _ (List.mem_append_left _ (List.mem_append_right _ h))))) (by decide +kernel))
set_option maxRecDepth 20000 in
theorem gL_law_L_simulate : GoodIn wnL_law (va_wsS RL 232 yL_simulate wsL_simulate) := goodIn_app (goodIn_of _ (by decide +kernel)) ggL_law_L_simulate
set_option maxRecDepth 20000 in
theorem ggL_law_X5_simulate : GoodIn wnL_law wsX5_simulate := goodIn_r _ [796, 183, 251, 797, 798, 799, 800, 801, 802, 803, 804, 77, 81, 71, 80, 187, 188, 5, 189, 190, 191, 192, 193, 805, 806, 807, 808, 226, 227, 228, 229, 218, 219, 220, 221, 809, 810, 811, 812, 82, 83, 813, 814, 815, 816, 817, 818, 819, 820, 821, 822, 823, 824, 825, 214, 215, 216, 217, 826, 827, 828, 829, 830, 831, 832, 833, 834, 835, 836, 837, 934, 935, 936, 937, 938, 939, 940, 941, 942, 943, 944, 945, 946, 947, 948, 949, 950, 951, 952, 953, 954, 955, 956, 957, 958, 959, 960, 961, 962, 963, 964, 965] (by decide +kernel) (by decide +kernel)
set_option maxRecDepth 20000 in
theorem gL_law_X5_simulate : GoodIn wnL_law (wsV RL 235 RX5 yX5_simulate wsX5_simulate) := goodIn_app (goodIn_of _ (by decide +kernel)) ggL_law_X5_simulate
set_option maxRecDepth 20000 in
theorem ggL_law_L_completed : GoodIn wnL_law wsL_completed := goodIn_ca (goodIn_r _ [840, 89, 841, 842, 843, 2, 844, 31, 845, 846, 847, 848, 96, 97, 167, 922, 923, 924, 925, 926, 927, 928, 929, 930, 931, 932, 933, 982, 983, 984, 985, 986, 987, 988, 989, 990, 991, 992, 993, 994, 995, 996] (by decide +kernel) (by decide +kernel)) (goodIn_sub (fun _ h => List.mem_append_left _ (List.mem_append_left _ (List.mem_append_left _ (List.mem_append_right _ h)))) (by decide +kernel))
set_option maxRecDepth 20000 in
theorem gL_law_L_completed : GoodIn wnL_law (va_wsS RL 236 yL_completed wsL_completed) := goodIn_app (goodIn_of _ (by decide +kernel)) ggL_law_L_completed
set_option maxRecDepth 20000 in
theorem ggL_law_X5_completed : GoodIn wnL_law wsX5_completed := goodIn_r _ [852, 797, 853, 854, 855, 5, 856, 251, 183, 934, 935, 936, 937, 938, 939, 940, 941, 942, 943, 944, 945, 946, 947, 948, 949, 950, 951, 952, 953, 954, 955, 956, 957, 958, 959, 960, 961, 962, 963, 964, 965] (by decide +kernel) (by decide +kernel)
set_option maxRecDepth 20000 in
theorem gL_law_X5_completed : GoodIn wnL_law (wsV RL 238 RX5 yX5_completed wsX5_completed) := goodIn_app (goodIn_of _ (by decide +kernel)) ggL_law_X5_completed
set_option maxRecDepth 20000 in
theorem ggL_law_L_dropped : GoodIn wnL_law wsL_dropped := goodIn_ca (goodIn_r _ [859, 89, 860, 861, 862, 2, 863, 31, 845, 846, 847, 848, 96, 97, 167, 922, 923, 924, 925, 926, 927, 928, 929, 930, 931, 932, 933, 982, 983, 984, 985, 986, 987, 988, 989, 990, 991, 992, 993, 994, 995, 996] (by decide +kernel) (by decide +kernel)) (goodIn_sub (fun _ h => List.mem_append_left _ (List.mem_append_left _ (List.mem_append_left _ (List.mem_append_right _ h)))) (by decide +kernel))
set_option maxRecDepth 20000 in
theorem gL_law_L_dropped : GoodIn wnL_law (va_wsS RL 239 yL_dropped wsL_dropped) := goodIn_app (goodIn_of _ (by decide +kernel)) ggL_law_L_dropped
set_option maxRecDepth 20000 in
theorem ggL_law_X5_dropped : GoodIn wnL_law wsX5_dropped := goodIn_r _ [867, 798, 853, 854, 855, 5, 856, 251, 183, 934, 935, 936, 937, 938, 939, 940, 941, 942, 943, 944, 945, 946, 947, 948, 949, 950, 951, 952, 953, 954, 955, 956, 957, 958, 959, 960, 961, 962, 963, 964, 965] (by decide +kernel) (by decide +kernel)
set_option maxRecDepth 20000 in
theorem gL_law_X5_dropped : GoodIn wnL_law (wsV RL 241 RX5 yX5_dropped wsX5_dropped) := goodIn_app (goodIn_of _ (by decide +kernel)) ggL_law_X5_dropped
set_option maxRecDepth 20000 in
theorem ggL_law_L_switches : GoodIn wnL_law wsL_switches := goodIn_ca (goodIn_r _ [870, 89, 871, 872, 873, 2, 874, 31, 845, 846, 847, 848, 96, 97, 167, 922, 923, 924, 925, 926, 927, 928, 929, 930, 931, 932, 933, 982, 983, 984, 985, 986, 987, 988, 989, 990, 991, 992, 993, 994, 995, 996] (by decide +kernel) (by decide +kernel)) (goodIn_sub (fun _ h => List.mem_append_left _ (List.mem_append_left _ (List.mem_append_left _ (List.mem_append_right _ h)))) (by decide +kernel))
set_option maxRecDepth 20000 in
theorem gL_law_L_switches : GoodIn wnL_law (va_wsS RL 242 yL_switches wsL_switches) := goodIn_app (goodIn_of _ (by decide +kernel)) ggL_law_L_switches
set_option maxRecDepth 20000 in
theorem ggL_law_X5_switches : GoodIn wnL_law wsX5_switches := goodIn_r _ [878, 799, 853, 854, 855, 5, 856, 251, 183, 934, 935, 936, 937, 938, 939, 940, 941, 942, 943, 944, 945, 946, 947, 948, 949, 950, 951, 952, 953, 954, 955, 956, 957, 958, 959, 960, 961, 962, 963, 964, 965] (by decide +kernel) (by decide +kernel)
set_option maxRecDepth 20000 in
theorem gL_law_X5_switches : GoodIn wnL_law (wsV RL 244 RX5 yX5_switches wsX5_switches) := goodIn_app (goodIn_of _ (by decide +kernel)) ggL_law_X5_switches
set_option maxRecDepth 20000 in
theorem ggL_law_L_idleUnits : GoodIn wnL_law wsL_idleUnits := goodIn_ca (goodIn_r _ [881, 89, 882, 883, 884, 2, 885, 31, 845, 846, 847, 848, 96, 97, 167, 922, 923, 924, 925, 926, 927, 928, 929, 930, 931, 932, 933, 982, 983, 984, 985, 986, 987, 988, 989, 990, 991, 992, 993, 994, 995, 996] (by decide +kernel) (by decide +kernel)) (goodIn_sub (fun _ h => List.mem_append_left _ (List.mem_append_left _ (List.mem_append_left _ (List.mem_append_right _ h)))) (by decide +kernel))
set_option maxRecDepth 20000 in
theorem gL_law_L_idleUnits : GoodIn wnL_law (va_wsS RL 245 yL_idleUnits wsL_idleUnits) := goodIn_app (goodIn_of _ (by decide +kernel)) ggL_law_L_idleUnits
set_option maxRecDepth 20000 in
theorem ggL_law_X5_idleUnits : GoodIn wnL_law wsX5_idleUnits := goodIn_r _ [889, 800, 853, 854, 855, 5, 856, 251, 183, 934, 935, 936, 937, 938, 939, 940, 941, 942, 943, 944, 945, 946, 947, 948, 949, 950, 951, 952, 953, 954, 955, 956, 957, 958, 959, 960, 961, 962, 963, 964, 965] (by decide +kernel) (by decide +kernel)
set_option maxRecDepth 20000 in
theorem gL_law_X5_idleUnits : GoodIn wnL_law (wsV RL 247 RX5 yX5_idleUnits wsX5_idleUnits) := goodIn_app (goodIn_of _ (by decide +kernel)) ggL_law_X5_idleUnits
set_option maxRecDepth 20000 in
theorem ggL_law_L_response : GoodIn wnL_law wnL_response := goodIn_ca (goodIn_ca (goodIn_ca (goodIn_r _ [892, 322, 89, 681, 893, 894, 895, 2, 896, 690, 691, 31, 327, 328, 329, 330, 331, 332, 17, 845, 846, 847, 848, 96, 97, 167, 922, 923, 924, 925, 926, 927, 928, 929, 930, 931, 932, 933, 982, 983, 984, 985, 986, 987, 988, 989, 990, 991, 992, 993, 994, 995, 996, 966, 967, 968, 969, 970, 971, 972, 973, 974] (by decide +kernel) (by decide +kernel)) (goodIn_sub (fun _ h => List.mem_append_right _ h) (by decide +kernel))) (goodIn_sub (fun _ h => List.mem_append_left _ (List.mem_append_left _ (List.mem_append_right _ h))) (by decide +kernel))) (goodIn_sub (fun _ h => List.mem_append_left _ (List.mem_append_left _ (List.mem_append_left _ (List.mem_append_right _ h)))) (by decide +kernel))
set_option maxRecDepth 20000 in
theorem gL_law_L_response : GoodIn wnL_law (va_wsS RL 248 yL_response wnL_response) := goodIn_app (goodIn_of _ (by decide +kernel)) ggL_law_L_response
set_option maxRecDepth 20000 in
theorem ggL_law_X5_response : GoodIn wnL_law wsX5_response := goodIn_r _ [900, 183, 251, 77, 341, 342, 343, 5, 344, 71, 187, 188, 189, 190, 191, 192, 193, 934, 935, 936, 937, 938, 939, 940, 941, 942, 943, 944, 945, 946, 947, 948, 949, 950, 951, 952, 953, 954, 955, 956, 957, 958, 959, 960, 961, 962, 963, 964, 965] (by decide +kernel) (by decide +kernel)
set_option maxRecDepth 20000 in
theorem gL_law_X5_response : GoodIn wnL_law (wsV RL 250 RX5 yX5_response wsX5_response) := goodIn_app (goodIn_of _ (by decide +kernel)) ggL_law_X5_response
set_option maxRecDepth 20000 in
theorem ggL_law_X4_save : GoodIn wnL_law wsX4_save := goodIn_r _ [904, 19, 17, 905, 104, 105, 106, 16, 107, 108, 43, 109, 110, 111, 112, 36, 37, 38, 39, 40, 41, 42, 922, 923, 924, 925, 926, 927, 928, 929, 930, 931, 932, 933, 966, 967, 968, 969, 970, 971, 972, 973, 974] (by decide +kernel) (by decide +kernel)
set_option maxRecDepth 20000 in
theorem gL_law_X4_save : GoodIn wnL_law (wsV RL 251 RX4 yX4_save wsX4_save) := goodIn_app (goodIn_of _ (by decide +kernel)) ggL_law_X4_save
set_option maxRecDepth 20000 in
theorem ggL_law_X5_save : GoodIn wnL_law wsX5_save := goodIn_r _ [909, 183, 73, 71, 910, 934, 935, 936, 937, 938, 939, 940, 941, 942, 943, 944, 945, 946, 947, 948, 949, 950, 951, 952, 953, 954, 955, 956, 957, 958, 959, 960, 961, 962, 963, 964, 965] (by decide +kernel) (by decide +kernel)
set_option maxRecDepth 20000 in
theorem gL_law_X5_save : GoodIn wnL_law (wsV RL 254 RX5 yX5_save wsX5_save) := goodIn_app (goodIn_of _ (by decide +kernel)) ggL_law_X5_save
set_option maxRecDepth 20000 in
theorem ggL_law_L_restore : GoodIn wnL_law wsL_restore := goodIn_ca (goodIn_r _ [913, 89, 914, 915, 916, 2, 917, 96, 97, 905, 18, 19, 17, 104, 105, 106, 16, 107, 108, 43, 109, 110, 111, 112, 36, 37, 38, 39, 40, 41, 42, 163, 164, 165, 166, 23, 167, 168, 169, 170, 22, 171, 49, 172, 173, 174, 175, 176, 177, 178, 922, 923, 924, 925, 926, 927, 928, 929, 930, 931, 932, 933, 966, 967, 968, 969, 970, 971, 972, 973, 974, 975, 976, 977] (by decide +kernel) (by decide +kernel)) (goodIn_sub (fun _ h => List.mem_append_left _ (List.mem_append_left _ (List.mem_append_left _ (List.mem_append_right _ h)))) (by decide +kernel))
set_option maxRecDepth 20000 in
theorem gL_law_L_restore : GoodIn wnL_law (va_wsS RL 255 yL_restore wsL_restore) := goodIn_app (goodIn_of _ (by decide +kernel)) ggL_law_L_restore
set_option maxRecDepth 20000 in
theorem ggL_law_X5_restore : GoodIn wnL_law wsX5_restore := goodIn_r _ [921, 183, 910, 71, 73, 190, 191, 192, 5, 193, 194, 195, 196, 197, 72, 246, 247, 248, 249, 250, 74, 251, 934, 935, 936, 937, 938, 939, 940, 941, 942, 943, 944, 945, 946, 947, 948, 949, 950, 951, 952, 953, 954, 955, 956, 957, 958, 959, 960, 961, 962, 963, 964, 965] (by decide +kernel) (by decide +kernel)
set_option maxRecDepth 20000 in
theorem gL_law_X5_restore : GoodIn wnL_law (wsV RL 257 RX5 yX5_restore wsX5_restore) := goodIn_app (goodIn_of _ (by decide +kernel)) ggL_law_X5_restore
