set_option maxRecDepth 20000 in
theorem ggL_law_X5_init : GoodIn wsL_law wsX5_init := goodIn_r _ [9, 10, 11, 12, 13, 14, 15, 16, 17, 18, 19, 20, 21, 22, 23, 24, 25, 26, 27, 28, 29, 30, 31, 32, 33, 34, 35, 36, 37, 38, 39, 40, 41, 42, 43, 44, 45, 46, 47, 48, 49, 50, 51, 52, 53, 54, 55, 56, 57, 58, 59, 60, 61, 62, 63, 64, 65, 66, 67, 68, 69, 70, 71, 72, 73, 74, 75, 76, 77, 78, 79, 80, 81, 82, 951, 952, 953, 954, 955, 956, 957, 958, 959, 960, 929, 930, 931, 932, 933, 934, 935, 961, 962, 963, 964, 965, 966, 967, 968, 969, 970, 971, 972, 973, 974, 975, 976, 977, 978, 979, 980, 981, 982, 983] (by decide +kernel) (by decide +kernel)
set_option maxRecDepth 20000 in
theorem gL_law_X5_init : GoodIn wsL_law (wsX5_init) := ggL_law_X5_init
set_option maxRecDepth 20000 in
theorem ggL_law_X6_init : GoodIn wsL_law wsX6_init := goodIn_r _ [85, 86, 11, 12, 32, 87, 88, 89, 90, 91, 92, 936, 937, 938, 939, 940, 941, 942, 943, 944, 945, 946, 947, 948, 949, 950] (by decide +kernel) (by decide +kernel)
set_option maxRecDepth 20000 in
theorem gL_law_X6_init : GoodIn wsL_law (wsX6_init) := ggL_law_X6_init
set_option maxRecDepth 20000 in
theorem ggL_law_L_setPuzzles : GoodIn wsL_law wsL_setPuzzles := goodIn_ca (goodIn_r _ [96, 97, 98, 99, 100, 2, 101, 24, 102, 103, 104, 105, 106, 107, 108, 109, 110, 111, 112, 113, 114, 27, 26, 25, 28, 115, 116, 117, 118, 119, 120, 121, 23, 122, 56, 57, 58, 59, 60, 61, 62, 63, 64, 123, 124, 125, 126, 65, 66, 67, 68, 72, 127, 128, 129, 71, 130, 76, 131, 77, 78, 132, 133, 134, 135, 136, 137, 138, 139, 140, 141, 142, 143, 144, 145, 146, 147, 929, 930, 931, 932, 933, 934, 935, 967, 968, 969, 970, 971, 972, 973, 974, 975, 976, 977, 978, 979, 980, 981, 982, 983] (by decide +kernel) (by decide +kernel)) (goodIn_sub (fun _ h => List.mem_append_left _ (List.mem_append_left _ (List.mem_append_right _ h))) (by decide +kernel))
set_option maxRecDepth 20000 in
theorem gL_law_L_setPuzzles : GoodIn wsL_law (va_wsS RL 85 yL_setPuzzles wsL_setPuzzles) := goodIn_app (goodIn_of _ (by decide +kernel)) ggL_law_L_setPuzzles
set_option maxRecDepth 20000 in
theorem ggL_law_X6_setPuzzles : GoodIn wsL_law wsX6_setPuzzles := goodIn_r _ [151, 87, 152, 153, 5, 154, 155, 156, 157, 158, 159, 160, 161, 162, 163, 164, 88, 165, 166, 167, 168, 169, 170, 171, 172, 936, 937, 938, 939, 940, 941, 942, 943, 944, 945, 946, 947, 948, 949, 950] (by decide +kernel) (by decide +kernel)
set_option maxRecDepth 20000 in
theorem gL_law_X6_setPuzzles : GoodIn wsL_law (wsV RL 90 RX6 yX6_setPuzzles wsX6_setPuzzles) := goodIn_app (goodIn_of _ (by decide +kernel)) ggL_law_X6_setPuzzles
set_option maxRecDepth 20000 in
theorem ggL_law_X6_thrown : GoodIn wsL_law wsX6_thrown := goodIn_r _ [176, 159, 936, 937, 938, 939, 940, 941, 942, 943, 944, 945, 946, 947, 948, 949, 950] (by decide +kernel) (by decide +kernel)
set_option maxRecDepth 20000 in
theorem gL_law_X6_thrown : GoodIn wsL_law (wsV RL 91 RX6 yX6_thrown wsX6_thrown) := goodIn_app (goodIn_of _ (by decide +kernel)) ggL_law_X6_thrown
set_option maxRecDepth 20000 in
theorem ggL_law_L_setQuotas : GoodIn wsL_law wsL_setQuotas := goodIn_ca (goodIn_r _ [179, 97, 180, 181, 182, 2, 183, 24, 184, 185, 103, 104, 105, 106, 107, 108, 109, 110, 111, 112, 113, 114, 27, 26, 25, 28, 115, 116, 117, 118, 119, 120, 121, 23, 122, 56, 57, 58, 59, 60, 61, 62, 63, 64, 123, 124, 125, 126, 65, 66, 67, 68, 72, 127, 128, 129, 71, 130, 76, 131, 77, 78, 929, 930, 931, 932, 933, 934, 935, 967, 968, 969, 970, 971, 972, 973, 974, 975, 976, 977, 978, 979, 980, 981, 982, 983] (by decide +kernel) (by decide +kernel)) (goodIn_sub (fun _ h => List.mem_append_left _ (List.mem_append_left _ (List.mem_append_right _ h))) (by decide +kernel))
set_option maxRecDepth 20000 in
theorem gL_law_L_setQuotas : GoodIn wsL_law (va_wsS RL 94 yL_setQuotas wsL_setQuotas) := goodIn_app (goodIn_of _ (by decide +kernel)) ggL_law_L_setQuotas
set_option maxRecDepth 20000 in
theorem ggL_law_X6_setQuotas : GoodIn wsL_law wsX6_setQuotas := goodIn_r _ [189, 87, 152, 153, 5, 154, 155, 156, 157, 158, 159, 160, 161, 162, 163, 164, 88, 936, 937, 938, 939, 940, 941, 942, 943, 944, 945, 946, 947, 948, 949, 950] (by decide +kernel) (by decide +kernel)
set_option maxRecDepth 20000 in
theorem gL_law_X6_setQuotas : GoodIn wsL_law (wsV RL 97 RX6 yX6_setQuotas wsX6_setQuotas) := goodIn_app (goodIn_of _ (by decide +kernel)) ggL_law_X6_setQuotas
set_option maxRecDepth 20000 in
theorem ggL_law_L_tick : GoodIn wsL_law wsL_tick := goodIn_ca (goodIn_ca (goodIn_ca (goodIn_r _ [192, 97, 193, 194, 195, 2, 196, 24, 197, 198, 199, 108, 109, 110, 200, 201, 202, 106, 107, 203, 204, 205, 206, 111, 112, 113, 114, 27, 26, 25, 28, 115, 116, 117, 118, 119, 120, 121, 23, 122, 56, 57, 58, 59, 60, 61, 62, 63, 64, 123, 124, 125, 126, 65, 66, 67, 68, 72, 127, 128, 129, 71, 130, 76, 131, 77, 78, 207, 208, 209, 210, 136, 137, 138, 139, 140, 141, 142, 143, 144, 145, 146, 147, 211, 212, 213, 214, 215, 216, 217, 218, 929, 930, 931, 932, 933, 934, 935, 967, 968, 969, 970, 971, 972, 973, 974, 975, 976, 977, 978, 979, 980, 981, 982, 983] (by decide +kernel) (by decide +kernel)) (goodIn_sub (fun _ h => List.mem_append_left _ (List.mem_append_left _ (List.mem_append_right _ h))) (by decide +kernel))) (goodIn_sub (fun _ h => List.mem_append_left _ (List.mem_append_right _ h)) (by decide +kernel))) (goodIn_sub (fun _ h => List.mem_append_right _ h) (by decide +kernel))
