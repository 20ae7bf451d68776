set_option maxRecDepth 20000 in
theorem gL_law_L_count : GoodIn wsL_law (va_wsS RL 146 yL_count wsL_count) := goodIn_app (goodIn_of _ (by decide +kernel)) ggL_law_L_count
set_option maxRecDepth 20000 in
theorem ggL_law_X6_count : GoodIn wsL_law wsX6_count := goodIn_r _ [738, 87, 152, 153, 5, 154, 155, 156, 157, 158, 159, 936, 937, 938, 939, 940, 941, 942, 943, 944, 945, 946, 947, 948, 949, 950] (by decide +kernel) (by decide +kernel)
set_option maxRecDepth 20000 in
theorem gL_law_X6_count : GoodIn wsL_law (wsV RL 148 RX6 yX6_count wsX6_count) := goodIn_app (goodIn_of _ (by decide +kernel)) ggL_law_X6_count
set_option maxRecDepth 20000 in
theorem ggL_law_L_type : GoodIn wsL_law wsL_type := goodIn_ca (goodIn_ca (goodIn_r _ [741, 97, 322, 742, 743, 744, 2, 745, 203, 204, 20, 746, 747, 103, 104, 105, 106, 107, 108, 109, 110, 929, 930, 931, 932, 933, 934, 935, 961, 962, 963, 964, 965, 966] (by decide +kernel) (by decide +kernel)) (goodIn_sub (fun _ h => List.mem_append_left _ (List.mem_append_right _ h)) (by decide +kernel))) (goodIn_sub (fun _ h => List.mem_append_left _ (List.mem_append_left _ (List.mem_append_right _ h))) (by decide +kernel))
set_option maxRecDepth 20000 in
theorem gL_law_L_type : GoodIn wsL_law (va_wsS RL 149 yL_type wsL_type) := goodIn_app (goodIn_of _ (by decide +kernel)) ggL_law_L_type
set_option maxRecDepth 20000 in
theorem ggL_law_X6_type : GoodIn wsL_law wsX6_type := goodIn_r _ [751, 752, 90, 152, 153, 5, 154, 155, 156, 157, 158, 159, 936, 937, 938, 939, 940, 941, 942, 943, 944, 945, 946, 947, 948, 949, 950] (by decide +kernel) (by decide +kernel)
set_option maxRecDepth 20000 in
theorem gL_law_X6_type : GoodIn wsL_law (wsV RL 151 RX6 yX6_type wsX6_type) := goodIn_app (goodIn_of _ (by decide +kernel)) ggL_law_X6_type
set_option maxRecDepth 20000 in
theorem ggL_law_X5_clearScript : GoodIn wsL_law wsX5_clearScript := goodIn_r _ [756, 20, 746, 929, 930, 931, 932, 933, 934, 935, 961, 962, 963, 964, 965, 966] (by decide +kernel) (by decide +kernel)
set_option maxRecDepth 20000 in
theorem gL_law_X5_clearScript : GoodIn wsL_law (wsV RL 152 RX5 yX5_clearScript wsX5_clearScript) := goodIn_app (goodIn_of _ (by decide +kernel)) ggL_law_X5_clearScript
set_option maxRecDepth 20000 in
theorem ggL_law_X6_clearScript : GoodIn wsL_law wsX6_clearScript := goodIn_r _ [760, 159, 752, 936, 937, 938, 939, 940, 941, 942, 943, 944, 945, 946, 947, 948, 949, 950] (by decide +kernel) (by decide +kernel)
set_option maxRecDepth 20000 in
theorem gL_law_X6_clearScript : GoodIn wsL_law (wsV RL 155 RX6 yX6_clearScript wsX6_clearScript) := goodIn_app (goodIn_of _ (by decide +kernel)) ggL_law_X6_clearScript
