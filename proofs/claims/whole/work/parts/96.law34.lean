set_option maxRecDepth 20000 in
theorem ggL_law_X6_memberAt : GoodIn wsL_law wsX6_memberAt := goodIn_r _ [664, 155, 156, 157, 5, 158, 159, 443, 444, 445, 446, 274, 275, 276, 152, 153, 154, 447, 448, 449, 450, 87, 230, 231, 232, 936, 937, 938, 939, 940, 941, 942, 943, 944, 945, 946, 947, 948, 949, 950] (by decide +kernel) (by decide +kernel)
set_option maxRecDepth 20000 in
theorem gL_law_X6_memberAt : GoodIn wsL_law (wsV RL 136 RX6 yX6_memberAt wsX6_memberAt) := goodIn_app (goodIn_of _ (by decide +kernel)) ggL_law_X6_memberAt
set_option maxRecDepth 20000 in
theorem ggL_law_L_entry : GoodIn wsL_law wsL_entry := goodIn_ca (goodIn_ca (goodIn_ca (goodIn_r _ [667, 97, 322, 668, 669, 670, 2, 671, 24, 633, 636, 672, 673, 674, 103, 104, 105, 106, 107, 108, 109, 110, 301, 302, 303, 543, 544, 545, 546, 333, 216, 217, 23, 218, 65, 200, 201, 202, 203, 204, 205, 206, 675, 352, 71, 353, 929, 930, 931, 932, 933, 934, 935, 967, 968, 969, 970, 971, 972, 973, 974, 975, 976, 977, 978, 979, 980, 981, 982, 983] (by decide +kernel) (by decide +kernel)) (goodIn_sub (fun _ h => List.mem_append_left _ (List.mem_append_left _ (List.mem_append_right _ h))) (by decide +kernel))) (goodIn_sub (fun _ h => List.mem_append_left _ (List.mem_append_right _ h)) (by decide +kernel))) (goodIn_sub (fun _ h => List.mem_append_right _ h) (by decide +kernel))
set_option maxRecDepth 20000 in
theorem gL_law_L_entry : GoodIn wsL_law (va_wsS RL 137 yL_entry wsL_entry) := goodIn_app (goodIn_of _ (by decide +kernel)) ggL_law_L_entry
set_option maxRecDepth 20000 in
theorem ggL_law_X6_entry : GoodIn wsL_law wsX6_entry := goodIn_r _ [679, 87, 152, 153, 5, 154, 552, 553, 554, 555, 274, 275, 276, 443, 444, 445, 446, 447, 448, 449, 450, 230, 231, 232, 155, 156, 157, 158, 159, 936, 937, 938, 939, 940, 941, 942, 943, 944, 945, 946, 947, 948, 949, 950] (by decide +kernel) (by decide +kernel)
set_option maxRecDepth 20000 in
theorem gL_law_X6_entry : GoodIn wsL_law (wsV RL 139 RX6 yX6_entry wsX6_entry) := goodIn_app (goodIn_of _ (by decide +kernel)) ggL_law_X6_entry
set_option maxRecDepth 20000 in
theorem ggL_law_L_share : GoodIn wsL_law wsL_share := goodIn_ca (goodIn_ca (goodIn_ca (goodIn_r _ [682, 97, 322, 683, 684, 685, 2, 686, 24, 633, 636, 103, 104, 105, 106, 107, 108, 109, 110, 543, 544, 545, 546, 333, 216, 217, 23, 218, 65, 200, 201, 202, 203, 204, 205, 206, 637, 432, 433, 71, 434, 76, 351, 352, 353, 675, 687, 384, 385, 386, 78, 929, 930, 931, 932, 933, 934, 935, 967, 968, 969, 970, 971, 972, 973, 974, 975, 976, 977, 978, 979, 980, 981, 982, 983] (by decide +kernel) (by decide +kernel)) (goodIn_sub (fun _ h => List.mem_append_left _ (List.mem_append_left _ (List.mem_append_right _ h))) (by decide +kernel))) (goodIn_sub (fun _ h => List.mem_append_left _ (List.mem_append_right _ h)) (by decide +kernel))) (goodIn_sub (fun _ h => List.mem_append_right _ h) (by decide +kernel))
set_option maxRecDepth 20000 in
theorem gL_law_L_share : GoodIn wsL_law (va_wsS RL 140 yL_share wsL_share) := goodIn_app (goodIn_of _ (by decide +kernel)) ggL_law_L_share
set_option maxRecDepth 20000 in
theorem ggL_law_X6_share : GoodIn wsL_law wsX6_share := goodIn_r _ [691, 152, 153, 5, 154, 552, 553, 554, 555, 274, 275, 276, 443, 444, 445, 446, 447, 448, 449, 450, 87, 230, 231, 232, 155, 156, 157, 158, 159, 513, 514, 515, 516, 486, 487, 488, 489, 482, 483, 484, 485, 936, 937, 938, 939, 940, 941, 942, 943, 944, 945, 946, 947, 948, 949, 950] (by decide +kernel) (by decide +kernel)
set_option maxRecDepth 20000 in
theorem gL_law_X6_share : GoodIn wsL_law (wsV RL 142 RX6 yX6_share wsX6_share) := goodIn_app (goodIn_of _ (by decide +kernel)) ggL_law_X6_share
set_option maxRecDepth 20000 in
theorem ggL_law_L_overlay : GoodIn wsL_law wsL_overlay := goodIn_ca (goodIn_r _ [694, 97, 695, 696, 697, 2, 698, 103, 104, 105, 106, 107, 108, 109, 110, 699, 700, 701, 702, 24, 332, 703, 704, 185, 184, 705, 706, 137, 138, 23, 139, 58, 61, 140, 141, 142, 143, 707, 257, 258, 259, 56, 62, 260, 116, 117, 118, 708, 709, 710, 711, 66, 67, 712, 713, 714, 929, 930, 931, 932, 933, 934, 935, 967, 968, 969, 970, 971, 972, 973, 974, 975, 976, 977, 978, 979, 980] (by decide +kernel) (by decide +kernel)) (goodIn_sub (fun _ h => List.mem_append_left _ (List.mem_append_left _ (List.mem_append_right _ h))) (by decide +kernel))
set_option maxRecDepth 20000 in
theorem gL_law_L_overlay : GoodIn wsL_law (va_wsS RL 143 yL_overlay wsL_overlay) := goodIn_app (goodIn_of _ (by decide +kernel)) ggL_law_L_overlay
set_option maxRecDepth 20000 in
theorem ggL_law_X6_overlay : GoodIn wsL_law wsX6_overlay := goodIn_r _ [718, 152, 153, 5, 154, 155, 156, 157, 158, 159, 719, 720, 721, 722, 87, 451, 452, 453, 454, 230, 231, 232, 165, 166, 167, 168, 282, 283, 284, 285, 723, 724, 725, 726, 936, 937, 938, 939, 940, 941, 942, 943, 944, 945, 946, 947, 948, 949, 950] (by decide +kernel) (by decide +kernel)
set_option maxRecDepth 20000 in
theorem gL_law_X6_overlay : GoodIn wsL_law (wsV RL 145 RX6 yX6_overlay wsX6_overlay) := goodIn_app (goodIn_of _ (by decide +kernel)) ggL_law_X6_overlay
set_option maxRecDepth 20000 in
theorem ggL_law_L_count : GoodIn wsL_law wsL_count := goodIn_ca (goodIn_r _ [729, 97, 730, 731, 732, 2, 733, 24, 734, 103, 104, 105, 106, 107, 108, 109, 110, 929, 930, 931, 932, 933, 934, 935, 967, 968, 969, 970, 971, 972, 973, 974, 975, 976, 977, 978, 979, 980] (by decide +kernel) (by decide +kernel)) (goodIn_sub (fun _ h => List.mem_append_left _ (List.mem_append_left _ (List.mem_append_right _ h))) (by decide +kernel))
