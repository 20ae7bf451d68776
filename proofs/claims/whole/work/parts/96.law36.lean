set_option maxRecDepth 20000 in
theorem ggL_law_L_undo : GoodIn wsL_law wsL_undo := goodIn_ca (goodIn_r _ [894, 322, 895, 896, 897, 2, 898, 203, 204, 28, 24, 25, 26, 27, 929, 930, 931, 932, 933, 934, 935] (by decide +kernel) (by decide +kernel)) (goodIn_sub (fun _ h => List.mem_append_left _ (List.mem_append_right _ h)) (by decide +kernel))
set_option maxRecDepth 20000 in
theorem gL_law_L_undo : GoodIn wsL_law (va_wsS RL 160 yL_undo wsL_undo) := goodIn_app (goodIn_of _ (by decide +kernel)) ggL_law_L_undo
set_option maxRecDepth 20000 in
theorem ggL_law_X6_undo : GoodIn wsL_law wsX6_undo := goodIn_r _ [902, 164, 87, 88, 155, 156, 157, 5, 158, 159, 936, 937, 938, 939, 940, 941, 942, 943, 944, 945, 946, 947, 948, 949, 950] (by decide +kernel) (by decide +kernel)
set_option maxRecDepth 20000 in
theorem gL_law_X6_undo : GoodIn wsL_law (wsV RL 163 RX6 yX6_undo wsX6_undo) := goodIn_app (goodIn_of _ (by decide +kernel)) ggL_law_X6_undo
set_option maxRecDepth 20000 in
theorem ggL_law_X5_digest : GoodIn wsL_law wsX5_digest := goodIn_r _ [906, 907, 908, 28, 20, 746, 24, 734, 636, 633, 699, 700, 701, 2, 702, 332, 703, 704, 185, 184, 705, 706, 137, 138, 23, 139, 58, 61, 140, 141, 142, 143, 707, 257, 258, 259, 56, 62, 260, 116, 117, 118, 708, 709, 710, 711, 66, 67, 712, 713, 714, 333, 216, 217, 218, 65, 629, 630, 631, 632, 634, 635, 637, 432, 433, 71, 434, 76, 351, 352, 353, 638, 639, 640, 641, 72, 360, 361, 362, 363, 266, 267, 268, 269, 364, 365, 366, 367, 368, 77, 909, 910, 911, 912, 913, 78, 929, 930, 931, 932, 933, 934, 935, 961, 962, 963, 964, 965, 966, 967, 968, 969, 970, 971, 972, 973, 974, 975, 976, 977, 978, 979, 980, 981, 982, 983] (by decide +kernel) (by decide +kernel)
set_option maxRecDepth 20000 in
theorem gL_law_X5_digest : GoodIn wsL_law (wsV RL 164 RX5 yX5_digest wsX5_digest) := goodIn_app (goodIn_of _ (by decide +kernel)) ggL_law_X5_digest
set_option maxRecDepth 20000 in
theorem ggL_law_X6_digest : GoodIn wsL_law wsX6_digest := goodIn_r _ [917, 159, 918, 919, 164, 752, 87, 920, 921, 922, 5, 923, 924, 719, 720, 721, 722, 451, 452, 453, 454, 230, 231, 232, 165, 166, 167, 168, 282, 283, 284, 285, 723, 724, 725, 726, 443, 444, 445, 446, 274, 275, 276, 152, 153, 154, 447, 448, 449, 450, 925, 926, 927, 928, 646, 647, 648, 649, 513, 514, 515, 516, 650, 651, 652, 653, 467, 468, 469, 470, 471, 472, 473, 936, 937, 938, 939, 940, 941, 942, 943, 944, 945, 946, 947, 948, 949, 950] (by decide +kernel) (by decide +kernel)
set_option maxRecDepth 20000 in
theorem gL_law_X6_digest : GoodIn wsL_law (wsV RL 168 RX6 yX6_digest wsX6_digest) := goodIn_app (goodIn_of _ (by decide +kernel)) ggL_law_X6_digest
