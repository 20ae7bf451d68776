theorem gh_X5_run_0 : GoodIn wsL_law [Cond.code yX5_run cX5_run 3 (some .int)] := goodIn_r _ [764] (by decide +kernel) (by decide +kernel)
set_option maxRecDepth 20000 in
theorem gh_X5_run_1 : GoodIn wsL_law wsX5_run_r1 := goodIn_r _ [20, 765, 766, 767, 768, 19, 769, 51, 49, 47, 770, 771, 772, 773, 46, 774, 775, 776, 777, 48, 778, 779, 780, 781] (by decide +kernel) (by decide +kernel)
set_option maxRecDepth 20000 in
theorem gh_X5_run_2 : GoodIn wsL_law wsX5_run_r2 := goodIn_r _ [782, 783, 784, 785, 786, 787, 788, 789, 790, 791, 792, 793, 794, 795, 796, 797, 798, 799, 800, 801, 802, 803, 804, 805] (by decide +kernel) (by decide +kernel)
set_option maxRecDepth 20000 in
theorem gh_X5_run_3 : GoodIn wsL_law wsX5_run_r3 := goodIn_r _ [806, 807, 808, 809, 810, 811, 812, 813, 814, 815, 816, 817, 818, 819, 820, 821, 822, 823, 824, 825, 826, 827, 828, 829] (by decide +kernel) (by decide +kernel)
set_option maxRecDepth 20000 in
theorem gh_X5_run_4 : GoodIn wsL_law wsX5_run_r4 := goodIn_r _ [830, 831, 832, 833, 834, 835, 836, 837, 838, 839, 840, 841, 842, 843, 844, 845, 50, 846, 847, 848, 849, 850, 851, 852] (by decide +kernel) (by decide +kernel)
set_option maxRecDepth 20000 in
theorem gh_X5_run_5 : GoodIn wsL_law wsX5_run_r5 := goodIn_r _ [111, 112, 113, 2, 114, 27, 26, 25, 24, 28, 115, 116, 117, 118, 119, 120, 121, 23, 122, 56, 57, 58, 59, 60] (by decide +kernel) (by decide +kernel)
set_option maxRecDepth 20000 in
theorem gh_X5_run_6 : GoodIn wsL_law wsX5_run_r6 := goodIn_r _ [61, 62, 63, 64, 123, 124, 125, 126, 65, 66, 67, 68, 72, 127, 128, 129, 71, 130, 76, 131, 77, 78, 853, 854] (by decide +kernel) (by decide +kernel)
set_option maxRecDepth 20000 in
theorem gh_X5_run_7 : GoodIn wsL_law wsX5_run_r7 := goodIn_r _ [855, 856, 857, 332, 16, 858, 859, 860, 861, 524, 525, 526, 527, 328, 329, 330, 331, 108, 109, 110, 333, 216, 217, 218] (by decide +kernel) (by decide +kernel)
set_option maxRecDepth 20000 in
theorem gh_X5_run_8 : GoodIn wsL_law wsX5_run_r8 := goodIn_r _ [244, 245, 246, 247, 248, 249, 136, 137, 138, 139, 140, 141, 142, 143, 250, 251, 252, 253, 254, 255, 256, 257, 258, 259] (by decide +kernel) (by decide +kernel)
set_option maxRecDepth 20000 in
theorem gh_X5_run_9 : GoodIn wsL_law wsX5_run_r9 := goodIn_r _ [260, 261, 262, 263, 264, 265, 266, 267, 268, 269, 339, 340, 341, 342, 343, 344, 345, 346, 347, 348, 349, 350, 351, 352] (by decide +kernel) (by decide +kernel)
set_option maxRecDepth 20000 in
theorem gh_X5_run_10 : GoodIn wsL_law wsX5_run_r10 := goodIn_r _ [353, 354, 355, 356, 357, 358, 359, 215, 360, 361, 362, 363, 364, 365, 366, 367, 368, 369, 370, 371, 372, 373, 374, 375] (by decide +kernel) (by decide +kernel)
set_option maxRecDepth 20000 in
theorem gh_X5_run_11 : GoodIn wsL_law wsX5_run_r11 := goodIn_r _ [376, 377, 378, 379, 380, 381, 382, 383, 384, 385, 386, 387, 388, 389, 390, 391, 392, 393, 394, 395, 396, 397, 398, 15] (by decide +kernel) (by decide +kernel)
set_option maxRecDepth 20000 in
theorem gh_X5_run_12 : GoodIn wsL_law wsX5_run_r12 := goodIn_r _ [399, 34, 35, 42, 40, 33, 41, 400, 36, 37, 401, 402, 403, 404, 405, 406, 39, 407, 408, 38, 409, 410, 411, 412] (by decide +kernel) (by decide +kernel)
set_option maxRecDepth 20000 in
theorem gh_X5_run_13 : GoodIn wsL_law wsX5_run_r13 := goodIn_r _ [413, 414, 415, 416, 417, 418, 419, 420, 421, 422, 423, 424, 425, 426, 427, 428, 429, 430, 431, 432, 433, 434, 543, 544] (by decide +kernel) (by decide +kernel)
set_option maxRecDepth 20000 in
theorem gh_X5_run_14 : GoodIn wsL_law wsX5_run_r14 := goodIn_r _ [545, 546, 547, 212, 213, 214, 574, 575, 576, 577, 578, 197, 198, 199, 207, 208, 209, 210, 144, 145, 146, 147, 211] (by decide +kernel) (by decide +kernel)
set_option maxRecDepth 20000 in
theorem gh_X5_run_15 : GoodIn wsL_law wsX50 := goodIn_r _ [929, 930, 931, 932, 933, 934, 935] (by decide +kernel) (by decide +kernel)
set_option maxRecDepth 20000 in
theorem gh_X5_run_16 : GoodIn wsL_law wsX10 := goodIn_r _ [961, 962, 963, 964, 965, 966] (by decide +kernel) (by decide +kernel)
set_option maxRecDepth 20000 in
theorem gh_X5_run_17 : GoodIn wsL_law wsX20 := goodIn_r _ [967, 968, 969, 970, 971, 972, 973, 974, 975, 976, 977, 978, 979, 980] (by decide +kernel) (by decide +kernel)
set_option maxRecDepth 20000 in
theorem gh_X5_run_18 : GoodIn wsL_law wsX30 := goodIn_r _ [981, 982, 983] (by decide +kernel) (by decide +kernel)
set_option maxRecDepth 20000 in
theorem gh_X5_run_19 : GoodIn wsL_law wsX40 := goodIn_r _ [951, 952, 953, 954, 955, 956, 957, 958, 959, 960] (by decide +kernel) (by decide +kernel)
theorem ggL_law_X5_run : GoodIn wsL_law wsX5_run := fun w h => (List.mem_cons.mp h).elim (fun e => gh_X5_run_0 w (by rw [e]; exact List.mem_cons_self)) (fun h => (goodIn_app (goodIn_app (goodIn_app (goodIn_app (goodIn_app (goodIn_app gh_X5_run_1 (goodIn_app gh_X5_run_2 (goodIn_app gh_X5_run_3 (goodIn_app gh_X5_run_4 (goodIn_app gh_X5_run_5 (goodIn_app gh_X5_run_6 (goodIn_app gh_X5_run_7 (goodIn_app gh_X5_run_8 (goodIn_app gh_X5_run_9 (goodIn_app gh_X5_run_10 (goodIn_app gh_X5_run_11 (goodIn_app gh_X5_run_12 (goodIn_app gh_X5_run_13 gh_X5_run_14))))))))))))) gh_X5_run_15) gh_X5_run_16) gh_X5_run_17) gh_X5_run_18) gh_X5_run_19) w h)
set_option maxRecDepth 20000 in
theorem gL_law_X5_run : GoodIn wsL_law (wsV RL 156 RX5 yX5_run wsX5_run) := goodIn_app (goodIn_of _ (by decide +kernel)) ggL_law_X5_run
