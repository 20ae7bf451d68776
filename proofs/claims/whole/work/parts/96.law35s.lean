theorem gh_X6_run_0 : GoodIn wsL_law [Cond.code yX6_run cX6_run 4 (some .int)] := goodIn_r _ [865] (by decide +kernel) (by decide +kernel)
set_option maxRecDepth 20000 in
theorem gh_X6_run_1 : GoodIn wsL_law wsX6_run_r1 := goodIn_r _ [159, 866, 752, 867, 868, 869, 5, 870, 871, 872, 873, 874, 90, 152, 153, 154, 875, 876, 877, 878, 879, 92, 880, 881] (by decide +kernel) (by decide +kernel)
set_option maxRecDepth 20000 in
theorem gh_X6_run_2 : GoodIn wsL_law wsX6_run_r2 := goodIn_r _ [882, 883, 884, 885, 886, 887, 160, 161, 162, 163, 164, 88, 87, 888, 889, 890, 891, 451, 452, 453, 454, 230, 231, 232] (by decide +kernel) (by decide +kernel)
set_option maxRecDepth 20000 in
theorem gh_X6_run_3 : GoodIn wsL_law wsX6_run_r3 := goodIn_r _ [532, 533, 534, 535, 439, 440, 441, 442, 274, 275, 276, 443, 444, 445, 446, 447, 448, 449, 450, 455, 456, 457, 458, 277] (by decide +kernel) (by decide +kernel)
set_option maxRecDepth 20000 in
theorem gh_X6_run_4 : GoodIn wsL_law wsX6_run_r4 := goodIn_r _ [278, 279, 280, 281, 282, 283, 284, 285, 165, 166, 167, 168, 286, 287, 288, 289, 290, 291, 292, 459, 460, 461, 462, 463] (by decide +kernel) (by decide +kernel)
set_option maxRecDepth 20000 in
theorem gh_X6_run_5 : GoodIn wsL_law wsX6_run_r5 := goodIn_r _ [464, 465, 466, 467, 468, 469, 470, 471, 472, 473, 474, 475, 476, 477, 478, 479, 480, 481, 482, 483, 484, 485, 486, 487] (by decide +kernel) (by decide +kernel)
set_option maxRecDepth 20000 in
theorem gh_X6_run_6 : GoodIn wsL_law wsX6_run_r6 := goodIn_r _ [488, 489, 490, 491, 492, 493, 91, 494, 495, 496, 497, 498, 499, 500, 501, 502, 503, 504, 505, 506, 507, 508, 509, 510] (by decide +kernel) (by decide +kernel)
set_option maxRecDepth 20000 in
theorem gh_X6_run_7 : GoodIn wsL_law wsX6_run_r7 := goodIn_r _ [511, 512, 513, 514, 515, 516, 552, 553, 554, 555, 233, 234, 235, 236, 583, 584, 585, 586, 223, 224, 225, 226, 227, 228] (by decide +kernel) (by decide +kernel)
set_option maxRecDepth 20000 in
theorem gh_X6_run_8 : GoodIn wsL_law wsX6_run_r8 := goodIn_r _ [229, 169, 170, 171, 172] (by decide +kernel) (by decide +kernel)
set_option maxRecDepth 20000 in
theorem gh_X6_run_9 : GoodIn wsL_law wsX60 := goodIn_r _ [936, 937, 938, 939, 940, 941, 942, 943, 944, 945, 946, 947, 948, 949, 950] (by decide +kernel) (by decide +kernel)
theorem ggL_law_X6_run : GoodIn wsL_law wsX6_run := fun w h => (List.mem_cons.mp h).elim (fun e => gh_X6_run_0 w (by rw [e]; exact List.mem_cons_self)) (fun h => (goodIn_app (goodIn_app gh_X6_run_1 (goodIn_app gh_X6_run_2 (goodIn_app gh_X6_run_3 (goodIn_app gh_X6_run_4 (goodIn_app gh_X6_run_5 (goodIn_app gh_X6_run_6 (goodIn_app gh_X6_run_7 gh_X6_run_8))))))) gh_X6_run_9) w h)
set_option maxRecDepth 20000 in
theorem gL_law_X6_run : GoodIn wsL_law (wsV RL 159 RX6 yX6_run wsX6_run) := goodIn_app (goodIn_of _ (by decide +kernel)) ggL_law_X6_run
