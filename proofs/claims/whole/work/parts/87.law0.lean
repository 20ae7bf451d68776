set_option maxRecDepth 20000 in
theorem lin_1 : ∀ w ∈ wsL_law0_r1, w ∈ lw_tbl := fun w h => (goodIn_r (big := lw_tbl) _ [90, 91, 69, 876, 877, 75, 1225, 92, 93, 94, 95, 96, 97, 98, 99, 70, 264, 145, 146, 71, 265, 174, 175, 72] (by decide +kernel) (by decide +kernel) w h).1
set_option maxRecDepth 20000 in
theorem lin_2 : ∀ w ∈ wsL_law0_r2, w ∈ lw_tbl := fun w h => (goodIn_r (big := lw_tbl) _ [266, 267, 268, 269, 270, 101, 102, 103, 144, 104, 106, 109, 112, 115, 118, 119, 120, 121, 122, 148, 149, 150, 151, 153] (by decide +kernel) (by decide +kernel) w h).1
set_option maxRecDepth 20000 in
theorem lin_3 : ∀ w ∈ wsL_law0_r3, w ∈ lw_tbl := fun w h => (goodIn_r (big := lw_tbl) _ [155, 157, 159, 160, 176, 177, 178, 179, 207, 209, 211, 212, 214, 216, 218, 220, 222, 224, 227, 228, 230, 180, 181, 73] (by decide +kernel) (by decide +kernel) w h).1
set_option maxRecDepth 20000 in
theorem lin_4 : ∀ w ∈ wsL_law0_r4, w ∈ lw_tbl := fun w h => (goodIn_r (big := lw_tbl) _ [232, 183, 184, 185, 186, 190, 194, 204, 205, 74, 206, 878, 879, 880, 881, 882, 883, 884, 887, 889, 895, 601, 602, 68] (by decide +kernel) (by decide +kernel) w h).1
set_option maxRecDepth 20000 in
theorem lin_5 : ∀ w ∈ wsL_law0_r5, w ∈ lw_tbl := fun w h => (goodIn_r (big := lw_tbl) _ [603, 604, 605, 606, 607, 608, 208, 609, 610, 611, 612, 79, 419, 420, 421, 384, 386, 7, 387, 400, 401, 81, 402, 388] (by decide +kernel) (by decide +kernel) w h).1
set_option maxRecDepth 20000 in
theorem lin_6 : ∀ w ∈ wsL_law0_r6, w ∈ lw_tbl := fun w h => (goodIn_r (big := lw_tbl) _ [389, 390, 391, 392, 394, 393, 80, 395, 396, 397, 398, 399, 679, 680, 681, 682, 430, 431, 432, 433, 434, 435, 81, 436] (by decide +kernel) (by decide +kernel) w h).1
set_option maxRecDepth 20000 in
theorem lin_7 : ∀ w ∈ wsL_law0_r7, w ∈ lw_tbl := fun w h => (goodIn_r (big := lw_tbl) _ [562, 564, 21, 565, 978, 979, 980, 981, 947, 948, 949, 936, 938, 25, 939, 886, 982, 984, 29, 985, 885, 959, 961, 28] (by decide +kernel) (by decide +kernel) w h).1
set_option maxRecDepth 20000 in
theorem lin_8 : ∀ w ∈ wsL_law0_r8, w ∈ lw_tbl := fun w h => (goodIn_r (big := lw_tbl) _ [962, 986, 988, 30, 989, 928, 929, 930, 931, 683, 684, 685, 686, 687, 688, 689, 215, 213, 990, 991, 992, 993, 690, 691] (by decide +kernel) (by decide +kernel) w h).1
set_option maxRecDepth 20000 in
theorem lin_9 : ∀ w ∈ wsL_law0_r9, w ∈ lw_tbl := fun w h => (goodIn_r (big := lw_tbl) _ [692, 693, 694, 695, 696, 555, 556, 557, 697, 698, 699, 700, 82, 716, 83, 558, 559, 560, 561, 566, 547, 548, 549, 476] (by decide +kernel) (by decide +kernel) w h).1
set_option maxRecDepth 20000 in
theorem lin_10 : ∀ w ∈ wsL_law0_r10, w ∈ lw_tbl := fun w h => (goodIn_r (big := lw_tbl) _ [423, 424, 425, 994, 995, 996, 997, 998, 999, 1000, 1001, 1003, 31, 1004, 1005, 1006, 1007, 1008, 1010, 32, 1011, 732, 733, 734] (by decide +kernel) (by decide +kernel) w h).1
set_option maxRecDepth 20000 in
theorem lin_11 : ∀ w ∈ wsL_law0_r11, w ∈ lw_tbl := fun w h => (goodIn_r (big := lw_tbl) _ [735, 736, 737, 738, 426, 427, 428, 429, 447, 456, 437, 438, 84, 439, 440, 441, 442, 443, 444, 445, 446, 448, 449, 450] (by decide +kernel) (by decide +kernel) w h).1
set_option maxRecDepth 20000 in
theorem lin_12 : ∀ w ∈ wsL_law0_r12, w ∈ lw_tbl := fun w h => (goodIn_r (big := lw_tbl) _ [451, 452, 453, 85, 454, 455, 940, 941, 942, 943, 944, 945, 946, 950, 952, 26, 953, 958, 954, 956, 27, 957, 963, 964] (by decide +kernel) (by decide +kernel) w h).1
set_option maxRecDepth 20000 in
theorem lin_13 : ∀ w ∈ wsL_law0_r13, w ∈ lw_tbl := fun w h => (goodIn_r (big := lw_tbl) _ [965, 966, 967, 968, 969, 739, 740, 741, 742, 743, 744, 745, 746, 747, 748, 749, 751, 752, 753, 755, 754, 756, 757, 970] (by decide +kernel) (by decide +kernel) w h).1
set_option maxRecDepth 20000 in
theorem lin_14 : ∀ w ∈ wsL_law0_r14, w ∈ lw_tbl := fun w h => (goodIn_r (big := lw_tbl) _ [971, 972, 973, 974, 975, 976, 977, 758, 759, 760, 761, 762, 763, 764, 765, 766, 415, 417, 10, 418, 221, 422, 767, 768] (by decide +kernel) (by decide +kernel) w h).1
set_option maxRecDepth 20000 in
theorem lin_15 : ∀ w ∈ wsL_law0_r15, w ∈ lw_tbl := fun w h => (goodIn_r (big := lw_tbl) _ [769, 770, 771, 457, 458, 459, 460, 461, 463, 11, 464, 465, 466, 467, 468, 469, 470, 471, 472, 474, 12, 475, 192, 195] (by decide +kernel) (by decide +kernel) w h).1
set_option maxRecDepth 20000 in
theorem lin_16 : ∀ w ∈ wsL_law0_r16, w ∈ lw_tbl := fun w h => (goodIn_r (big := lw_tbl) _ [477, 478, 479, 480, 481, 482, 483, 484, 485, 486, 487, 488, 489, 490, 491, 492, 493, 494, 495, 497, 13, 498, 188, 499] (by decide +kernel) (by decide +kernel) w h).1
set_option maxRecDepth 20000 in
theorem lin_17 : ∀ w ∈ wsL_law0_r17, w ∈ lw_tbl := fun w h => (goodIn_r (big := lw_tbl) _ [500, 501, 502, 503, 504, 505, 506, 108, 111, 117, 105, 114, 507, 508, 509, 510, 529, 511, 513, 14, 514, 233, 225, 187] (by decide +kernel) (by decide +kernel) w h).1
set_option maxRecDepth 20000 in
theorem lin_18 : ∀ w ∈ wsL_law0_r18, w ∈ lw_tbl := fun w h => (goodIn_r (big := lw_tbl) _ [191, 515, 516, 517, 519, 15, 520, 521, 523, 16, 524, 525, 527, 17, 528, 530, 531, 532, 533, 534, 536, 18, 537, 538] (by decide +kernel) (by decide +kernel) w h).1
set_option maxRecDepth 20000 in
theorem lin_19 : ∀ w ∈ wsL_law0_r19, w ∈ lw_tbl := fun w h => (goodIn_r (big := lw_tbl) _ [539, 540, 541, 1012, 1013, 1014, 1015, 1016, 1018, 33, 1019, 1020, 1022, 34, 1023, 1024, 1026, 35, 1027, 1028, 1030, 36, 1031, 1032] (by decide +kernel) (by decide +kernel) w h).1
set_option maxRecDepth 20000 in
theorem lin_20 : ∀ w ∈ wsL_law0_r20, w ∈ lw_tbl := fun w h => (goodIn_r (big := lw_tbl) _ [1034, 37, 1035, 1036, 1038, 38, 1039, 1040, 1042, 39, 1043, 1044, 1045, 1046, 1047, 1049, 40, 1050, 1051, 1053, 41, 1054, 1055, 1057] (by decide +kernel) (by decide +kernel) w h).1
set_option maxRecDepth 20000 in
theorem lin_21 : ∀ w ∈ wsL_law0_r21, w ∈ lw_tbl := fun w h => (goodIn_r (big := lw_tbl) _ [42, 1058, 1059, 1061, 43, 1062, 1063, 1065, 44, 1066, 1067, 1069, 45, 1070, 890, 891, 892, 1071, 1073, 46, 1074, 1075, 1077, 47] (by decide +kernel) (by decide +kernel) w h).1
set_option maxRecDepth 20000 in
theorem lin_22 : ∀ w ∈ wsL_law0_r22, w ∈ lw_tbl := fun w h => (goodIn_r (big := lw_tbl) _ [1078, 1079, 1081, 48, 1082, 1083, 1085, 49, 1086, 1087, 1089, 50, 1090, 773, 774, 775, 776, 777, 778, 779, 411, 413, 9, 414] (by decide +kernel) (by decide +kernel) w h).1
set_option maxRecDepth 20000 in
theorem lin_23 : ∀ w ∈ wsL_law0_r23, w ∈ lw_tbl := fun w h => (goodIn_r (big := lw_tbl) _ [1091, 1092, 1093, 1094, 1095, 1097, 51, 1098, 780, 781, 782, 783, 784, 785, 786, 542, 544, 19, 545, 546, 1099, 1100, 1101, 1102] (by decide +kernel) (by decide +kernel) w h).1
set_option maxRecDepth 20000 in
theorem lin_24 : ∀ w ∈ wsL_law0_r24, w ∈ lw_tbl := fun w h => (goodIn_r (big := lw_tbl) _ [1103, 1105, 52, 1106, 787, 788, 789, 790, 791, 792, 793, 1107, 1108, 1109, 1110, 794, 795, 796, 797, 798, 799, 800, 550, 552] (by decide +kernel) (by decide +kernel) w h).1
set_option maxRecDepth 20000 in
theorem lin_25 : ∀ w ∈ wsL_law0_r25, w ∈ lw_tbl := fun w h => (goodIn_r (big := lw_tbl) _ [20, 553, 554, 1111, 1112, 1113, 1114, 1115, 1117, 53, 1118, 801, 802, 803, 804, 805, 806, 807, 113, 107, 110, 116, 808, 1119] (by decide +kernel) (by decide +kernel) w h).1
set_option maxRecDepth 20000 in
theorem lin_26 : ∀ w ∈ wsL_law0_r26, w ∈ lw_tbl := fun w h => (goodIn_r (big := lw_tbl) _ [1120, 1121, 1122, 1123, 1125, 54, 1126, 1127, 1129, 55, 1130, 809, 810, 811, 812, 813, 814, 815, 1131, 1132, 1133, 1134, 816, 817] (by decide +kernel) (by decide +kernel) w h).1
set_option maxRecDepth 20000 in
theorem lin_27 : ∀ w ∈ wsL_law0_r27, w ∈ lw_tbl := fun w h => (goodIn_r (big := lw_tbl) _ [818, 819, 820, 821, 822, 587, 589, 23, 590, 226, 229, 231, 234, 591, 592, 593, 594, 595, 1135, 1136, 1137, 1138, 1139, 1141] (by decide +kernel) (by decide +kernel) w h).1
set_option maxRecDepth 20000 in
theorem lin_28 : ∀ w ∈ wsL_law0_r28, w ∈ lw_tbl := fun w h => (goodIn_r (big := lw_tbl) _ [56, 1142, 1143, 1145, 57, 1146, 823, 824, 825, 826, 827, 828, 829, 1147, 1148, 1149, 1150, 830, 831, 832, 833, 834, 835, 836] (by decide +kernel) (by decide +kernel) w h).1
set_option maxRecDepth 20000 in
theorem lin_29 : ∀ w ∈ wsL_law0_r29, w ∈ lw_tbl := fun w h => (goodIn_r (big := lw_tbl) _ [189, 193, 196, 837, 1151, 1152, 1153, 1154, 838, 839, 840, 841, 842, 843, 844, 845, 1155, 1156, 1157, 1158, 846, 847, 848, 849] (by decide +kernel) (by decide +kernel) w h).1
set_option maxRecDepth 20000 in
theorem lin_30 : ∀ w ∈ wsL_law0_r30, w ∈ lw_tbl := fun w h => (goodIn_r (big := lw_tbl) _ [850, 851, 852, 574, 576, 22, 577, 217, 219, 210, 578, 579, 580, 581, 582, 583, 584, 585, 586, 1159, 1160, 1161, 1162, 1163] (by decide +kernel) (by decide +kernel) w h).1
set_option maxRecDepth 20000 in
theorem lin_31 : ∀ w ∈ wsL_law0_r31, w ∈ lw_tbl := fun w h => (goodIn_r (big := lw_tbl) _ [1165, 58, 1166, 1167, 1169, 59, 1170, 853, 854, 855, 856, 857, 858, 859, 223, 1171, 1172, 1173, 1174, 860, 861, 862, 863, 864] (by decide +kernel) (by decide +kernel) w h).1
set_option maxRecDepth 20000 in
theorem lin_32 : ∀ w ∈ wsL_law0_r32, w ∈ lw_tbl := fun w h => (goodIn_r (big := lw_tbl) _ [865, 866, 154, 152, 1175, 1176, 1177, 1178, 888, 286, 287, 288, 289, 1179, 1180, 1181, 1182, 290, 291, 292, 293, 158, 294, 295] (by decide +kernel) (by decide +kernel) w h).1
set_option maxRecDepth 20000 in
theorem lin_33 : ∀ w ∈ wsL_law0_r33, w ∈ lw_tbl := fun w h => (goodIn_r (big := lw_tbl) _ [296, 297, 298, 300, 0, 301, 302, 304, 1, 305, 306, 308, 2, 309, 310, 312, 3, 313, 315, 317, 4, 318, 319, 320] (by decide +kernel) (by decide +kernel) w h).1
set_option maxRecDepth 20000 in
theorem lin_34 : ∀ w ∈ wsL_law0_r34, w ∈ lw_tbl := fun w h => (goodIn_r (big := lw_tbl) _ [321, 86, 322, 1227, 323, 324, 325, 326, 327, 1228, 329, 330, 331, 332, 333, 334, 335, 336, 337, 338, 87, 339, 340, 341] (by decide +kernel) (by decide +kernel) w h).1
set_option maxRecDepth 20000 in
theorem lin_35 : ∀ w ∈ wsL_law0_r35, w ∈ lw_tbl := fun w h => (goodIn_r (big := lw_tbl) _ [342, 343, 345, 346, 88, 347, 348, 349, 89, 350, 351, 352, 353, 354, 355, 356, 357, 358, 359, 360, 361, 363, 365, 370] (by decide +kernel) (by decide +kernel) w h).1
set_option maxRecDepth 20000 in
theorem lin_36 : ∀ w ∈ wsL_law0_r36, w ∈ lw_tbl := fun w h => (goodIn_r (big := lw_tbl) _ [371, 372, 373, 375, 5, 376, 377, 379, 6, 380, 381, 382, 383, 403, 405, 8, 406, 156, 407, 408, 409, 410, 1183, 1184] (by decide +kernel) (by decide +kernel) w h).1
set_option maxRecDepth 20000 in
theorem lin_37 : ∀ w ∈ wsL_law0_r37, w ∈ lw_tbl := fun w h => (goodIn_r (big := lw_tbl) _ [1185, 1186, 893, 1187, 1189, 60, 1190, 1191, 1193, 61, 1194, 1195, 1197, 62, 1198, 894, 1199, 1201, 63, 1202, 1203, 1205, 64, 1206] (by decide +kernel) (by decide +kernel) w h).1
set_option maxRecDepth 20000 in
theorem lin_38 : ∀ w ∈ wsL_law0_r38, w ∈ lw_tbl := fun w h => (goodIn_r (big := lw_tbl) _ [1207, 1209, 65, 1210, 868, 869, 870, 871, 872, 873, 874, 932, 933, 934, 935, 568, 569, 570, 571, 572, 573, 596, 597, 598] (by decide +kernel) (by decide +kernel) w h).1
set_option maxRecDepth 20000 in
theorem lin_39 : ∀ w ∈ wsL_law0_r39, w ∈ lw_tbl := fun w h => (goodIn_r (big := lw_tbl) _ [599, 600, 1211, 1212, 1213, 1214, 1215, 896, 1216, 1218, 66, 1219, 1220, 1221, 1223, 67, 1224] (by decide +kernel) (by decide +kernel) w h).1
theorem linX50 : ∀ w ∈ wsX50, w ∈ lw_tbl := by decide +kernel
theorem linX60 : ∀ w ∈ wsX60, w ∈ lw_tbl := by decide +kernel
theorem linX40 : ∀ w ∈ wsX40, w ∈ lw_tbl := by decide +kernel
theorem linX10 : ∀ w ∈ wsX10, w ∈ lw_tbl := by decide +kernel
theorem linX20 : ∀ w ∈ wsX20, w ∈ lw_tbl := by decide +kernel
theorem linX30 : ∀ w ∈ wsX30, w ∈ lw_tbl := by decide +kernel
theorem lin_all : ∀ w ∈ (wsL_law0_r1 ++ (wsL_law0_r2 ++ (wsL_law0_r3 ++ (wsL_law0_r4 ++ (wsL_law0_r5 ++ (wsL_law0_r6 ++ (wsL_law0_r7 ++ (wsL_law0_r8 ++ (wsL_law0_r9 ++ (wsL_law0_r10 ++ (wsL_law0_r11 ++ (wsL_law0_r12 ++ (wsL_law0_r13 ++ (wsL_law0_r14 ++ (wsL_law0_r15 ++ (wsL_law0_r16 ++ (wsL_law0_r17 ++ (wsL_law0_r18 ++ (wsL_law0_r19 ++ (wsL_law0_r20 ++ (wsL_law0_r21 ++ (wsL_law0_r22 ++ (wsL_law0_r23 ++ (wsL_law0_r24 ++ (wsL_law0_r25 ++ (wsL_law0_r26 ++ (wsL_law0_r27 ++ (wsL_law0_r28 ++ (wsL_law0_r29 ++ (wsL_law0_r30 ++ (wsL_law0_r31 ++ (wsL_law0_r32 ++ (wsL_law0_r33 ++ (wsL_law0_r34 ++ (wsL_law0_r35 ++ (wsL_law0_r36 ++ (wsL_law0_r37 ++ (wsL_law0_r38 ++ wsL_law0_r39)))))))))))))))))))))))))))))))))))))), w ∈ lw_tbl := fun w h => (List.mem_append.mp h).elim (fun h => lin_1 w h) (fun h => (List.mem_append.mp h).elim (fun h => lin_2 w h) (fun h => (List.mem_append.mp h).elim (fun h => lin_3 w h) (fun h => (List.mem_append.mp h).elim (fun h => lin_4 w h) (fun h => (List.mem_append.mp h).elim (fun h => lin_5 w h) (fun h => (List.mem_append.mp h).elim (fun h => lin_6 w h) (fun h => (List.mem_append.mp h).elim (fun h => lin_7 w h) (fun h => (List.mem_append.mp h).elim (fun h => lin_8 w h) (fun h => (List.mem_append.mp h).elim (fun h => lin_9 w h) (fun h => (List.mem_append.mp h).elim (fun h => lin_10 w h) (fun h => (List.mem_append.mp h).elim (fun h => lin_11 w h) (fun h => (List.mem_append.mp h).elim (fun h => lin_12 w h) (fun h => (List.mem_append.mp h).elim (fun h => lin_13 w h) (fun h => (List.mem_append.mp h).elim (fun h => lin_14 w h) (fun h => (List.mem_append.mp h).elim (fun h => lin_15 w h) (fun h => (List.mem_append.mp h).elim (fun h => lin_16 w h) (fun h => (List.mem_append.mp h).elim (fun h => lin_17 w h) (fun h => (List.mem_append.mp h).elim (fun h => lin_18 w h) (fun h => (List.mem_append.mp h).elim (fun h => lin_19 w h) (fun h => (List.mem_append.mp h).elim (fun h => lin_20 w h) (fun h => (List.mem_append.mp h).elim (fun h => lin_21 w h) (fun h => (List.mem_append.mp h).elim (fun h => lin_22 w h) (fun h => (List.mem_append.mp h).elim (fun h => lin_23 w h) (fun h => (List.mem_append.mp h).elim (fun h => lin_24 w h) (fun h => (List.mem_append.mp h).elim (fun h => lin_25 w h) (fun h => (List.mem_append.mp h).elim (fun h => lin_26 w h) (fun h => (List.mem_append.mp h).elim (fun h => lin_27 w h) (fun h => (List.mem_append.mp h).elim (fun h => lin_28 w h) (fun h => (List.mem_append.mp h).elim (fun h => lin_29 w h) (fun h => (List.mem_append.mp h).elim (fun h => lin_30 w h) (fun h => (List.mem_append.mp h).elim (fun h => lin_31 w h) (fun h => (List.mem_append.mp h).elim (fun h => lin_32 w h) (fun h => (List.mem_append.mp h).elim (fun h => lin_33 w h) (fun h => (List.mem_append.mp h).elim (fun h => lin_34 w h) (fun h => (List.mem_append.mp h).elim (fun h => lin_35 w h) (fun h => (List.mem_append.mp h).elim (fun h => lin_36 w h) (fun h => (List.mem_append.mp h).elim (fun h => lin_37 w h) (fun h => (List.mem_append.mp h).elim (fun h => lin_38 w h) (fun h => lin_39 w h))))))))))))))))))))))))))))))))))))))
theorem wsL_law_in0 : ∀ w ∈ wsL_law0, w ∈ lw_tbl := fun w h => (List.mem_append.mp h).elim (fun h => (List.mem_append.mp h).elim (fun h => (List.mem_append.mp h).elim (fun h => (List.mem_append.mp h).elim (fun h => (List.mem_append.mp h).elim (fun h => (List.mem_append.mp h).elim (fun h => (List.mem_append.mp h).elim (fun h => lin_all w h) (fun h => linX50 w h)) (fun h => linX60 w h)) (fun h => linX40 w h)) (fun h => linX10 w h)) (fun h => linX20 w h)) (fun h => linX30 w h)) (fun h => absurd h List.not_mem_nil)
theorem wsL_law_x0 : ∀ w ∈ (vx_atS RX5 261 "java/lang/IllegalArgumentException" ["java/lang/RuntimeException", "java/lang/Exception"]).filter goodWord, w ∈ lw_tbl := by decide +kernel
theorem wsL_law_x1 : ∀ w ∈ (vx_atS RX5 189 "java/lang/IllegalStateException" ["java/lang/RuntimeException", "java/lang/Exception"]).filter goodWord, w ∈ lw_tbl := by decide +kernel
theorem wsL_law_x2 : ∀ w ∈ (vx_atS RX5 97 "java/lang/UnsupportedOperationException" ["java/lang/RuntimeException", "java/lang/Exception"]).filter goodWord, w ∈ lw_tbl := by decide +kernel
theorem wsL_law_in : ∀ w ∈ wsL_law, w ∈ lw_tbl := fun w h => (List.mem_append.mp h).elim (fun h => (List.mem_append.mp h).elim (fun h => (List.mem_append.mp h).elim (fun h => wsL_law_in0 w h) (fun h => wsL_law_x0 w h)) (fun h => wsL_law_x1 w h)) (fun h => wsL_law_x2 w h)
