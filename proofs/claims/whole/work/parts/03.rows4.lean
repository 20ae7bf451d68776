theorem dJ7_fill_53178_0 : decode cJ7_fill_53178 0 = .ok (.iconst 0, 1) := by decide +kernel
theorem dJ7_fill_53178_1 : decode cJ7_fill_53178 1 = .ok (.istore_n 2, 1) := by decide +kernel
theorem dJ7_fill_53178_2 : decode cJ7_fill_53178 2 = .ok (.aload_n 0, 1) := by decide +kernel
theorem dJ7_fill_53178_3 : decode cJ7_fill_53178 3 = .ok (.arraylength, 1) := by decide +kernel
theorem dJ7_fill_53178_4 : decode cJ7_fill_53178 4 = .ok (.istore_n 3, 1) := by decide +kernel
theorem dJ7_fill_53178_5 : decode cJ7_fill_53178 5 = .ok (.iload_n 2, 1) := by decide +kernel
theorem dJ7_fill_53178_6 : decode cJ7_fill_53178 6 = .ok (.iload_n 3, 1) := by decide +kernel
theorem dJ7_fill_53178_7 : decode cJ7_fill_53178 7 = .ok (.if_icmp .ge 13, 3) := by decide +kernel
theorem dJ7_fill_53178_10 : decode cJ7_fill_53178 10 = .ok (.aload_n 0, 1) := by decide +kernel
theorem dJ7_fill_53178_11 : decode cJ7_fill_53178 11 = .ok (.iload_n 2, 1) := by decide +kernel
theorem dJ7_fill_53178_12 : decode cJ7_fill_53178 12 = .ok (.iload_n 1, 1) := by decide +kernel
theorem dJ7_fill_53178_13 : decode cJ7_fill_53178 13 = .ok (.iastore, 1) := by decide +kernel
theorem dJ7_fill_53178_14 : decode cJ7_fill_53178 14 = .ok (.iinc 2 1, 3) := by decide +kernel
theorem dJ7_fill_53178_17 : decode cJ7_fill_53178 17 = .ok (.goto (-12), 3) := by decide +kernel
theorem dJ7_fill_53178_20 : decode cJ7_fill_53178 20 = .ok (.return_, 1) := by decide +kernel
theorem dJ3_checkIndex_8e157_0 : decode cJ3_checkIndex_8e157 0 = .ok (.iload_n 0, 1) := by decide +kernel
theorem dJ3_checkIndex_8e157_1 : decode cJ3_checkIndex_8e157 1 = .ok (.ifCond .lt 8, 3) := by decide +kernel
theorem dJ3_checkIndex_8e157_4 : decode cJ3_checkIndex_8e157 4 = .ok (.iload_n 0, 1) := by decide +kernel
theorem dJ3_checkIndex_8e157_5 : decode cJ3_checkIndex_8e157 5 = .ok (.iload_n 1, 1) := by decide +kernel
theorem dJ3_checkIndex_8e157_6 : decode cJ3_checkIndex_8e157 6 = .ok (.if_icmp .lt 10, 3) := by decide +kernel
theorem dJ3_checkIndex_8e157_9 : decode cJ3_checkIndex_8e157 9 = .ok (.aload_n 2, 1) := by decide +kernel
theorem dJ3_checkIndex_8e157_10 : decode cJ3_checkIndex_8e157 10 = .ok (.iload_n 0, 1) := by decide +kernel
theorem dJ3_checkIndex_8e157_11 : decode cJ3_checkIndex_8e157 11 = .ok (.iload_n 1, 1) := by decide +kernel
theorem dJ3_checkIndex_8e157_12 : decode cJ3_checkIndex_8e157 12 = .ok (.invokestatic 95, 3) := by decide +kernel
theorem dJ3_checkIndex_8e157_15 : decode cJ3_checkIndex_8e157 15 = .ok (.athrow, 1) := by decide +kernel
theorem dJ3_checkIndex_8e157_16 : decode cJ3_checkIndex_8e157 16 = .ok (.iload_n 0, 1) := by decide +kernel
theorem dJ3_checkIndex_8e157_17 : decode cJ3_checkIndex_8e157 17 = .ok (.ireturn, 1) := by decide +kernel
set_option maxRecDepth 20000 in
theorem ggL_setPuzzles_X5_setPuzzles : GoodIn wsL_setPuzzles wsX5_setPuzzles := goodIn_ca (goodIn_r _ [6, 7, 8, 9, 10, 5, 11, 12, 13, 14, 15, 16, 17, 18, 19, 20, 21, 22, 23, 24, 25, 26, 27, 28, 29, 30, 31, 32, 33, 34, 35, 36, 37, 38, 39, 40, 41, 42, 43, 44, 45, 46, 47, 48, 49, 50, 51, 52, 53, 54, 55, 56, 57, 58, 59, 60, 61, 62, 63, 64, 65, 66, 67, 68, 69, 70, 71, 72, 73, 74, 75, 76, 77, 78, 79, 80, 81, 82, 83, 84, 85, 86, 87, 88, 89, 90, 91, 92, 93, 94, 95, 96, 97, 98, 99, 100] (by decide +kernel) (by decide +kernel)) (goodIn_sub (fun _ h => List.mem_cons_of_mem _ (List.mem_append_right _ h)) (by decide +kernel))
set_option maxRecDepth 20000 in
theorem gL_setPuzzles_X5_setPuzzles : GoodIn wsL_setPuzzles (wsV RL 7 RX5 yX5_setPuzzles wsX5_setPuzzles) := goodIn_app (goodIn_of _ (by decide +kernel)) ggL_setPuzzles_X5_setPuzzles
theorem dL_setPuzzles_0 : decode cL_setPuzzles 0 = .ok (.aload 4, 2) := by decide +kernel
theorem dL_setPuzzles_2 : decode cL_setPuzzles 2 = .ok (.iconst 0, 1) := by decide +kernel
theorem dL_setPuzzles_3 : decode cL_setPuzzles 3 = .ok (.aload_n 0, 1) := by decide +kernel
theorem dL_setPuzzles_4 : decode cL_setPuzzles 4 = .ok (.iload_n 1, 1) := by decide +kernel
theorem dL_setPuzzles_5 : decode cL_setPuzzles 5 = .ok (.iload_n 2, 1) := by decide +kernel
theorem dL_setPuzzles_6 : decode cL_setPuzzles 6 = .ok (.iload_n 3, 1) := by decide +kernel
theorem dL_setPuzzles_7 : decode cL_setPuzzles 7 = .ok (.invokevirtual 7, 3) := by decide +kernel
theorem dL_setPuzzles_10 : decode cL_setPuzzles 10 = .ok (.i2l, 1) := by decide +kernel
theorem dL_setPuzzles_11 : decode cL_setPuzzles 11 = .ok (.lastore, 1) := by decide +kernel
theorem dL_setPuzzles_12 : decode cL_setPuzzles 12 = .ok (.goto 7, 3) := by decide +kernel
theorem dL_setPuzzles_15 : decode cL_setPuzzles 15 = .ok (.astore 5, 2) := by decide +kernel
theorem dL_setPuzzles_17 : decode cL_setPuzzles 17 = .ok (.iconst 1, 1) := by decide +kernel
theorem dL_setPuzzles_18 : decode cL_setPuzzles 18 = .ok (.ireturn, 1) := by decide +kernel
theorem dL_setPuzzles_19 : decode cL_setPuzzles 19 = .ok (.iconst 0, 1) := by decide +kernel
theorem dL_setPuzzles_20 : decode cL_setPuzzles 20 = .ok (.ireturn, 1) := by decide +kernel
set_option maxRecDepth 20000 in
theorem ggL_setQuotas_X5_setQuotas : GoodIn wsL_setQuotas wsX5_setQuotas := goodIn_ca (goodIn_r _ [6, 7, 8, 9, 10, 11, 5, 12, 13, 14, 15, 16, 17, 18, 19, 20, 21, 22, 23, 24, 25, 26, 27, 28, 29, 30, 31, 32, 33, 34, 35, 36, 37, 38, 39, 40, 41, 42, 43, 44, 45, 46, 47, 48, 49, 50, 51, 52, 53, 54, 55, 56, 57, 58, 59, 60, 61, 62, 63, 64, 65, 66, 67, 68, 69, 70, 71, 72, 73, 74, 75, 76, 77, 78, 79, 80, 81, 82, 83, 84, 85] (by decide +kernel) (by decide +kernel)) (goodIn_sub (fun _ h => List.mem_cons_of_mem _ (List.mem_append_right _ h)) (by decide +kernel))
set_option maxRecDepth 20000 in
theorem gL_setQuotas_X5_setQuotas : GoodIn wsL_setQuotas (wsV RL 15 RX5 yX5_setQuotas wsX5_setQuotas) := goodIn_app (goodIn_of _ (by decide +kernel)) ggL_setQuotas_X5_setQuotas
theorem dL_setQuotas_0 : decode cL_setQuotas 0 = .ok (.aload_n 3, 1) := by decide +kernel
theorem dL_setQuotas_1 : decode cL_setQuotas 1 = .ok (.iconst 0, 1) := by decide +kernel
theorem dL_setQuotas_2 : decode cL_setQuotas 2 = .ok (.aload_n 0, 1) := by decide +kernel
theorem dL_setQuotas_3 : decode cL_setQuotas 3 = .ok (.iload_n 1, 1) := by decide +kernel
theorem dL_setQuotas_4 : decode cL_setQuotas 4 = .ok (.iload_n 2, 1) := by decide +kernel
theorem dL_setQuotas_5 : decode cL_setQuotas 5 = .ok (.invokevirtual 15, 3) := by decide +kernel
theorem dL_setQuotas_8 : decode cL_setQuotas 8 = .ok (.i2l, 1) := by decide +kernel
theorem dL_setQuotas_9 : decode cL_setQuotas 9 = .ok (.lastore, 1) := by decide +kernel
theorem dL_setQuotas_10 : decode cL_setQuotas 10 = .ok (.goto 7, 3) := by decide +kernel
theorem dL_setQuotas_13 : decode cL_setQuotas 13 = .ok (.astore 4, 2) := by decide +kernel
theorem dL_setQuotas_15 : decode cL_setQuotas 15 = .ok (.iconst 1, 1) := by decide +kernel
theorem dL_setQuotas_16 : decode cL_setQuotas 16 = .ok (.ireturn, 1) := by decide +kernel
theorem dL_setQuotas_17 : decode cL_setQuotas 17 = .ok (.iconst 0, 1) := by decide +kernel
theorem dL_setQuotas_18 : decode cL_setQuotas 18 = .ok (.ireturn, 1) := by decide +kernel
set_option maxRecDepth 20000 in
theorem ggL_tick_X5_tick : GoodIn wsL_tick wsX5_tick := goodIn_ca (goodIn_ca (goodIn_ca (goodIn_r _ [6, 7, 8, 9, 5, 10, 11, 12, 13, 14, 15, 16, 17, 18, 19, 20, 21, 22, 23, 24, 25, 26, 27, 28, 29, 30, 31, 32, 33, 34, 35, 36, 37, 38, 39, 40, 41, 42, 43, 44, 45, 46, 47, 48, 49, 50, 51, 52, 53, 54, 55, 56, 57, 58, 59, 60, 61, 62, 63, 64, 65, 66, 67, 68, 69, 70, 71, 72, 73, 74, 75, 76, 77, 78, 79, 80, 81, 82, 83, 84, 85, 86, 87, 88, 89, 90, 91, 92, 93, 94, 95, 96, 97, 98, 99, 100, 101, 102, 103, 104, 105, 106, 107, 108, 109, 110, 111, 112, 113, 114] (by decide +kernel) (by decide +kernel)) (goodIn_sub (fun _ h => List.mem_cons_of_mem _ (List.mem_append_left _ (List.mem_append_left _ (List.mem_append_right _ h)))) (by decide +kernel))) (goodIn_sub (fun _ h => List.mem_cons_of_mem _ (List.mem_append_left _ (List.mem_append_right _ h))) (by decide +kernel))) (goodIn_sub (fun _ h => List.mem_cons_of_mem _ (List.mem_append_right _ h)) (by decide +kernel))
set_option maxRecDepth 20000 in
theorem gL_tick_X5_tick : GoodIn wsL_tick (wsV RL 19 RX5 yX5_tick wsX5_tick) := goodIn_app (goodIn_of _ (by decide +kernel)) ggL_tick_X5_tick
theorem dL_tick_0 : decode cL_tick 0 = .ok (.aload_n 2, 1) := by decide +kernel
theorem dL_tick_1 : decode cL_tick 1 = .ok (.iconst 0, 1) := by decide +kernel
theorem dL_tick_2 : decode cL_tick 2 = .ok (.aload_n 0, 1) := by decide +kernel
theorem dL_tick_3 : decode cL_tick 3 = .ok (.iload_n 1, 1) := by decide +kernel
theorem dL_tick_4 : decode cL_tick 4 = .ok (.invokevirtual 19, 3) := by decide +kernel
theorem dL_tick_7 : decode cL_tick 7 = .ok (.i2l, 1) := by decide +kernel
theorem dL_tick_8 : decode cL_tick 8 = .ok (.lastore, 1) := by decide +kernel
theorem dL_tick_9 : decode cL_tick 9 = .ok (.goto 6, 3) := by decide +kernel
theorem dL_tick_12 : decode cL_tick 12 = .ok (.astore_n 3, 1) := by decide +kernel
theorem dL_tick_13 : decode cL_tick 13 = .ok (.iconst 1, 1) := by decide +kernel
theorem dL_tick_14 : decode cL_tick 14 = .ok (.ireturn, 1) := by decide +kernel
theorem dL_tick_15 : decode cL_tick 15 = .ok (.iconst 0, 1) := by decide +kernel
theorem dL_tick_16 : decode cL_tick 16 = .ok (.ireturn, 1) := by decide +kernel
set_option maxRecDepth 20000 in
theorem ggL_solve_X5_solve : GoodIn wsL_solve wsX5_solve := goodIn_ca (goodIn_r _ [6, 7, 8, 9, 5, 10, 11, 12, 13, 14, 15, 16, 17, 18, 19, 20, 21, 22, 23, 24, 25, 26, 27, 28, 29, 30, 31, 32, 33, 34, 35, 36, 37, 38, 39, 40, 41, 42, 43, 44, 45, 46, 47, 48, 49, 50, 51, 52, 53, 54, 55, 56, 57, 58, 59, 60, 61, 62, 63, 64, 65, 66, 67, 68, 69, 70, 71, 72, 73, 74, 75, 76, 77, 78] (by decide +kernel) (by decide +kernel)) (goodIn_sub (fun _ h => List.mem_cons_of_mem _ (List.mem_append_right _ h)) (by decide +kernel))
set_option maxRecDepth 20000 in
theorem gL_solve_X5_solve : GoodIn wsL_solve (wsV RL 23 RX5 yX5_solve wsX5_solve) := goodIn_app (goodIn_of _ (by decide +kernel)) ggL_solve_X5_solve
theorem dL_solve_0 : decode cL_solve 0 = .ok (.aload_n 2, 1) := by decide +kernel
theorem dL_solve_1 : decode cL_solve 1 = .ok (.iconst 0, 1) := by decide +kernel
theorem dL_solve_2 : decode cL_solve 2 = .ok (.aload_n 0, 1) := by decide +kernel
theorem dL_solve_3 : decode cL_solve 3 = .ok (.iload_n 1, 1) := by decide +kernel
theorem dL_solve_4 : decode cL_solve 4 = .ok (.invokevirtual 23, 3) := by decide +kernel
theorem dL_solve_7 : decode cL_solve 7 = .ok (.i2l, 1) := by decide +kernel
theorem dL_solve_8 : decode cL_solve 8 = .ok (.lastore, 1) := by decide +kernel
theorem dL_solve_9 : decode cL_solve 9 = .ok (.goto 6, 3) := by decide +kernel
theorem dL_solve_12 : decode cL_solve 12 = .ok (.astore_n 3, 1) := by decide +kernel
theorem dL_solve_13 : decode cL_solve 13 = .ok (.iconst 1, 1) := by decide +kernel
theorem dL_solve_14 : decode cL_solve 14 = .ok (.ireturn, 1) := by decide +kernel
theorem dL_solve_15 : decode cL_solve 15 = .ok (.iconst 0, 1) := by decide +kernel
theorem dL_solve_16 : decode cL_solve 16 = .ok (.ireturn, 1) := by decide +kernel
set_option maxRecDepth 20000 in
theorem ggL_zeros_X5_zeros : GoodIn wsL_zeros wsX5_zeros := goodIn_ca (goodIn_r _ [6, 7, 8, 9, 5, 10, 11, 12, 13, 14, 15, 16, 17, 18, 19, 20, 21, 22, 23, 24, 25, 26, 27, 28, 29, 30, 31, 32, 33, 34, 35, 36, 37] (by decide +kernel) (by decide +kernel)) (goodIn_sub (fun _ h => List.mem_cons_of_mem _ (List.mem_append_right _ h)) (by decide +kernel))
set_option maxRecDepth 20000 in
theorem gL_zeros_X5_zeros : GoodIn wsL_zeros (wsV RL 26 RX5 yX5_zeros wsX5_zeros) := goodIn_app (goodIn_of _ (by decide +kernel)) ggL_zeros_X5_zeros
theorem dL_zeros_0 : decode cL_zeros 0 = .ok (.aload 4, 2) := by decide +kernel
theorem dL_zeros_2 : decode cL_zeros 2 = .ok (.iconst 0, 1) := by decide +kernel
theorem dL_zeros_3 : decode cL_zeros 3 = .ok (.aload_n 0, 1) := by decide +kernel
theorem dL_zeros_4 : decode cL_zeros 4 = .ok (.iload_n 1, 1) := by decide +kernel
theorem dL_zeros_5 : decode cL_zeros 5 = .ok (.iload_n 2, 1) := by decide +kernel
theorem dL_zeros_6 : decode cL_zeros 6 = .ok (.iload_n 3, 1) := by decide +kernel
theorem dL_zeros_7 : decode cL_zeros 7 = .ok (.invokevirtual 26, 3) := by decide +kernel
theorem dL_zeros_10 : decode cL_zeros 10 = .ok (.i2l, 1) := by decide +kernel
theorem dL_zeros_11 : decode cL_zeros 11 = .ok (.lastore, 1) := by decide +kernel
theorem dL_zeros_12 : decode cL_zeros 12 = .ok (.goto 7, 3) := by decide +kernel
theorem dL_zeros_15 : decode cL_zeros 15 = .ok (.astore 5, 2) := by decide +kernel
theorem dL_zeros_17 : decode cL_zeros 17 = .ok (.iconst 1, 1) := by decide +kernel
theorem dL_zeros_18 : decode cL_zeros 18 = .ok (.ireturn, 1) := by decide +kernel
theorem dL_zeros_19 : decode cL_zeros 19 = .ok (.iconst 0, 1) := by decide +kernel
theorem dL_zeros_20 : decode cL_zeros 20 = .ok (.ireturn, 1) := by decide +kernel
set_option maxRecDepth 20000 in
theorem ggL_join_X5_join : GoodIn wsL_join wsX5_join := goodIn_ca (goodIn_ca (goodIn_ca (goodIn_r _ [8, 9, 10, 11, 12, 13, 14, 15, 7, 16, 17, 18, 19, 20, 21, 22, 23, 24, 25, 26, 27, 28, 29, 30, 31, 32, 33, 34, 35, 36, 37, 38, 39, 40, 41, 42, 43, 44, 45, 46, 47, 48, 49, 50, 51, 52, 53, 54, 55, 56, 57, 58, 59, 60, 61, 62, 63, 64, 65, 66, 67, 68, 69, 70, 71, 72, 73, 74, 75, 76, 77, 78, 79, 80, 81, 82, 83, 84, 85, 86, 87, 88, 89, 90, 91, 92, 93, 94, 95, 96, 97, 98, 99, 100, 101, 102, 103, 104, 105, 106, 107, 108, 109, 110, 111, 112, 113, 114, 115, 116, 117, 118, 119, 120, 121, 122, 123, 124, 125, 126, 127, 128, 129, 130, 131, 132, 133, 134, 135, 136, 137, 138, 139, 140, 141, 142, 143, 144, 145, 146, 147, 148, 149, 150, 151, 152, 153, 154, 155, 156, 157, 158, 159, 160, 161, 162, 163, 164, 165, 166, 167, 168, 169, 170, 171, 172, 173, 174, 175, 176, 177, 178, 179, 180, 181, 182, 183, 184, 185, 186, 187, 188, 189, 190, 191, 192, 193, 194, 195, 196, 197, 198, 199, 200, 201, 202, 203, 204, 205, 206, 207, 208, 209, 210, 211, 212, 213, 214, 215, 216, 217, 218, 219, 220, 221, 222, 223, 224, 225, 226, 227, 228, 229, 230, 231, 232, 233, 234, 235, 236, 237, 238, 239, 240, 241, 242, 243, 244, 245, 246, 247, 248, 249, 250, 251, 252, 253, 254, 255, 256, 257] (by decide +kernel) (by decide +kernel)) (goodIn_sub (fun _ h => List.mem_cons_of_mem _ (List.mem_append_left _ (List.mem_append_left _ (List.mem_append_right _ h)))) (by decide +kernel))) (goodIn_sub (fun _ h => List.mem_cons_of_mem _ (List.mem_append_left _ (List.mem_append_right _ h))) (by decide +kernel))) (goodIn_sub (fun _ h => List.mem_cons_of_mem _ (List.mem_append_right _ h)) (by decide +kernel))
set_option maxRecDepth 20000 in
theorem gL_join_X5_join : GoodIn wsL_join (wsV RL 29 RX5 yX5_join wsX5_join) := goodIn_app (goodIn_of _ (by decide +kernel)) ggL_join_X5_join
theorem dL_join_0 : decode cL_join 0 = .ok (.aload 5, 2) := by decide +kernel
theorem dL_join_2 : decode cL_join 2 = .ok (.iconst 0, 1) := by decide +kernel
theorem dL_join_3 : decode cL_join 3 = .ok (.aload_n 0, 1) := by decide +kernel
theorem dL_join_4 : decode cL_join 4 = .ok (.iload_n 1, 1) := by decide +kernel
theorem dL_join_5 : decode cL_join 5 = .ok (.iload_n 2, 1) := by decide +kernel
theorem dL_join_6 : decode cL_join 6 = .ok (.iload_n 3, 1) := by decide +kernel
theorem dL_join_7 : decode cL_join 7 = .ok (.iload 4, 2) := by decide +kernel
theorem dL_join_9 : decode cL_join 9 = .ok (.invokevirtual 29, 3) := by decide +kernel
theorem dL_join_12 : decode cL_join 12 = .ok (.i2l, 1) := by decide +kernel
theorem dL_join_13 : decode cL_join 13 = .ok (.lastore, 1) := by decide +kernel
theorem dL_join_14 : decode cL_join 14 = .ok (.goto 15, 3) := by decide +kernel
theorem dL_join_17 : decode cL_join 17 = .ok (.astore 6, 2) := by decide +kernel
theorem dL_join_19 : decode cL_join 19 = .ok (.iconst 1, 1) := by decide +kernel
theorem dL_join_20 : decode cL_join 20 = .ok (.ireturn, 1) := by decide +kernel
theorem dL_join_21 : decode cL_join 21 = .ok (.astore 6, 2) := by decide +kernel
theorem dL_join_23 : decode cL_join 23 = .ok (.iconst 2, 1) := by decide +kernel
theorem dL_join_24 : decode cL_join 24 = .ok (.ireturn, 1) := by decide +kernel
theorem dL_join_25 : decode cL_join 25 = .ok (.astore 6, 2) := by decide +kernel
theorem dL_join_27 : decode cL_join 27 = .ok (.iconst 3, 1) := by decide +kernel
theorem dL_join_28 : decode cL_join 28 = .ok (.ireturn, 1) := by decide +kernel
theorem dL_join_29 : decode cL_join 29 = .ok (.iconst 0, 1) := by decide +kernel
theorem dL_join_30 : decode cL_join 30 = .ok (.ireturn, 1) := by decide +kernel
set_option maxRecDepth 20000 in
theorem ggL_admit_X5_admit : GoodIn wsL_admit wsX5_admit := goodIn_ca (goodIn_ca (goodIn_ca (goodIn_r _ [8, 9, 10, 11, 12, 13, 7, 14, 15, 16, 17, 18, 19, 20, 21, 22, 23, 24, 25, 26, 27, 28, 29, 30, 31, 32, 33, 34, 35, 36, 37, 38, 39, 40, 41, 42, 43, 44, 45, 46, 47, 48, 49, 50, 51, 52, 53, 54, 55, 56, 57, 58, 59, 60, 61, 62, 63, 64, 65, 66, 67, 68, 69, 70, 71, 72, 73, 74, 75, 76, 77, 78, 79, 80, 81, 82, 83, 84, 85, 86, 87, 88, 89, 90, 91, 92, 93, 94, 95, 96, 97, 98, 99, 100, 101, 102, 103, 104, 105, 106, 107, 108, 109, 110, 111, 112, 113, 114, 115, 116, 117, 118, 119, 120, 121, 122, 123, 124, 125, 126, 127, 128, 129, 130, 131, 132, 133, 134, 135, 136, 137, 138, 139, 140, 141, 142, 143, 144, 145, 146, 147, 148, 149, 150, 151, 152, 153, 154, 155, 156, 157, 158, 159, 160, 161, 162, 163, 164, 165, 166, 167, 168, 169, 170, 171, 172, 173, 174, 175, 176, 177, 178, 179, 180, 181, 182, 183, 184, 185, 186, 187, 188, 189, 190, 191, 192, 193, 194, 195, 196, 197, 198, 199, 200, 201, 202, 203, 204, 205, 206, 207, 208, 209, 210, 211, 212, 213, 214, 215, 216, 217, 218, 219, 220, 221, 222, 223, 224, 225, 226, 227, 228, 229, 230, 231, 232, 233, 234, 235, 236, 237, 238, 239, 240, 241, 242, 243, 244, 245, 246, 247, 248, 249, 250, 251, 252, 253, 254, 255] (by decide +kernel) (by decide +kernel)) (goodIn_sub (fun _ h => List.mem_cons_of_mem _ (List.mem_append_left _ (List.mem_append_left _ (List.mem_append_right _ h)))) (by decide +kernel))) (goodIn_sub (fun _ h => List.mem_cons_of_mem _ (List.mem_append_left _ (List.mem_append_right _ h))) (by decide +kernel))) (goodIn_sub (fun _ h => List.mem_cons_of_mem _ (List.mem_append_right _ h)) (by decide +kernel))
set_option maxRecDepth 20000 in
theorem gL_admit_X5_admit : GoodIn wsL_admit (wsV RL 37 RX5 yX5_admit wsX5_admit) := goodIn_app (goodIn_of _ (by decide +kernel)) ggL_admit_X5_admit
theorem dL_admit_0 : decode cL_admit 0 = .ok (.aload 4, 2) := by decide +kernel
theorem dL_admit_2 : decode cL_admit 2 = .ok (.iconst 0, 1) := by decide +kernel
theorem dL_admit_3 : decode cL_admit 3 = .ok (.aload_n 0, 1) := by decide +kernel
theorem dL_admit_4 : decode cL_admit 4 = .ok (.iload_n 1, 1) := by decide +kernel
theorem dL_admit_5 : decode cL_admit 5 = .ok (.iload_n 2, 1) := by decide +kernel
theorem dL_admit_6 : decode cL_admit 6 = .ok (.iload_n 3, 1) := by decide +kernel
theorem dL_admit_7 : decode cL_admit 7 = .ok (.invokevirtual 37, 3) := by decide +kernel
theorem dL_admit_10 : decode cL_admit 10 = .ok (.i2l, 1) := by decide +kernel
theorem dL_admit_11 : decode cL_admit 11 = .ok (.lastore, 1) := by decide +kernel
theorem dL_admit_12 : decode cL_admit 12 = .ok (.goto 15, 3) := by decide +kernel
theorem dL_admit_15 : decode cL_admit 15 = .ok (.astore 5, 2) := by decide +kernel
theorem dL_admit_17 : decode cL_admit 17 = .ok (.iconst 1, 1) := by decide +kernel
theorem dL_admit_18 : decode cL_admit 18 = .ok (.ireturn, 1) := by decide +kernel
theorem dL_admit_19 : decode cL_admit 19 = .ok (.astore 5, 2) := by decide +kernel
theorem dL_admit_21 : decode cL_admit 21 = .ok (.iconst 2, 1) := by decide +kernel
theorem dL_admit_22 : decode cL_admit 22 = .ok (.ireturn, 1) := by decide +kernel
theorem dL_admit_23 : decode cL_admit 23 = .ok (.astore 5, 2) := by decide +kernel
theorem dL_admit_25 : decode cL_admit 25 = .ok (.iconst 3, 1) := by decide +kernel
theorem dL_admit_26 : decode cL_admit 26 = .ok (.ireturn, 1) := by decide +kernel
theorem dL_admit_27 : decode cL_admit 27 = .ok (.iconst 0, 1) := by decide +kernel
theorem dL_admit_28 : decode cL_admit 28 = .ok (.ireturn, 1) := by decide +kernel
set_option maxRecDepth 20000 in
theorem ggL_leave_X5_leave : GoodIn wsL_leave wsX5_leave := goodIn_ca (goodIn_ca (goodIn_ca (goodIn_r _ [7, 8, 9, 10, 11, 12, 6, 13, 14, 15, 16, 17, 18, 19, 20, 21, 22, 23, 24, 25, 26, 27, 28, 29, 30, 31, 32, 33, 34, 35, 36, 37, 38, 39, 40, 41, 42, 43, 44, 45, 46, 47, 48, 49, 50, 51, 52, 53, 54, 55, 56, 57, 58, 59, 60, 61, 62, 63, 64, 65, 66, 67, 68, 69, 70, 71, 72, 73, 74, 75, 76, 77, 78, 79, 80, 81, 82, 83, 84, 85, 86, 87, 88, 89, 90, 91, 92, 93, 94, 95, 96, 97, 98, 99, 100, 101, 102] (by decide +kernel) (by decide +kernel)) (goodIn_sub (fun _ h => List.mem_cons_of_mem _ (List.mem_append_left _ (List.mem_append_left _ (List.mem_append_right _ h)))) (by decide +kernel))) (goodIn_sub (fun _ h => List.mem_cons_of_mem _ (List.mem_append_left _ (List.mem_append_right _ h))) (by decide +kernel))) (goodIn_sub (fun _ h => List.mem_cons_of_mem _ (List.mem_append_right _ h)) (by decide +kernel))
set_option maxRecDepth 20000 in
theorem gL_leave_X5_leave : GoodIn wsL_leave (wsV RL 40 RX5 yX5_leave wsX5_leave) := goodIn_app (goodIn_of _ (by decide +kernel)) ggL_leave_X5_leave
theorem dL_leave_0 : decode cL_leave 0 = .ok (.aload_n 2, 1) := by decide +kernel
theorem dL_leave_1 : decode cL_leave 1 = .ok (.iconst 0, 1) := by decide +kernel
theorem dL_leave_2 : decode cL_leave 2 = .ok (.aload_n 0, 1) := by decide +kernel
theorem dL_leave_3 : decode cL_leave 3 = .ok (.iload_n 1, 1) := by decide +kernel
theorem dL_leave_4 : decode cL_leave 4 = .ok (.invokevirtual 40, 3) := by decide +kernel
theorem dL_leave_7 : decode cL_leave 7 = .ok (.i2l, 1) := by decide +kernel
theorem dL_leave_8 : decode cL_leave 8 = .ok (.lastore, 1) := by decide +kernel
theorem dL_leave_9 : decode cL_leave 9 = .ok (.goto 9, 3) := by decide +kernel
theorem dL_leave_12 : decode cL_leave 12 = .ok (.astore_n 3, 1) := by decide +kernel
theorem dL_leave_13 : decode cL_leave 13 = .ok (.iconst 1, 1) := by decide +kernel
theorem dL_leave_14 : decode cL_leave 14 = .ok (.ireturn, 1) := by decide +kernel
theorem dL_leave_15 : decode cL_leave 15 = .ok (.astore_n 3, 1) := by decide +kernel
theorem dL_leave_16 : decode cL_leave 16 = .ok (.iconst 2, 1) := by decide +kernel
theorem dL_leave_17 : decode cL_leave 17 = .ok (.ireturn, 1) := by decide +kernel
theorem dL_leave_18 : decode cL_leave 18 = .ok (.iconst 0, 1) := by decide +kernel
theorem dL_leave_19 : decode cL_leave 19 = .ok (.ireturn, 1) := by decide +kernel
set_option maxRecDepth 20000 in
theorem ggL_swarm_X5_swarm : GoodIn wsL_swarm wsX5_swarm := goodIn_ca (goodIn_ca (goodIn_ca (goodIn_r _ [7, 8, 9, 10, 11, 6, 12, 13, 14, 15, 16, 17, 18, 19, 20, 21, 22, 23, 24, 25, 26, 27, 28, 29, 30, 31, 32, 33, 34, 35, 36, 37, 38, 39, 40, 41, 42, 43, 44, 45, 46, 47, 48, 49, 50, 51, 52, 53, 54, 55, 56, 57, 58, 59, 60, 61, 62, 63, 64, 65, 66, 67, 68, 69, 70, 71, 72, 73, 74, 75, 76, 77, 78, 79, 80, 81, 82, 83, 84, 85, 86, 87, 88, 89, 90, 91, 92, 93, 94, 95, 96, 97, 98, 99, 100, 101, 102, 103, 104, 105, 106, 107, 108, 109, 110, 111, 112, 113, 114, 115, 116, 117, 118, 119, 120, 121, 122, 123, 124, 125, 126, 127, 128, 129, 130, 131, 132, 133, 134, 135, 136, 137, 138, 139, 140, 141, 142, 143, 144, 145, 146, 147, 148, 149, 150, 151, 152, 153, 154, 155, 156, 157, 158, 159, 160, 161, 162, 163, 164, 165, 166, 167, 168, 169, 170, 171, 172, 173, 174, 175, 176, 177, 178, 179, 180, 181, 182, 183, 184, 185, 186, 187, 188, 189, 190, 191, 192, 193, 194, 195, 196, 197, 198, 199, 200, 201, 202, 203, 204, 205, 206, 207, 208, 209, 210, 211, 212, 213, 214, 215, 216, 217, 218, 219, 220, 221, 222, 223, 224, 225, 226, 227, 228, 229, 230, 231, 232, 233, 234, 235, 236, 237, 238, 239, 240, 241, 242, 243, 244, 245, 246, 247, 248, 249, 250, 251, 252, 253, 254, 255, 256, 257, 258, 259, 260, 261] (by decide +kernel) (by decide +kernel)) (goodIn_sub (fun _ h => List.mem_cons_of_mem _ (List.mem_append_left _ (List.mem_append_left _ (List.mem_append_right _ h)))) (by decide +kernel))) (goodIn_sub (fun _ h => List.mem_cons_of_mem _ (List.mem_append_left _ (List.mem_append_right _ h))) (by decide +kernel))) (goodIn_sub (fun _ h => List.mem_cons_of_mem _ (List.mem_append_right _ h)) (by decide +kernel))
set_option maxRecDepth 20000 in
theorem gL_swarm_X5_swarm : GoodIn wsL_swarm (wsV RL 43 RX5 yX5_swarm wsX5_swarm) := goodIn_app (goodIn_of _ (by decide +kernel)) ggL_swarm_X5_swarm
theorem dL_swarm_0 : decode cL_swarm 0 = .ok (.aload 6, 2) := by decide +kernel
theorem dL_swarm_2 : decode cL_swarm 2 = .ok (.iconst 0, 1) := by decide +kernel
theorem dL_swarm_3 : decode cL_swarm 3 = .ok (.aload_n 0, 1) := by decide +kernel
theorem dL_swarm_4 : decode cL_swarm 4 = .ok (.iload_n 1, 1) := by decide +kernel
theorem dL_swarm_5 : decode cL_swarm 5 = .ok (.iload_n 2, 1) := by decide +kernel
theorem dL_swarm_6 : decode cL_swarm 6 = .ok (.iload_n 3, 1) := by decide +kernel
theorem dL_swarm_7 : decode cL_swarm 7 = .ok (.iload 4, 2) := by decide +kernel
theorem dL_swarm_9 : decode cL_swarm 9 = .ok (.iload 5, 2) := by decide +kernel
theorem dL_swarm_11 : decode cL_swarm 11 = .ok (.invokevirtual 43, 3) := by decide +kernel
theorem dL_swarm_14 : decode cL_swarm 14 = .ok (.i2l, 1) := by decide +kernel
theorem dL_swarm_15 : decode cL_swarm 15 = .ok (.lastore, 1) := by decide +kernel
theorem dL_swarm_16 : decode cL_swarm 16 = .ok (.goto 11, 3) := by decide +kernel
theorem dL_swarm_19 : decode cL_swarm 19 = .ok (.astore 7, 2) := by decide +kernel
theorem dL_swarm_21 : decode cL_swarm 21 = .ok (.iconst 1, 1) := by decide +kernel
theorem dL_swarm_22 : decode cL_swarm 22 = .ok (.ireturn, 1) := by decide +kernel
theorem dL_swarm_23 : decode cL_swarm 23 = .ok (.astore 7, 2) := by decide +kernel
theorem dL_swarm_25 : decode cL_swarm 25 = .ok (.iconst 2, 1) := by decide +kernel
theorem dL_swarm_26 : decode cL_swarm 26 = .ok (.ireturn, 1) := by decide +kernel
theorem dL_swarm_27 : decode cL_swarm 27 = .ok (.iconst 0, 1) := by decide +kernel
theorem dL_swarm_28 : decode cL_swarm 28 = .ok (.ireturn, 1) := by decide +kernel
set_option maxRecDepth 20000 in
theorem ggL_lookup_X5_lookup : GoodIn wsL_lookup wsX5_lookup := goodIn_ca (goodIn_ca (goodIn_ca (goodIn_r _ [7, 8, 9, 10, 11, 12, 6, 13, 14, 15, 16, 17, 18, 19, 20, 21, 22, 23, 24, 25, 26, 27, 28, 29, 30, 31, 32, 33, 34, 35, 36, 37, 38, 39, 40, 41, 42, 43, 44, 45, 46, 47, 48, 49, 50, 51, 52, 53, 54, 55, 56, 57, 58, 59, 60, 61, 62, 63, 64, 65, 66, 67, 68, 69, 70, 71, 72, 73, 74, 75, 76, 77, 78, 79, 80, 81, 82, 83, 84, 85, 86, 87, 88, 89, 90, 91, 92, 93, 94, 95, 96, 97, 98, 99, 100, 101, 102, 103, 104, 105, 106, 107, 108, 109, 110, 111, 112, 113, 114, 115, 116, 117, 118, 119, 120, 121, 122, 123, 124, 125, 126, 127, 128, 129, 130, 131, 132, 133, 134, 135, 136, 137, 138, 139, 140, 141, 142, 143, 144, 145, 146, 147, 148, 149, 150, 151, 152, 153, 154, 155, 156, 157, 158, 159, 160, 161, 162, 163, 164, 165, 166, 167, 168, 169, 170, 171, 172, 173, 174, 175, 176, 177, 178, 179, 180, 181, 182, 183, 184, 185, 186, 187, 188, 189, 190, 191, 192, 193, 194, 195, 196, 197, 198, 199, 200, 201, 202, 203, 204, 205, 206] (by decide +kernel) (by decide +kernel)) (goodIn_sub (fun _ h => List.mem_cons_of_mem _ (List.mem_append_left _ (List.mem_append_left _ (List.mem_append_right _ h)))) (by decide +kernel))) (goodIn_sub (fun _ h => List.mem_cons_of_mem _ (List.mem_append_left _ (List.mem_append_right _ h))) (by decide +kernel))) (goodIn_sub (fun _ h => List.mem_cons_of_mem _ (List.mem_append_right _ h)) (by decide +kernel))
set_option maxRecDepth 20000 in
theorem gL_lookup_X5_lookup : GoodIn wsL_lookup (wsV RL 47 RX5 yX5_lookup wsX5_lookup) := goodIn_app (goodIn_of _ (by decide +kernel)) ggL_lookup_X5_lookup
theorem dL_lookup_0 : decode cL_lookup 0 = .ok (.aload_n 3, 1) := by decide +kernel
theorem dL_lookup_1 : decode cL_lookup 1 = .ok (.iconst 0, 1) := by decide +kernel
theorem dL_lookup_2 : decode cL_lookup 2 = .ok (.aload_n 0, 1) := by decide +kernel
theorem dL_lookup_3 : decode cL_lookup 3 = .ok (.iload_n 1, 1) := by decide +kernel
theorem dL_lookup_4 : decode cL_lookup 4 = .ok (.iload_n 2, 1) := by decide +kernel
theorem dL_lookup_5 : decode cL_lookup 5 = .ok (.invokevirtual 47, 3) := by decide +kernel
theorem dL_lookup_8 : decode cL_lookup 8 = .ok (.i2l, 1) := by decide +kernel
theorem dL_lookup_9 : decode cL_lookup 9 = .ok (.lastore, 1) := by decide +kernel
theorem dL_lookup_10 : decode cL_lookup 10 = .ok (.goto 11, 3) := by decide +kernel
theorem dL_lookup_13 : decode cL_lookup 13 = .ok (.astore 4, 2) := by decide +kernel
theorem dL_lookup_15 : decode cL_lookup 15 = .ok (.iconst 1, 1) := by decide +kernel
theorem dL_lookup_16 : decode cL_lookup 16 = .ok (.ireturn, 1) := by decide +kernel
theorem dL_lookup_17 : decode cL_lookup 17 = .ok (.astore 4, 2) := by decide +kernel
theorem dL_lookup_19 : decode cL_lookup 19 = .ok (.iconst 2, 1) := by decide +kernel
theorem dL_lookup_20 : decode cL_lookup 20 = .ok (.ireturn, 1) := by decide +kernel
theorem dL_lookup_21 : decode cL_lookup 21 = .ok (.iconst 0, 1) := by decide +kernel
theorem dL_lookup_22 : decode cL_lookup 22 = .ok (.ireturn, 1) := by decide +kernel
set_option maxRecDepth 20000 in
theorem ggL_probe_X5_probe : GoodIn wsL_probe wsX5_probe := goodIn_ca (goodIn_ca (goodIn_ca (goodIn_r _ [7, 8, 9, 10, 11, 12, 13, 14, 15, 6, 16, 17, 18, 19, 20, 21, 22, 23, 24, 25, 26, 27, 28, 29, 30, 31, 32, 33, 34, 35, 36, 37, 38, 39, 40, 41, 42, 43, 44, 45, 46, 47, 48, 49, 50, 51, 52, 53, 54, 55, 56, 57, 58, 59, 60, 61, 62, 63, 64, 65, 66, 67, 68, 69, 70, 71, 72, 73, 74, 75, 76, 77, 78, 79, 80, 81, 82, 83, 84, 85, 86, 87, 88, 89, 90, 91, 92, 93, 94, 95, 96, 97, 98, 99, 100, 101, 102, 103, 104, 105, 106, 107, 108, 109, 110, 111, 112, 113, 114, 115, 116, 117, 118, 119, 120, 121, 122, 123, 124, 125] (by decide +kernel) (by decide +kernel)) (goodIn_sub (fun _ h => List.mem_cons_of_mem _ (List.mem_append_left _ (List.mem_append_left _ (List.mem_append_right _ h)))) (by decide +kernel))) (goodIn_sub (fun _ h => List.mem_cons_of_mem _ (List.mem_append_left _ (List.mem_append_right _ h))) (by decide +kernel))) (goodIn_sub (fun _ h => List.mem_cons_of_mem _ (List.mem_append_right _ h)) (by decide +kernel))
set_option maxRecDepth 20000 in
theorem gL_probe_X5_probe : GoodIn wsL_probe (wsV RL 50 RX5 yX5_probe wsX5_probe) := goodIn_app (goodIn_of _ (by decide +kernel)) ggL_probe_X5_probe
theorem dL_probe_0 : decode cL_probe 0 = .ok (.aload 4, 2) := by decide +kernel
theorem dL_probe_2 : decode cL_probe 2 = .ok (.iconst 0, 1) := by decide +kernel
theorem dL_probe_3 : decode cL_probe 3 = .ok (.aload_n 0, 1) := by decide +kernel
theorem dL_probe_4 : decode cL_probe 4 = .ok (.iload_n 1, 1) := by decide +kernel
theorem dL_probe_5 : decode cL_probe 5 = .ok (.iload_n 2, 1) := by decide +kernel
theorem dL_probe_6 : decode cL_probe 6 = .ok (.iload_n 3, 1) := by decide +kernel
theorem dL_probe_7 : decode cL_probe 7 = .ok (.invokevirtual 50, 3) := by decide +kernel
theorem dL_probe_10 : decode cL_probe 10 = .ok (.i2l, 1) := by decide +kernel
theorem dL_probe_11 : decode cL_probe 11 = .ok (.lastore, 1) := by decide +kernel
theorem dL_probe_12 : decode cL_probe 12 = .ok (.goto 11, 3) := by decide +kernel
theorem dL_probe_15 : decode cL_probe 15 = .ok (.astore 5, 2) := by decide +kernel
theorem dL_probe_17 : decode cL_probe 17 = .ok (.iconst 1, 1) := by decide +kernel
theorem dL_probe_18 : decode cL_probe 18 = .ok (.ireturn, 1) := by decide +kernel
theorem dL_probe_19 : decode cL_probe 19 = .ok (.astore 5, 2) := by decide +kernel
theorem dL_probe_21 : decode cL_probe 21 = .ok (.iconst 2, 1) := by decide +kernel
theorem dL_probe_22 : decode cL_probe 22 = .ok (.ireturn, 1) := by decide +kernel
theorem dL_probe_23 : decode cL_probe 23 = .ok (.iconst 0, 1) := by decide +kernel
theorem dL_probe_24 : decode cL_probe 24 = .ok (.ireturn, 1) := by decide +kernel
set_option maxRecDepth 20000 in
theorem ggL_reach_X5_reach : GoodIn wsL_reach wsX5_reach := goodIn_ca (goodIn_ca (goodIn_ca (goodIn_r _ [7, 8, 9, 10, 11, 12, 13, 6, 14, 15, 16, 17, 18, 19, 20, 21, 22, 23, 24, 25, 26, 27, 28, 29, 30, 31, 32, 33, 34, 35, 36, 37, 38, 39, 40, 41, 42, 43, 44, 45, 46, 47, 48, 49, 50, 51, 52, 53, 54, 55, 56, 57, 58, 59, 60, 61, 62, 63, 64, 65, 66, 67, 68, 69, 70, 71, 72, 73, 74, 75, 76, 77, 78, 79, 80, 81, 82, 83, 84, 85, 86, 87, 88, 89, 90, 91, 92, 93, 94, 95, 96, 97, 98, 99, 100, 101, 102, 103, 104, 105, 106, 107, 108, 109, 110, 111, 112, 113, 114, 115] (by decide +kernel) (by decide +kernel)) (goodIn_sub (fun _ h => List.mem_cons_of_mem _ (List.mem_append_left _ (List.mem_append_left _ (List.mem_append_right _ h)))) (by decide +kernel))) (goodIn_sub (fun _ h => List.mem_cons_of_mem _ (List.mem_append_left _ (List.mem_append_right _ h))) (by decide +kernel))) (goodIn_sub (fun _ h => List.mem_cons_of_mem _ (List.mem_append_right _ h)) (by decide +kernel))
set_option maxRecDepth 20000 in
theorem gL_reach_X5_reach : GoodIn wsL_reach (wsV RL 53 RX5 yX5_reach wsX5_reach) := goodIn_app (goodIn_of _ (by decide +kernel)) ggL_reach_X5_reach
theorem dL_reach_0 : decode cL_reach 0 = .ok (.aload_n 2, 1) := by decide +kernel
theorem dL_reach_1 : decode cL_reach 1 = .ok (.iconst 0, 1) := by decide +kernel
theorem dL_reach_2 : decode cL_reach 2 = .ok (.aload_n 0, 1) := by decide +kernel
theorem dL_reach_3 : decode cL_reach 3 = .ok (.iload_n 1, 1) := by decide +kernel
theorem dL_reach_4 : decode cL_reach 4 = .ok (.invokevirtual 53, 3) := by decide +kernel
theorem dL_reach_7 : decode cL_reach 7 = .ok (.i2l, 1) := by decide +kernel
theorem dL_reach_8 : decode cL_reach 8 = .ok (.lastore, 1) := by decide +kernel
theorem dL_reach_9 : decode cL_reach 9 = .ok (.goto 9, 3) := by decide +kernel
theorem dL_reach_12 : decode cL_reach 12 = .ok (.astore_n 3, 1) := by decide +kernel
theorem dL_reach_13 : decode cL_reach 13 = .ok (.iconst 1, 1) := by decide +kernel
theorem dL_reach_14 : decode cL_reach 14 = .ok (.ireturn, 1) := by decide +kernel
theorem dL_reach_15 : decode cL_reach 15 = .ok (.astore_n 3, 1) := by decide +kernel
theorem dL_reach_16 : decode cL_reach 16 = .ok (.iconst 2, 1) := by decide +kernel
theorem dL_reach_17 : decode cL_reach 17 = .ok (.ireturn, 1) := by decide +kernel
theorem dL_reach_18 : decode cL_reach 18 = .ok (.iconst 0, 1) := by decide +kernel
theorem dL_reach_19 : decode cL_reach 19 = .ok (.ireturn, 1) := by decide +kernel
set_option maxRecDepth 20000 in
theorem ggL_member_X5_member : GoodIn wsL_member wsX5_member := goodIn_ca (goodIn_r _ [6, 7, 8, 5, 9, 10, 11, 12, 13, 14, 15, 16, 17, 18, 19, 20, 21, 22, 23, 24, 25, 26, 27, 28, 29, 30, 31, 32, 33, 34, 35, 36, 37, 38, 39, 40, 41, 42, 43, 44, 45, 46, 47, 48, 49, 50, 51, 52, 53, 54, 55, 56, 57, 58, 59, 60, 61, 62, 63, 64, 65, 66, 67, 68, 69, 70, 71, 72, 73, 74, 75, 76, 77, 78, 79, 80, 81, 82] (by decide +kernel) (by decide +kernel)) (goodIn_sub (fun _ h => List.mem_cons_of_mem _ (List.mem_append_right _ h)) (by decide +kernel))
set_option maxRecDepth 20000 in
theorem gL_member_X5_member : GoodIn wsL_member (wsV RL 56 RX5 yX5_member wsX5_member) := goodIn_app (goodIn_of _ (by decide +kernel)) ggL_member_X5_member
theorem dL_member_0 : decode cL_member 0 = .ok (.aload_n 3, 1) := by decide +kernel
theorem dL_member_1 : decode cL_member 1 = .ok (.iconst 0, 1) := by decide +kernel
theorem dL_member_2 : decode cL_member 2 = .ok (.aload_n 0, 1) := by decide +kernel
theorem dL_member_3 : decode cL_member 3 = .ok (.iload_n 1, 1) := by decide +kernel
theorem dL_member_4 : decode cL_member 4 = .ok (.iload_n 2, 1) := by decide +kernel
theorem dL_member_5 : decode cL_member 5 = .ok (.invokevirtual 56, 3) := by decide +kernel
theorem dL_member_8 : decode cL_member 8 = .ok (.i2l, 1) := by decide +kernel
theorem dL_member_9 : decode cL_member 9 = .ok (.lastore, 1) := by decide +kernel
theorem dL_member_10 : decode cL_member 10 = .ok (.goto 7, 3) := by decide +kernel
theorem dL_member_13 : decode cL_member 13 = .ok (.astore 4, 2) := by decide +kernel
theorem dL_member_15 : decode cL_member 15 = .ok (.iconst 1, 1) := by decide +kernel
theorem dL_member_16 : decode cL_member 16 = .ok (.ireturn, 1) := by decide +kernel
theorem dL_member_17 : decode cL_member 17 = .ok (.iconst 0, 1) := by decide +kernel
theorem dL_member_18 : decode cL_member 18 = .ok (.ireturn, 1) := by decide +kernel
set_option maxRecDepth 20000 in
theorem ggL_memberAt_X5_memberAt : GoodIn wsL_memberAt wsX5_memberAt := goodIn_ca (goodIn_r _ [6, 7, 8, 9, 5, 10, 11, 12, 13, 14, 15, 16, 17, 18, 19, 20, 21, 22, 23, 24, 25, 26, 27, 28, 29, 30, 31, 32, 33, 34, 35, 36, 37, 38, 39] (by decide +kernel) (by decide +kernel)) (goodIn_sub (fun _ h => List.mem_cons_of_mem _ (List.mem_append_right _ h)) (by decide +kernel))
set_option maxRecDepth 20000 in
theorem gL_memberAt_X5_memberAt : GoodIn wsL_memberAt (wsV RL 59 RX5 yX5_memberAt wsX5_memberAt) := goodIn_app (goodIn_of _ (by decide +kernel)) ggL_memberAt_X5_memberAt
theorem dL_memberAt_0 : decode cL_memberAt 0 = .ok (.aload_n 2, 1) := by decide +kernel
theorem dL_memberAt_1 : decode cL_memberAt 1 = .ok (.iconst 0, 1) := by decide +kernel
theorem dL_memberAt_2 : decode cL_memberAt 2 = .ok (.aload_n 0, 1) := by decide +kernel
theorem dL_memberAt_3 : decode cL_memberAt 3 = .ok (.iload_n 1, 1) := by decide +kernel
theorem dL_memberAt_4 : decode cL_memberAt 4 = .ok (.invokevirtual 59, 3) := by decide +kernel
theorem dL_memberAt_7 : decode cL_memberAt 7 = .ok (.i2l, 1) := by decide +kernel
theorem dL_memberAt_8 : decode cL_memberAt 8 = .ok (.lastore, 1) := by decide +kernel
theorem dL_memberAt_9 : decode cL_memberAt 9 = .ok (.goto 6, 3) := by decide +kernel
theorem dL_memberAt_12 : decode cL_memberAt 12 = .ok (.astore_n 3, 1) := by decide +kernel
theorem dL_memberAt_13 : decode cL_memberAt 13 = .ok (.iconst 1, 1) := by decide +kernel
theorem dL_memberAt_14 : decode cL_memberAt 14 = .ok (.ireturn, 1) := by decide +kernel
theorem dL_memberAt_15 : decode cL_memberAt 15 = .ok (.iconst 0, 1) := by decide +kernel
theorem dL_memberAt_16 : decode cL_memberAt 16 = .ok (.ireturn, 1) := by decide +kernel
set_option maxRecDepth 20000 in
theorem ggL_entry_X5_entry : GoodIn wsL_entry wsX5_entry := goodIn_ca (goodIn_ca (goodIn_ca (goodIn_r _ [7, 8, 9, 10, 11, 12, 13, 14, 15, 6, 16, 17, 18, 19, 20, 21, 22, 23, 24, 25, 26, 27, 28, 29, 30, 31, 32, 33, 34, 35, 36, 37, 38, 39, 40, 41, 42, 43, 44, 45, 46, 47, 48, 49, 50, 51, 52, 53, 54, 55, 56, 57, 58, 59, 60, 61, 62, 63, 64, 65, 66, 67, 68, 69] (by decide +kernel) (by decide +kernel)) (goodIn_sub (fun _ h => List.mem_cons_of_mem _ (List.mem_append_left _ (List.mem_append_left _ (List.mem_append_right _ h)))) (by decide +kernel))) (goodIn_sub (fun _ h => List.mem_cons_of_mem _ (List.mem_append_left _ (List.mem_append_right _ h))) (by decide +kernel))) (goodIn_sub (fun _ h => List.mem_cons_of_mem _ (List.mem_append_right _ h)) (by decide +kernel))
set_option maxRecDepth 20000 in
theorem gL_entry_X5_entry : GoodIn wsL_entry (wsV RL 62 RX5 yX5_entry wsX5_entry) := goodIn_app (goodIn_of _ (by decide +kernel)) ggL_entry_X5_entry
theorem dL_entry_0 : decode cL_entry 0 = .ok (.aload 5, 2) := by decide +kernel
theorem dL_entry_2 : decode cL_entry 2 = .ok (.iconst 0, 1) := by decide +kernel
theorem dL_entry_3 : decode cL_entry 3 = .ok (.aload_n 0, 1) := by decide +kernel
theorem dL_entry_4 : decode cL_entry 4 = .ok (.iload_n 1, 1) := by decide +kernel
theorem dL_entry_5 : decode cL_entry 5 = .ok (.iload_n 2, 1) := by decide +kernel
theorem dL_entry_6 : decode cL_entry 6 = .ok (.iload_n 3, 1) := by decide +kernel
theorem dL_entry_7 : decode cL_entry 7 = .ok (.iload 4, 2) := by decide +kernel
theorem dL_entry_9 : decode cL_entry 9 = .ok (.invokevirtual 62, 3) := by decide +kernel
theorem dL_entry_12 : decode cL_entry 12 = .ok (.i2l, 1) := by decide +kernel
theorem dL_entry_13 : decode cL_entry 13 = .ok (.lastore, 1) := by decide +kernel
theorem dL_entry_14 : decode cL_entry 14 = .ok (.goto 11, 3) := by decide +kernel
theorem dL_entry_17 : decode cL_entry 17 = .ok (.astore 6, 2) := by decide +kernel
theorem dL_entry_19 : decode cL_entry 19 = .ok (.iconst 1, 1) := by decide +kernel
theorem dL_entry_20 : decode cL_entry 20 = .ok (.ireturn, 1) := by decide +kernel
theorem dL_entry_21 : decode cL_entry 21 = .ok (.astore 6, 2) := by decide +kernel
theorem dL_entry_23 : decode cL_entry 23 = .ok (.iconst 2, 1) := by decide +kernel
theorem dL_entry_24 : decode cL_entry 24 = .ok (.ireturn, 1) := by decide +kernel
theorem dL_entry_25 : decode cL_entry 25 = .ok (.iconst 0, 1) := by decide +kernel
theorem dL_entry_26 : decode cL_entry 26 = .ok (.ireturn, 1) := by decide +kernel
set_option maxRecDepth 20000 in
theorem ggL_share_X5_share : GoodIn wsL_share wsX5_share := goodIn_ca (goodIn_ca (goodIn_ca (goodIn_r _ [7, 8, 9, 10, 11, 12, 6, 13, 14, 15, 16, 17, 18, 19, 20, 21, 22, 23, 24, 25, 26, 27, 28, 29, 30, 31, 32, 33, 34, 35, 36, 37, 38, 39, 40, 41, 42, 43, 44, 45, 46, 47, 48, 49, 50, 51, 52, 53, 54, 55, 56, 57, 58, 59, 60, 61, 62, 63, 64, 65, 66, 67, 68, 69, 70, 71, 72, 73, 74] (by decide +kernel) (by decide +kernel)) (goodIn_sub (fun _ h => List.mem_cons_of_mem _ (List.mem_append_left _ (List.mem_append_left _ (List.mem_append_right _ h)))) (by decide +kernel))) (goodIn_sub (fun _ h => List.mem_cons_of_mem _ (List.mem_append_left _ (List.mem_append_right _ h))) (by decide +kernel))) (goodIn_sub (fun _ h => List.mem_cons_of_mem _ (List.mem_append_right _ h)) (by decide +kernel))
set_option maxRecDepth 20000 in
theorem gL_share_X5_share : GoodIn wsL_share (wsV RL 65 RX5 yX5_share wsX5_share) := goodIn_app (goodIn_of _ (by decide +kernel)) ggL_share_X5_share
theorem dL_share_0 : decode cL_share 0 = .ok (.aload_n 3, 1) := by decide +kernel
theorem dL_share_1 : decode cL_share 1 = .ok (.iconst 0, 1) := by decide +kernel
theorem dL_share_2 : decode cL_share 2 = .ok (.aload_n 0, 1) := by decide +kernel
theorem dL_share_3 : decode cL_share 3 = .ok (.iload_n 1, 1) := by decide +kernel
theorem dL_share_4 : decode cL_share 4 = .ok (.iload_n 2, 1) := by decide +kernel
theorem dL_share_5 : decode cL_share 5 = .ok (.invokevirtual 65, 3) := by decide +kernel
theorem dL_share_8 : decode cL_share 8 = .ok (.i2l, 1) := by decide +kernel
theorem dL_share_9 : decode cL_share 9 = .ok (.lastore, 1) := by decide +kernel
theorem dL_share_10 : decode cL_share 10 = .ok (.goto 11, 3) := by decide +kernel
theorem dL_share_13 : decode cL_share 13 = .ok (.astore 4, 2) := by decide +kernel
theorem dL_share_15 : decode cL_share 15 = .ok (.iconst 1, 1) := by decide +kernel
theorem dL_share_16 : decode cL_share 16 = .ok (.ireturn, 1) := by decide +kernel
theorem dL_share_17 : decode cL_share 17 = .ok (.astore 4, 2) := by decide +kernel
theorem dL_share_19 : decode cL_share 19 = .ok (.iconst 2, 1) := by decide +kernel
theorem dL_share_20 : decode cL_share 20 = .ok (.ireturn, 1) := by decide +kernel
theorem dL_share_21 : decode cL_share 21 = .ok (.iconst 0, 1) := by decide +kernel
theorem dL_share_22 : decode cL_share 22 = .ok (.ireturn, 1) := by decide +kernel
set_option maxRecDepth 20000 in
theorem ggL_overlay_X5_overlay : GoodIn wsL_overlay wsX5_overlay := goodIn_ca (goodIn_r _ [6, 7, 8, 5, 9, 10, 11, 12, 13, 14, 15, 16, 17, 18, 19, 20, 21, 22, 23, 24, 25, 26, 27, 28, 29, 30, 31, 32, 33, 34, 35, 36, 37, 38, 39, 40, 41, 42, 43, 44, 45, 46, 47, 48, 49, 50, 51, 52, 53, 54, 55, 56, 57, 58, 59, 60, 61, 62, 63, 64, 65, 66, 67, 68, 69, 70, 71, 72, 73, 74, 75, 76] (by decide +kernel) (by decide +kernel)) (goodIn_sub (fun _ h => List.mem_cons_of_mem _ (List.mem_append_right _ h)) (by decide +kernel))
set_option maxRecDepth 20000 in
theorem gL_overlay_X5_overlay : GoodIn wsL_overlay (wsV RL 68 RX5 yX5_overlay wsX5_overlay) := goodIn_app (goodIn_of _ (by decide +kernel)) ggL_overlay_X5_overlay
theorem dL_overlay_0 : decode cL_overlay 0 = .ok (.aload_n 2, 1) := by decide +kernel
theorem dL_overlay_1 : decode cL_overlay 1 = .ok (.iconst 0, 1) := by decide +kernel
theorem dL_overlay_2 : decode cL_overlay 2 = .ok (.aload_n 0, 1) := by decide +kernel
theorem dL_overlay_3 : decode cL_overlay 3 = .ok (.iload_n 1, 1) := by decide +kernel
theorem dL_overlay_4 : decode cL_overlay 4 = .ok (.invokevirtual 68, 3) := by decide +kernel
theorem dL_overlay_7 : decode cL_overlay 7 = .ok (.i2l, 1) := by decide +kernel
theorem dL_overlay_8 : decode cL_overlay 8 = .ok (.lastore, 1) := by decide +kernel
theorem dL_overlay_9 : decode cL_overlay 9 = .ok (.goto 6, 3) := by decide +kernel
theorem dL_overlay_12 : decode cL_overlay 12 = .ok (.astore_n 3, 1) := by decide +kernel
theorem dL_overlay_13 : decode cL_overlay 13 = .ok (.iconst 1, 1) := by decide +kernel
theorem dL_overlay_14 : decode cL_overlay 14 = .ok (.ireturn, 1) := by decide +kernel
theorem dL_overlay_15 : decode cL_overlay 15 = .ok (.iconst 0, 1) := by decide +kernel
theorem dL_overlay_16 : decode cL_overlay 16 = .ok (.ireturn, 1) := by decide +kernel
set_option maxRecDepth 20000 in
theorem ggL_count_X5_count : GoodIn wsL_count wsX5_count := goodIn_ca (goodIn_r _ [6, 7, 8, 9, 10, 5, 11, 12, 13, 14, 15, 16, 17, 18, 19, 20, 21, 22, 23, 24, 25, 26, 27, 28, 29, 30, 31, 32, 33, 34, 35, 36, 37] (by decide +kernel) (by decide +kernel)) (goodIn_sub (fun _ h => List.mem_cons_of_mem _ (List.mem_append_right _ h)) (by decide +kernel))
set_option maxRecDepth 20000 in
theorem gL_count_X5_count : GoodIn wsL_count (wsV RL 71 RX5 yX5_count wsX5_count) := goodIn_app (goodIn_of _ (by decide +kernel)) ggL_count_X5_count
theorem dL_count_0 : decode cL_count 0 = .ok (.aload_n 2, 1) := by decide +kernel
theorem dL_count_1 : decode cL_count 1 = .ok (.iconst 0, 1) := by decide +kernel
theorem dL_count_2 : decode cL_count 2 = .ok (.aload_n 0, 1) := by decide +kernel
theorem dL_count_3 : decode cL_count 3 = .ok (.iload_n 1, 1) := by decide +kernel
theorem dL_count_4 : decode cL_count 4 = .ok (.invokevirtual 71, 3) := by decide +kernel
theorem dL_count_7 : decode cL_count 7 = .ok (.i2l, 1) := by decide +kernel
theorem dL_count_8 : decode cL_count 8 = .ok (.lastore, 1) := by decide +kernel
theorem dL_count_9 : decode cL_count 9 = .ok (.goto 6, 3) := by decide +kernel
theorem dL_count_12 : decode cL_count 12 = .ok (.astore_n 3, 1) := by decide +kernel
theorem dL_count_13 : decode cL_count 13 = .ok (.iconst 1, 1) := by decide +kernel
theorem dL_count_14 : decode cL_count 14 = .ok (.ireturn, 1) := by decide +kernel
theorem dL_count_15 : decode cL_count 15 = .ok (.iconst 0, 1) := by decide +kernel
theorem dL_count_16 : decode cL_count 16 = .ok (.ireturn, 1) := by decide +kernel
set_option maxRecDepth 20000 in
theorem ggL_type_X5_type : GoodIn wsL_type wsX5_type := goodIn_ca (goodIn_ca (goodIn_r _ [7, 8, 9, 10, 11, 12, 13, 14, 6, 15, 16, 17, 18, 19, 20, 21, 22, 23, 24, 25, 26, 27, 28, 29, 30, 31, 32, 33] (by decide +kernel) (by decide +kernel)) (goodIn_sub (fun _ h => List.mem_cons_of_mem _ (List.mem_append_left _ (List.mem_append_right _ h))) (by decide +kernel))) (goodIn_sub (fun _ h => List.mem_cons_of_mem _ (List.mem_append_right _ h)) (by decide +kernel))
set_option maxRecDepth 20000 in
theorem gL_type_X5_type : GoodIn wsL_type (wsV RL 74 RX5 yX5_type wsX5_type) := goodIn_app (goodIn_of _ (by decide +kernel)) ggL_type_X5_type
theorem dL_type_0 : decode cL_type 0 = .ok (.aload_n 2, 1) := by decide +kernel
theorem dL_type_1 : decode cL_type 1 = .ok (.iconst 0, 1) := by decide +kernel
theorem dL_type_2 : decode cL_type 2 = .ok (.aload_n 0, 1) := by decide +kernel
theorem dL_type_3 : decode cL_type 3 = .ok (.iload_n 1, 1) := by decide +kernel
theorem dL_type_4 : decode cL_type 4 = .ok (.invokevirtual 74, 3) := by decide +kernel
theorem dL_type_7 : decode cL_type 7 = .ok (.i2l, 1) := by decide +kernel
theorem dL_type_8 : decode cL_type 8 = .ok (.lastore, 1) := by decide +kernel
theorem dL_type_9 : decode cL_type 9 = .ok (.goto 9, 3) := by decide +kernel
theorem dL_type_12 : decode cL_type 12 = .ok (.astore_n 3, 1) := by decide +kernel
theorem dL_type_13 : decode cL_type 13 = .ok (.iconst 1, 1) := by decide +kernel
theorem dL_type_14 : decode cL_type 14 = .ok (.ireturn, 1) := by decide +kernel
theorem dL_type_15 : decode cL_type 15 = .ok (.astore_n 3, 1) := by decide +kernel
theorem dL_type_16 : decode cL_type 16 = .ok (.iconst 2, 1) := by decide +kernel
theorem dL_type_17 : decode cL_type 17 = .ok (.ireturn, 1) := by decide +kernel
theorem dL_type_18 : decode cL_type 18 = .ok (.iconst 0, 1) := by decide +kernel
theorem dL_type_19 : decode cL_type 19 = .ok (.ireturn, 1) := by decide +kernel
set_option maxRecDepth 20000 in
theorem ggL_undo_X5_undo : GoodIn wsL_undo wsX5_undo := goodIn_ca (goodIn_r _ [6, 7, 8, 9, 10, 11, 12, 13, 14, 15, 16, 17, 18, 19, 20] (by decide +kernel) (by decide +kernel)) (goodIn_sub (fun _ h => List.mem_cons_of_mem _ (List.mem_append_right _ h)) (by decide +kernel))
set_option maxRecDepth 20000 in
theorem gL_undo_X5_undo : GoodIn wsL_undo (wsV RL 77 RX5 yX5_undo wsX5_undo) := goodIn_app (goodIn_of _ (by decide +kernel)) ggL_undo_X5_undo
theorem dL_undo_0 : decode cL_undo 0 = .ok (.aload_n 1, 1) := by decide +kernel
theorem dL_undo_1 : decode cL_undo 1 = .ok (.iconst 0, 1) := by decide +kernel
theorem dL_undo_2 : decode cL_undo 2 = .ok (.aload_n 0, 1) := by decide +kernel
theorem dL_undo_3 : decode cL_undo 3 = .ok (.invokevirtual 77, 3) := by decide +kernel
theorem dL_undo_6 : decode cL_undo 6 = .ok (.i2l, 1) := by decide +kernel
theorem dL_undo_7 : decode cL_undo 7 = .ok (.lastore, 1) := by decide +kernel
theorem dL_undo_8 : decode cL_undo 8 = .ok (.goto 6, 3) := by decide +kernel
theorem dL_undo_11 : decode cL_undo 11 = .ok (.astore_n 2, 1) := by decide +kernel
theorem dL_undo_12 : decode cL_undo 12 = .ok (.iconst 1, 1) := by decide +kernel
theorem dL_undo_13 : decode cL_undo 13 = .ok (.ireturn, 1) := by decide +kernel
theorem dL_undo_14 : decode cL_undo 14 = .ok (.iconst 0, 1) := by decide +kernel
theorem dL_undo_15 : decode cL_undo 15 = .ok (.ireturn, 1) := by decide +kernel
set_option maxRecDepth 20000 in
theorem ggL_law_X5_init : GoodIn wsL_law wsX5_init := goodIn_r _ [9, 10, 11, 12, 13, 14, 15, 16, 17, 18, 19, 20, 21, 22, 23, 24, 25, 26, 27, 28, 29, 30, 31, 32, 33, 34, 35, 36, 37, 38, 39, 40, 41, 42, 43, 44, 45, 46, 47, 48, 49, 50, 51, 52, 53, 54, 55, 56, 57, 58, 59, 60, 61, 62, 63, 64, 65, 66, 67, 68, 69, 70, 71, 72, 73, 74, 75, 76, 77, 78, 79, 80, 81, 82, 951, 952, 953, 954, 955, 956, 957, 958, 959, 960, 929, 930, 931, 932, 933, 934, 935, 961, 962, 963, 964, 965, 966, 967, 968, 969, 970, 971, 972, 973, 974, 975, 976, 977, 978, 979, 980, 981, 982, 983] (by decide +kernel) (by decide +kernel)
set_option maxRecDepth 20000 in
theorem gL_law_X5_init : GoodIn wsL_law (wsX5_init) := ggL_law_X5_init
set_option maxRecDepth 20000 in
theorem ggL_law_X6_init : GoodIn wsL_law wsX6_init := goodIn_r _ [85, 86, 11, 12, 32, 87, 88, 89, 90, 91, 92, 936, 937, 938, 939, 940, 941, 942, 943, 944, 945, 946, 947, 948, 949, 950] (by decide +kernel) (by decide +kernel)
set_option maxRecDepth 20000 in
theorem gL_law_X6_init : GoodIn wsL_law (wsX6_init) := ggL_law_X6_init
set_option maxRecDepth 20000 in
theorem ggL_law_L_setPuzzles : GoodIn wsL_law wsL_setPuzzles := goodIn_ca (goodIn_r _ [96, 97, 98, 99, 100, 2, 101, 24, 102, 103, 104, 105, 106, 107, 108, 109, 110, 111, 112, 113, 114, 27, 26, 25, 28, 115, 116, 117, 118, 119, 120, 121, 23, 122, 56, 57, 58, 59, 60, 61, 62, 63, 64, 123, 124, 125, 126, 65, 66, 67, 68, 72, 127, 128, 129, 71, 130, 76, 131, 77, 78, 132, 133, 134, 135, 136, 137, 138, 139, 140, 141, 142, 143, 144, 145, 146, 147, 929, 930, 931, 932, 933, 934, 935, 967, 968, 969, 970, 971, 972, 973, 974, 975, 976, 977, 978, 979, 980, 981, 982, 983] (by decide +kernel) (by decide +kernel)) (goodIn_sub (fun _ h => List.mem_append_left _ (List.mem_append_left _ (List.mem_append_right _ h))) (by decide +kernel))
set_option maxRecDepth 20000 in
theorem gL_law_L_setPuzzles : GoodIn wsL_law (va_wsS RL 85 yL_setPuzzles wsL_setPuzzles) := goodIn_app (goodIn_of _ (by decide +kernel)) ggL_law_L_setPuzzles
set_option maxRecDepth 20000 in
theorem ggL_law_X6_setPuzzles : GoodIn wsL_law wsX6_setPuzzles := goodIn_r _ [151, 87, 152, 153, 5, 154, 155, 156, 157, 158, 159, 160, 161, 162, 163, 164, 88, 165, 166, 167, 168, 169, 170, 171, 172, 936, 937, 938, 939, 940, 941, 942, 943, 944, 945, 946, 947, 948, 949, 950] (by decide +kernel) (by decide +kernel)
set_option maxRecDepth 20000 in
theorem gL_law_X6_setPuzzles : GoodIn wsL_law (wsV RL 90 RX6 yX6_setPuzzles wsX6_setPuzzles) := goodIn_app (goodIn_of _ (by decide +kernel)) ggL_law_X6_setPuzzles
set_option maxRecDepth 20000 in
theorem ggL_law_X6_thrown : GoodIn wsL_law wsX6_thrown := goodIn_r _ [176, 159, 936, 937, 938, 939, 940, 941, 942, 943, 944, 945, 946, 947, 948, 949, 950] (by decide +kernel) (by decide +kernel)
set_option maxRecDepth 20000 in
theorem gL_law_X6_thrown : GoodIn wsL_law (wsV RL 91 RX6 yX6_thrown wsX6_thrown) := goodIn_app (goodIn_of _ (by decide +kernel)) ggL_law_X6_thrown
set_option maxRecDepth 20000 in
theorem ggL_law_L_setQuotas : GoodIn wsL_law wsL_setQuotas := goodIn_ca (goodIn_r _ [179, 97, 180, 181, 182, 2, 183, 24, 184, 185, 103, 104, 105, 106, 107, 108, 109, 110, 111, 112, 113, 114, 27, 26, 25, 28, 115, 116, 117, 118, 119, 120, 121, 23, 122, 56, 57, 58, 59, 60, 61, 62, 63, 64, 123, 124, 125, 126, 65, 66, 67, 68, 72, 127, 128, 129, 71, 130, 76, 131, 77, 78, 929, 930, 931, 932, 933, 934, 935, 967, 968, 969, 970, 971, 972, 973, 974, 975, 976, 977, 978, 979, 980, 981, 982, 983] (by decide +kernel) (by decide +kernel)) (goodIn_sub (fun _ h => List.mem_append_left _ (List.mem_append_left _ (List.mem_append_right _ h))) (by decide +kernel))
set_option maxRecDepth 20000 in
theorem gL_law_L_setQuotas : GoodIn wsL_law (va_wsS RL 94 yL_setQuotas wsL_setQuotas) := goodIn_app (goodIn_of _ (by decide +kernel)) ggL_law_L_setQuotas
set_option maxRecDepth 20000 in
theorem ggL_law_X6_setQuotas : GoodIn wsL_law wsX6_setQuotas := goodIn_r _ [189, 87, 152, 153, 5, 154, 155, 156, 157, 158, 159, 160, 161, 162, 163, 164, 88, 936, 937, 938, 939, 940, 941, 942, 943, 944, 945, 946, 947, 948, 949, 950] (by decide +kernel) (by decide +kernel)
set_option maxRecDepth 20000 in
theorem gL_law_X6_setQuotas : GoodIn wsL_law (wsV RL 97 RX6 yX6_setQuotas wsX6_setQuotas) := goodIn_app (goodIn_of _ (by decide +kernel)) ggL_law_X6_setQuotas
set_option maxRecDepth 20000 in
theorem ggL_law_L_tick : GoodIn wsL_law wsL_tick := goodIn_ca (goodIn_ca (goodIn_ca (goodIn_r _ [192, 97, 193, 194, 195, 2, 196, 24, 197, 198, 199, 108, 109, 110, 200, 201, 202, 106, 107, 203, 204, 205, 206, 111, 112, 113, 114, 27, 26, 25, 28, 115, 116, 117, 118, 119, 120, 121, 23, 122, 56, 57, 58, 59, 60, 61, 62, 63, 64, 123, 124, 125, 126, 65, 66, 67, 68, 72, 127, 128, 129, 71, 130, 76, 131, 77, 78, 207, 208, 209, 210, 136, 137, 138, 139, 140, 141, 142, 143, 144, 145, 146, 147, 211, 212, 213, 214, 215, 216, 217, 218, 929, 930, 931, 932, 933, 934, 935, 967, 968, 969, 970, 971, 972, 973, 974, 975, 976, 977, 978, 979, 980, 981, 982, 983] (by decide +kernel) (by decide +kernel)) (goodIn_sub (fun _ h => List.mem_append_left _ (List.mem_append_left _ (List.mem_append_right _ h))) (by decide +kernel))) (goodIn_sub (fun _ h => List.mem_append_left _ (List.mem_append_right _ h)) (by decide +kernel))) (goodIn_sub (fun _ h => List.mem_append_right _ h) (by decide +kernel))
set_option maxRecDepth 20000 in
theorem gL_law_L_tick : GoodIn wsL_law (va_wsS RL 98 yL_tick wsL_tick) := goodIn_app (goodIn_of _ (by decide +kernel)) ggL_law_L_tick
set_option maxRecDepth 20000 in
theorem ggL_law_X6_tick : GoodIn wsL_law wsX6_tick := goodIn_r _ [222, 223, 224, 5, 225, 152, 153, 154, 155, 156, 157, 158, 159, 160, 161, 162, 163, 164, 88, 87, 226, 227, 228, 229, 165, 166, 167, 168, 169, 170, 171, 172, 230, 231, 232, 233, 234, 235, 236, 936, 937, 938, 939, 940, 941, 942, 943, 944, 945, 946, 947, 948, 949, 950] (by decide +kernel) (by decide +kernel)
set_option maxRecDepth 20000 in
theorem gL_law_X6_tick : GoodIn wsL_law (wsV RL 101 RX6 yX6_tick wsX6_tick) := goodIn_app (goodIn_of _ (by decide +kernel)) ggL_law_X6_tick
set_option maxRecDepth 20000 in
theorem ggL_law_L_solve : GoodIn wsL_law wsL_solve := goodIn_ca (goodIn_r _ [239, 97, 240, 241, 242, 2, 243, 24, 103, 104, 105, 106, 107, 108, 109, 110, 244, 245, 246, 23, 247, 248, 249, 136, 137, 138, 139, 58, 61, 140, 141, 142, 143, 250, 251, 252, 253, 254, 255, 256, 257, 258, 259, 56, 62, 260, 116, 117, 118, 261, 262, 263, 264, 265, 266, 267, 268, 269, 929, 930, 931, 932, 933, 934, 935, 967, 968, 969, 970, 971, 972, 973, 974, 975, 976, 977, 978, 979, 980] (by decide +kernel) (by decide +kernel)) (goodIn_sub (fun _ h => List.mem_append_left _ (List.mem_append_left _ (List.mem_append_right _ h))) (by decide +kernel))
set_option maxRecDepth 20000 in
theorem gL_law_L_solve : GoodIn wsL_law (va_wsS RL 102 yL_solve wsL_solve) := goodIn_app (goodIn_of _ (by decide +kernel)) ggL_law_L_solve
set_option maxRecDepth 20000 in
theorem ggL_law_X6_solve : GoodIn wsL_law wsX6_solve := goodIn_r _ [273, 274, 275, 5, 276, 152, 153, 154, 155, 156, 157, 158, 159, 277, 278, 279, 280, 281, 282, 283, 284, 285, 87, 165, 166, 167, 168, 286, 287, 288, 289, 290, 291, 292, 936, 937, 938, 939, 940, 941, 942, 943, 944, 945, 946, 947, 948, 949, 950] (by decide +kernel) (by decide +kernel)
set_option maxRecDepth 20000 in
theorem gL_law_X6_solve : GoodIn wsL_law (wsV RL 104 RX6 yX6_solve wsX6_solve) := goodIn_app (goodIn_of _ (by decide +kernel)) ggL_law_X6_solve
set_option maxRecDepth 20000 in
theorem ggL_law_L_zeros : GoodIn wsL_law wsL_zeros := goodIn_ca (goodIn_r _ [295, 97, 296, 297, 298, 2, 299, 300, 103, 104, 105, 106, 107, 108, 109, 110, 301, 302, 303, 304, 305, 252, 306, 307, 308, 251, 253, 254, 255, 309, 262, 263, 264, 310, 266, 267, 268, 269] (by decide +kernel) (by decide +kernel)) (goodIn_sub (fun _ h => List.mem_append_left _ (List.mem_append_left _ (List.mem_append_right _ h))) (by decide +kernel))
set_option maxRecDepth 20000 in
theorem gL_law_L_zeros : GoodIn wsL_law (va_wsS RL 105 yL_zeros wsL_zeros) := goodIn_app (goodIn_of _ (by decide +kernel)) ggL_law_L_zeros
set_option maxRecDepth 20000 in
theorem ggL_law_X6_zeros : GoodIn wsL_law wsX6_zeros := goodIn_r _ [314, 274, 275, 5, 276, 152, 153, 154, 315, 316, 317, 318, 155, 156, 157, 158, 159, 286, 287, 288, 289, 290, 291, 292, 936, 937, 938, 939, 940, 941, 942, 943, 944, 945, 946, 947, 948, 949, 950] (by decide +kernel) (by decide +kernel)
set_option maxRecDepth 20000 in
theorem gL_law_X6_zeros : GoodIn wsL_law (wsV RL 107 RX6 yX6_zeros wsX6_zeros) := goodIn_app (goodIn_of _ (by decide +kernel)) ggL_law_X6_zeros
set_option maxRecDepth 20000 in
theorem ggL_law_L_join : GoodIn wsL_law wsL_join := goodIn_ca (goodIn_ca (goodIn_ca (goodIn_r _ [321, 97, 322, 323, 324, 325, 326, 2, 327, 205, 206, 300, 24, 16, 103, 104, 105, 106, 107, 108, 109, 110, 328, 329, 330, 331, 332, 333, 216, 217, 23, 218, 65, 200, 201, 202, 203, 204, 334, 335, 336, 337, 136, 137, 138, 139, 58, 61, 140, 141, 142, 143, 338, 305, 252, 306, 307, 308, 251, 253, 254, 255, 309, 262, 263, 264, 310, 266, 267, 268, 269, 256, 257, 258, 259, 56, 62, 260, 116, 117, 118, 111, 112, 113, 114, 27, 26, 25, 28, 115, 119, 120, 121, 122, 57, 59, 60, 63, 64, 123, 124, 125, 126, 66, 67, 68, 72, 127, 128, 129, 71, 130, 76, 131, 77, 78, 339, 340, 341, 342, 343, 344, 345, 346, 347, 348, 349, 350, 351, 352, 353, 354, 355, 356, 357, 358, 359, 215, 360, 361, 362, 363, 364, 365, 366, 367, 368, 369, 370, 371, 372, 373, 374, 375, 376, 377, 378, 379, 380, 381, 382, 383, 384, 385, 386, 387, 388, 389, 390, 391, 392, 393, 394, 395, 396, 397, 398, 15, 399, 34, 35, 42, 40, 33, 41, 400, 36, 37, 401, 402, 403, 404, 405, 406, 39, 407, 408, 38, 409, 410, 411, 412, 413, 414, 415, 416, 417, 418, 419, 420, 421, 422, 423, 424, 425, 426, 427, 428, 429, 430, 431, 432, 433, 434, 929, 930, 931, 932, 933, 934, 935, 967, 968, 969, 970, 971, 972, 973, 974, 975, 976, 977, 978, 979, 980, 981, 982, 983, 951, 952, 953, 954, 955, 956, 957, 958, 959, 960] (by decide +kernel) (by decide +kernel)) (goodIn_sub (fun _ h => List.mem_append_right _ h) (by decide +kernel))) (goodIn_sub (fun _ h => List.mem_append_left _ (List.mem_append_left _ (List.mem_append_right _ h))) (by decide +kernel))) (goodIn_sub (fun _ h => List.mem_append_left _ (List.mem_append_right _ h)) (by decide +kernel))
set_option maxRecDepth 20000 in
theorem gL_law_L_join : GoodIn wsL_law (va_wsS RL 108 yL_join wsL_join) := goodIn_app (goodIn_of _ (by decide +kernel)) ggL_law_L_join
set_option maxRecDepth 20000 in
theorem ggL_law_X6_join : GoodIn wsL_law wsX6_join := goodIn_r _ [438, 315, 316, 5, 317, 318, 152, 153, 154, 439, 440, 441, 442, 274, 275, 276, 443, 444, 445, 446, 447, 448, 449, 450, 87, 230, 231, 232, 451, 452, 453, 454, 455, 456, 457, 458, 165, 166, 167, 168, 286, 287, 288, 289, 290, 291, 292, 282, 283, 284, 285, 155, 156, 157, 158, 159, 160, 161, 162, 163, 164, 88, 459, 460, 461, 462, 463, 464, 465, 466, 467, 468, 469, 470, 471, 472, 473, 474, 475, 476, 477, 478, 479, 480, 481, 482, 483, 484, 485, 486, 487, 488, 489, 490, 491, 492, 493, 91, 494, 495, 496, 497, 498, 499, 500, 501, 502, 503, 504, 505, 506, 507, 508, 509, 510, 511, 512, 513, 514, 515, 516, 936, 937, 938, 939, 940, 941, 942, 943, 944, 945, 946, 947, 948, 949, 950] (by decide +kernel) (by decide +kernel)
set_option maxRecDepth 20000 in
theorem gL_law_X6_join : GoodIn wsL_law (wsV RL 111 RX6 yX6_join wsX6_join) := goodIn_app (goodIn_of _ (by decide +kernel)) ggL_law_X6_join
set_option maxRecDepth 20000 in
theorem ggL_law_L_admit : GoodIn wsL_law wsL_admit := goodIn_ca (goodIn_ca (goodIn_ca (goodIn_r _ [519, 97, 322, 323, 520, 521, 522, 2, 523, 24, 16, 524, 525, 526, 527, 328, 329, 330, 331, 332, 108, 109, 110, 333, 216, 217, 23, 218, 65, 244, 245, 246, 247, 248, 249, 136, 137, 138, 139, 58, 61, 140, 141, 142, 143, 250, 251, 252, 253, 254, 255, 256, 257, 258, 259, 56, 62, 260, 116, 117, 118, 261, 262, 263, 264, 265, 266, 267, 268, 269, 200, 201, 202, 106, 107, 203, 204, 205, 206, 111, 112, 113, 114, 27, 26, 25, 28, 115, 119, 120, 121, 122, 57, 59, 60, 63, 64, 123, 124, 125, 126, 66, 67, 68, 72, 127, 128, 129, 71, 130, 76, 131, 77, 78, 339, 340, 341, 342, 343, 344, 345, 346, 347, 348, 349, 350, 351, 352, 353, 354, 355, 356, 357, 358, 359, 215, 360, 361, 362, 363, 364, 365, 366, 367, 368, 369, 370, 371, 372, 373, 374, 375, 376, 377, 378, 379, 380, 381, 382, 383, 384, 385, 386, 387, 388, 389, 390, 391, 392, 393, 394, 395, 396, 397, 398, 15, 399, 34, 35, 42, 40, 33, 41, 400, 36, 37, 401, 402, 403, 404, 405, 406, 39, 407, 408, 38, 409, 410, 411, 412, 413, 414, 415, 416, 417, 418, 419, 420, 421, 422, 423, 424, 425, 426, 427, 428, 429, 430, 431, 432, 433, 434, 929, 930, 931, 932, 933, 934, 935, 967, 968, 969, 970, 971, 972, 973, 974, 975, 976, 977, 978, 979, 980, 981, 982, 983, 951, 952, 953, 954, 955, 956, 957, 958, 959, 960] (by decide +kernel) (by decide +kernel)) (goodIn_sub (fun _ h => List.mem_append_left _ (List.mem_append_left _ (List.mem_append_right _ h))) (by decide +kernel))) (goodIn_sub (fun _ h => List.mem_append_left _ (List.mem_append_right _ h)) (by decide +kernel))) (goodIn_sub (fun _ h => List.mem_append_right _ h) (by decide +kernel))
set_option maxRecDepth 20000 in
theorem gL_law_L_admit : GoodIn wsL_law (va_wsS RL 112 yL_admit wsL_admit) := goodIn_app (goodIn_of _ (by decide +kernel)) ggL_law_L_admit
set_option maxRecDepth 20000 in
theorem ggL_law_X6_admit : GoodIn wsL_law wsX6_admit := goodIn_r _ [531, 532, 533, 534, 5, 535, 439, 440, 441, 442, 274, 275, 276, 152, 153, 154, 443, 444, 445, 446, 447, 448, 449, 450, 87, 230, 231, 232, 451, 452, 453, 454, 455, 456, 457, 458, 277, 278, 279, 280, 281, 282, 283, 284, 285, 165, 166, 167, 168, 286, 287, 288, 289, 290, 291, 292, 155, 156, 157, 158, 159, 160, 161, 162, 163, 164, 88, 459, 460, 461, 462, 463, 464, 465, 466, 467, 468, 469, 470, 471, 472, 473, 474, 475, 476, 477, 478, 479, 480, 481, 482, 483, 484, 485, 486, 487, 488, 489, 490, 491, 492, 493, 91, 494, 495, 496, 497, 498, 499, 500, 501, 502, 503, 504, 505, 506, 507, 508, 509, 510, 511, 512, 513, 514, 515, 516, 936, 937, 938, 939, 940, 941, 942, 943, 944, 945, 946, 947, 948, 949, 950] (by decide +kernel) (by decide +kernel)
set_option maxRecDepth 20000 in
theorem gL_law_X6_admit : GoodIn wsL_law (wsV RL 114 RX6 yX6_admit wsX6_admit) := goodIn_app (goodIn_of _ (by decide +kernel)) ggL_law_X6_admit
set_option maxRecDepth 20000 in
theorem ggL_law_L_leave : GoodIn wsL_law wsL_leave := goodIn_ca (goodIn_ca (goodIn_ca (goodIn_r _ [538, 97, 322, 539, 540, 541, 2, 542, 24, 332, 543, 544, 545, 546, 108, 109, 110, 333, 216, 217, 23, 218, 65, 200, 201, 202, 106, 107, 203, 204, 205, 206, 111, 112, 113, 114, 27, 26, 25, 28, 115, 116, 117, 118, 119, 120, 121, 122, 56, 57, 58, 59, 60, 61, 62, 63, 64, 123, 124, 125, 126, 66, 67, 68, 72, 127, 128, 129, 71, 130, 76, 131, 77, 78, 547, 212, 213, 214, 215, 929, 930, 931, 932, 933, 934, 935, 967, 968, 969, 970, 971, 972, 973, 974, 975, 976, 977, 978, 979, 980, 981, 982, 983] (by decide +kernel) (by decide +kernel)) (goodIn_sub (fun _ h => List.mem_append_left _ (List.mem_append_left _ (List.mem_append_right _ h))) (by decide +kernel))) (goodIn_sub (fun _ h => List.mem_append_left _ (List.mem_append_right _ h)) (by decide +kernel))) (goodIn_sub (fun _ h => List.mem_append_right _ h) (by decide +kernel))
set_option maxRecDepth 20000 in
theorem gL_law_L_leave : GoodIn wsL_law (va_wsS RL 115 yL_leave wsL_leave) := goodIn_app (goodIn_of _ (by decide +kernel)) ggL_law_L_leave
set_option maxRecDepth 20000 in
theorem ggL_law_X6_leave : GoodIn wsL_law wsX6_leave := goodIn_r _ [551, 552, 553, 554, 5, 555, 274, 275, 276, 152, 153, 154, 443, 444, 445, 446, 447, 448, 449, 450, 87, 230, 231, 232, 155, 156, 157, 158, 159, 160, 161, 162, 163, 164, 88, 233, 234, 235, 236, 451, 452, 453, 454, 936, 937, 938, 939, 940, 941, 942, 943, 944, 945, 946, 947, 948, 949, 950] (by decide +kernel) (by decide +kernel)
set_option maxRecDepth 20000 in
theorem gL_law_X6_leave : GoodIn wsL_law (wsV RL 117 RX6 yX6_leave wsX6_leave) := goodIn_app (goodIn_of _ (by decide +kernel)) ggL_law_X6_leave
set_option maxRecDepth 20000 in
theorem ggL_law_L_swarm : GoodIn wsL_law wsL_swarm := goodIn_ca (goodIn_ca (goodIn_ca (goodIn_r _ [558, 97, 322, 559, 560, 561, 2, 562, 24, 16, 103, 104, 105, 106, 107, 108, 109, 110, 543, 544, 545, 546, 333, 216, 217, 23, 218, 65, 200, 201, 202, 203, 204, 205, 206, 111, 112, 113, 114, 27, 26, 25, 28, 115, 116, 117, 118, 119, 120, 121, 122, 56, 57, 58, 59, 60, 61, 62, 63, 64, 123, 124, 125, 126, 66, 67, 68, 72, 127, 128, 129, 71, 130, 76, 131, 77, 78, 524, 525, 526, 527, 328, 329, 330, 331, 332, 244, 245, 246, 247, 248, 249, 136, 137, 138, 139, 140, 141, 142, 143, 250, 251, 252, 253, 254, 255, 256, 257, 258, 259, 260, 261, 262, 263, 264, 265, 266, 267, 268, 269, 339, 340, 341, 342, 343, 344, 345, 346, 347, 348, 349, 350, 351, 352, 353, 354, 355, 356, 357, 358, 359, 215, 360, 361, 362, 363, 364, 365, 366, 367, 368, 369, 370, 371, 372, 373, 374, 375, 376, 377, 378, 379, 380, 381, 382, 383, 384, 385, 386, 387, 388, 389, 390, 391, 392, 393, 394, 395, 396, 397, 398, 15, 399, 34, 35, 42, 40, 33, 41, 400, 36, 37, 401, 402, 403, 404, 405, 406, 39, 407, 408, 38, 409, 410, 411, 412, 413, 414, 415, 416, 417, 418, 419, 420, 421, 422, 423, 424, 425, 426, 427, 428, 429, 430, 431, 432, 433, 434, 929, 930, 931, 932, 933, 934, 935, 967, 968, 969, 970, 971, 972, 973, 974, 975, 976, 977, 978, 979, 980, 981, 982, 983, 951, 952, 953, 954, 955, 956, 957, 958, 959, 960] (by decide +kernel) (by decide +kernel)) (goodIn_sub (fun _ h => List.mem_append_left _ (List.mem_append_left _ (List.mem_append_right _ h))) (by decide +kernel))) (goodIn_sub (fun _ h => List.mem_append_left _ (List.mem_append_right _ h)) (by decide +kernel))) (goodIn_sub (fun _ h => List.mem_append_right _ h) (by decide +kernel))
set_option maxRecDepth 20000 in
theorem gL_law_L_swarm : GoodIn wsL_law (va_wsS RL 118 yL_swarm wsL_swarm) := goodIn_app (goodIn_of _ (by decide +kernel)) ggL_law_L_swarm
set_option maxRecDepth 20000 in
theorem ggL_law_X6_swarm : GoodIn wsL_law wsX6_swarm := goodIn_r _ [566, 274, 275, 5, 276, 152, 153, 154, 443, 444, 445, 446, 447, 448, 449, 450, 87, 230, 231, 232, 155, 156, 157, 158, 159, 160, 161, 162, 163, 164, 88, 532, 533, 534, 535, 439, 440, 441, 442, 451, 452, 453, 454, 455, 456, 457, 458, 277, 278, 279, 280, 281, 282, 283, 284, 285, 165, 166, 167, 168, 286, 287, 288, 289, 290, 291, 292, 459, 460, 461, 462, 463, 464, 465, 466, 467, 468, 469, 470, 471, 472, 473, 474, 475, 476, 477, 478, 479, 480, 481, 482, 483, 484, 485, 486, 487, 488, 489, 490, 491, 492, 493, 91, 494, 495, 496, 497, 498, 499, 500, 501, 502, 503, 504, 505, 506, 507, 508, 509, 510, 511, 512, 513, 514, 515, 516, 936, 937, 938, 939, 940, 941, 942, 943, 944, 945, 946, 947, 948, 949, 950] (by decide +kernel) (by decide +kernel)
set_option maxRecDepth 20000 in
theorem gL_law_X6_swarm : GoodIn wsL_law (wsV RL 121 RX6 yX6_swarm wsX6_swarm) := goodIn_app (goodIn_of _ (by decide +kernel)) ggL_law_X6_swarm
set_option maxRecDepth 20000 in
theorem ggL_law_L_lookup : GoodIn wsL_law wsL_lookup := goodIn_ca (goodIn_ca (goodIn_ca (goodIn_r _ [569, 97, 322, 570, 571, 572, 2, 573, 24, 16, 574, 575, 576, 577, 108, 109, 110, 543, 544, 545, 546, 333, 216, 217, 23, 218, 65, 200, 201, 202, 106, 107, 203, 204, 205, 206, 111, 112, 113, 114, 27, 26, 25, 28, 115, 116, 117, 118, 119, 120, 121, 122, 56, 57, 58, 59, 60, 61, 62, 63, 64, 123, 124, 125, 126, 66, 67, 68, 72, 127, 128, 129, 71, 130, 76, 131, 77, 78, 578, 388, 389, 390, 391, 392, 393, 394, 395, 396, 397, 398, 15, 399, 34, 35, 42, 40, 33, 41, 400, 36, 37, 401, 402, 403, 404, 405, 406, 39, 407, 408, 38, 409, 410, 352, 353, 411, 412, 413, 414, 415, 416, 417, 418, 419, 420, 421, 422, 423, 424, 425, 426, 215, 354, 355, 356, 357, 358, 359, 360, 361, 362, 363, 266, 267, 268, 269, 364, 365, 366, 367, 368, 369, 370, 371, 372, 373, 374, 375, 376, 377, 378, 379, 380, 381, 382, 383, 384, 385, 386, 427, 428, 429, 430, 929, 930, 931, 932, 933, 934, 935, 967, 968, 969, 970, 971, 972, 973, 974, 975, 976, 977, 978, 979, 980, 981, 982, 983, 951, 952, 953, 954, 955, 956, 957, 958, 959, 960] (by decide +kernel) (by decide +kernel)) (goodIn_sub (fun _ h => List.mem_append_left _ (List.mem_append_left _ (List.mem_append_right _ h))) (by decide +kernel))) (goodIn_sub (fun _ h => List.mem_append_left _ (List.mem_append_right _ h)) (by decide +kernel))) (goodIn_sub (fun _ h => List.mem_append_right _ h) (by decide +kernel))
set_option maxRecDepth 20000 in
theorem gL_law_L_lookup : GoodIn wsL_law (va_wsS RL 122 yL_lookup wsL_lookup) := goodIn_app (goodIn_of _ (by decide +kernel)) ggL_law_L_lookup
set_option maxRecDepth 20000 in
theorem ggL_law_X6_lookup : GoodIn wsL_law wsX6_lookup := goodIn_r _ [582, 583, 584, 585, 5, 586, 274, 275, 276, 152, 153, 154, 443, 444, 445, 446, 447, 448, 449, 450, 87, 230, 231, 232, 155, 156, 157, 158, 159, 160, 161, 162, 163, 164, 88, 490, 491, 492, 493, 91, 494, 495, 496, 497, 498, 499, 500, 467, 468, 469, 470, 471, 472, 473, 501, 502, 503, 504, 505, 506, 507, 508, 509, 510, 511, 512, 474, 475, 476, 477, 463, 464, 465, 466, 478, 479, 480, 481, 482, 483, 484, 485, 486, 487, 488, 489, 936, 937, 938, 939, 940, 941, 942, 943, 944, 945, 946, 947, 948, 949, 950] (by decide +kernel) (by decide +kernel)
set_option maxRecDepth 20000 in
theorem gL_law_X6_lookup : GoodIn wsL_law (wsV RL 124 RX6 yX6_lookup wsX6_lookup) := goodIn_app (goodIn_of _ (by decide +kernel)) ggL_law_X6_lookup
set_option maxRecDepth 20000 in
theorem ggL_law_L_probe : GoodIn wsL_law wsL_probe := goodIn_ca (goodIn_ca (goodIn_ca (goodIn_r _ [589, 97, 322, 590, 591, 592, 2, 593, 16, 24, 594, 595, 596, 597, 103, 104, 105, 106, 107, 108, 109, 110, 574, 575, 576, 577, 543, 544, 545, 546, 333, 216, 217, 23, 218, 65, 200, 201, 202, 203, 204, 205, 206, 598, 397, 398, 15, 399, 34, 35, 42, 40, 33, 41, 400, 116, 117, 118, 36, 37, 401, 402, 403, 404, 405, 406, 39, 407, 408, 38, 409, 410, 352, 71, 353, 411, 412, 413, 414, 415, 416, 417, 418, 419, 420, 421, 422, 423, 424, 425, 426, 66, 929, 930, 931, 932, 933, 934, 935, 951, 952, 953, 954, 955, 956, 957, 958, 959, 960, 967, 968, 969, 970, 971, 972, 973, 974, 975, 976, 977, 978, 979, 980, 981, 982, 983] (by decide +kernel) (by decide +kernel)) (goodIn_sub (fun _ h => List.mem_append_left _ (List.mem_append_left _ (List.mem_append_right _ h))) (by decide +kernel))) (goodIn_sub (fun _ h => List.mem_append_left _ (List.mem_append_right _ h)) (by decide +kernel))) (goodIn_sub (fun _ h => List.mem_append_right _ h) (by decide +kernel))
set_option maxRecDepth 20000 in
theorem gL_law_L_probe : GoodIn wsL_law (va_wsS RL 125 yL_probe wsL_probe) := goodIn_app (goodIn_of _ (by decide +kernel)) ggL_law_L_probe
set_option maxRecDepth 20000 in
theorem ggL_law_X6_probe : GoodIn wsL_law wsX6_probe := goodIn_r _ [602, 494, 495, 496, 152, 153, 5, 154, 583, 584, 585, 586, 274, 275, 276, 443, 444, 445, 446, 447, 448, 449, 450, 87, 230, 231, 232, 155, 156, 157, 158, 159, 603, 604, 605, 606, 89, 490, 491, 492, 493, 91, 497, 498, 499, 500, 467, 468, 469, 470, 471, 472, 473, 501, 502, 503, 504, 505, 506, 507, 508, 509, 510, 511, 512, 474, 475, 476, 477, 463, 464, 465, 466, 478, 479, 480, 481, 482, 483, 484, 485, 486, 487, 488, 489, 607, 608, 609, 610, 936, 937, 938, 939, 940, 941, 942, 943, 944, 945, 946, 947, 948, 949, 950] (by decide +kernel) (by decide +kernel)
set_option maxRecDepth 20000 in
theorem gL_law_X6_probe : GoodIn wsL_law (wsV RL 127 RX6 yX6_probe wsX6_probe) := goodIn_app (goodIn_of _ (by decide +kernel)) ggL_law_X6_probe
set_option maxRecDepth 20000 in
theorem ggL_law_L_reach : GoodIn wsL_law wsL_reach := goodIn_ca (goodIn_ca (goodIn_ca (goodIn_r _ [613, 97, 322, 614, 615, 616, 2, 617, 16, 24, 597, 543, 544, 545, 546, 108, 109, 110, 333, 216, 217, 23, 218, 65, 200, 201, 202, 106, 107, 203, 204, 205, 206, 598, 397, 398, 15, 399, 34, 35, 42, 40, 33, 41, 400, 116, 117, 118, 36, 37, 401, 402, 403, 404, 405, 406, 39, 407, 408, 38, 409, 410, 352, 71, 353, 411, 412, 413, 414, 415, 416, 417, 418, 419, 420, 421, 422, 423, 424, 425, 426, 66, 929, 930, 931, 932, 933, 934, 935, 951, 952, 953, 954, 955, 956, 957, 958, 959, 960, 967, 968, 969, 970, 971, 972, 973, 974, 975, 976, 977, 978, 979, 980, 981, 982, 983] (by decide +kernel) (by decide +kernel)) (goodIn_sub (fun _ h => List.mem_append_left _ (List.mem_append_left _ (List.mem_append_right _ h))) (by decide +kernel))) (goodIn_sub (fun _ h => List.mem_append_left _ (List.mem_append_right _ h)) (by decide +kernel))) (goodIn_sub (fun _ h => List.mem_append_right _ h) (by decide +kernel))
set_option maxRecDepth 20000 in
theorem gL_law_L_reach : GoodIn wsL_law (va_wsS RL 128 yL_reach wsL_reach) := goodIn_app (goodIn_of _ (by decide +kernel)) ggL_law_L_reach
set_option maxRecDepth 20000 in
theorem ggL_law_X6_reach : GoodIn wsL_law wsX6_reach := goodIn_r _ [621, 496, 552, 553, 554, 5, 555, 274, 275, 276, 152, 153, 154, 443, 444, 445, 446, 447, 448, 449, 450, 87, 230, 231, 232, 155, 156, 157, 158, 159, 603, 604, 605, 606, 89, 490, 491, 492, 493, 91, 494, 495, 497, 498, 499, 500, 467, 468, 469, 470, 471, 472, 473, 501, 502, 503, 504, 505, 506, 507, 508, 509, 510, 511, 512, 474, 475, 476, 477, 463, 464, 465, 466, 478, 479, 480, 481, 482, 483, 484, 485, 486, 487, 488, 489, 607, 608, 609, 610, 936, 937, 938, 939, 940, 941, 942, 943, 944, 945, 946, 947, 948, 949, 950] (by decide +kernel) (by decide +kernel)
set_option maxRecDepth 20000 in
theorem gL_law_X6_reach : GoodIn wsL_law (wsV RL 130 RX6 yX6_reach wsX6_reach) := goodIn_app (goodIn_of _ (by decide +kernel)) ggL_law_X6_reach
set_option maxRecDepth 20000 in
theorem ggL_law_L_member : GoodIn wsL_law wsL_member := goodIn_ca (goodIn_r _ [624, 97, 625, 626, 627, 2, 628, 103, 104, 105, 106, 107, 108, 109, 110, 629, 630, 631, 632, 24, 633, 634, 635, 636, 333, 216, 217, 23, 218, 65, 637, 432, 433, 71, 434, 76, 351, 352, 353, 638, 639, 640, 641, 66, 72, 360, 361, 362, 363, 266, 267, 268, 269, 364, 365, 366, 367, 368, 77, 929, 930, 931, 932, 933, 934, 935, 967, 968, 969, 970, 971, 972, 973, 974, 975, 976, 977, 978, 979, 980, 981, 982, 983] (by decide +kernel) (by decide +kernel)) (goodIn_sub (fun _ h => List.mem_append_left _ (List.mem_append_left _ (List.mem_append_right _ h))) (by decide +kernel))
set_option maxRecDepth 20000 in
theorem gL_law_L_member : GoodIn wsL_law (va_wsS RL 131 yL_member wsL_member) := goodIn_app (goodIn_of _ (by decide +kernel)) ggL_law_L_member
set_option maxRecDepth 20000 in
theorem ggL_law_X6_member : GoodIn wsL_law wsX6_member := goodIn_r _ [645, 274, 275, 5, 276, 152, 153, 154, 155, 156, 157, 158, 159, 646, 647, 648, 649, 87, 447, 448, 449, 450, 230, 231, 232, 513, 514, 515, 516, 650, 651, 652, 653, 467, 468, 469, 470, 471, 472, 473, 936, 937, 938, 939, 940, 941, 942, 943, 944, 945, 946, 947, 948, 949, 950] (by decide +kernel) (by decide +kernel)
set_option maxRecDepth 20000 in
theorem gL_law_X6_member : GoodIn wsL_law (wsV RL 133 RX6 yX6_member wsX6_member) := goodIn_app (goodIn_of _ (by decide +kernel)) ggL_law_X6_member
set_option maxRecDepth 20000 in
theorem ggL_law_L_memberAt : GoodIn wsL_law wsL_memberAt := goodIn_ca (goodIn_r _ [656, 97, 657, 658, 659, 2, 660, 24, 301, 302, 303, 106, 107, 333, 216, 217, 23, 218, 65, 929, 930, 931, 932, 933, 934, 935, 967, 968, 969, 970, 971, 972, 973, 974, 975, 976, 977, 978, 979, 980] (by decide +kernel) (by decide +kernel)) (goodIn_sub (fun _ h => List.mem_append_left _ (List.mem_append_left _ (List.mem_append_right _ h))) (by decide +kernel))
set_option maxRecDepth 20000 in
theorem gL_law_L_memberAt : GoodIn wsL_law (va_wsS RL 134 yL_memberAt wsL_memberAt) := goodIn_app (goodIn_of _ (by decide +kernel)) ggL_law_L_memberAt
set_option maxRecDepth 20000 in
theorem ggL_law_X6_memberAt : GoodIn wsL_law wsX6_memberAt := goodIn_r _ [664, 155, 156, 157, 5, 158, 159, 443, 444, 445, 446, 274, 275, 276, 152, 153, 154, 447, 448, 449, 450, 87, 230, 231, 232, 936, 937, 938, 939, 940, 941, 942, 943, 944, 945, 946, 947, 948, 949, 950] (by decide +kernel) (by decide +kernel)
set_option maxRecDepth 20000 in
theorem gL_law_X6_memberAt : GoodIn wsL_law (wsV RL 136 RX6 yX6_memberAt wsX6_memberAt) := goodIn_app (goodIn_of _ (by decide +kernel)) ggL_law_X6_memberAt
set_option maxRecDepth 20000 in
theorem ggL_law_L_entry : GoodIn wsL_law wsL_entry := goodIn_ca (goodIn_ca (goodIn_ca (goodIn_r _ [667, 97, 322, 668, 669, 670, 2, 671, 24, 633, 636, 672, 673, 674, 103, 104, 105, 106, 107, 108, 109, 110, 301, 302, 303, 543, 544, 545, 546, 333, 216, 217, 23, 218, 65, 200, 201, 202, 203, 204, 205, 206, 675, 352, 71, 353, 929, 930, 931, 932, 933, 934, 935, 967, 968, 969, 970, 971, 972, 973, 974, 975, 976, 977, 978, 979, 980, 981, 982, 983] (by decide +kernel) (by decide +kernel)) (goodIn_sub (fun _ h => List.mem_append_left _ (List.mem_append_left _ (List.mem_append_right _ h))) (by decide +kernel))) (goodIn_sub (fun _ h => List.mem_append_left _ (List.mem_append_right _ h)) (by decide +kernel))) (goodIn_sub (fun _ h => List.mem_append_right _ h) (by decide +kernel))
set_option maxRecDepth 20000 in
theorem gL_law_L_entry : GoodIn wsL_law (va_wsS RL 137 yL_entry wsL_entry) := goodIn_app (goodIn_of _ (by decide +kernel)) ggL_law_L_entry
set_option maxRecDepth 20000 in
theorem ggL_law_X6_entry : GoodIn wsL_law wsX6_entry := goodIn_r _ [679, 87, 152, 153, 5, 154, 552, 553, 554, 555, 274, 275, 276, 443, 444, 445, 446, 447, 448, 449, 450, 230, 231, 232, 155, 156, 157, 158, 159, 936, 937, 938, 939, 940, 941, 942, 943, 944, 945, 946, 947, 948, 949, 950] (by decide +kernel) (by decide +kernel)
set_option maxRecDepth 20000 in
theorem gL_law_X6_entry : GoodIn wsL_law (wsV RL 139 RX6 yX6_entry wsX6_entry) := goodIn_app (goodIn_of _ (by decide +kernel)) ggL_law_X6_entry
set_option maxRecDepth 20000 in
theorem ggL_law_L_share : GoodIn wsL_law wsL_share := goodIn_ca (goodIn_ca (goodIn_ca (goodIn_r _ [682, 97, 322, 683, 684, 685, 2, 686, 24, 633, 636, 103, 104, 105, 106, 107, 108, 109, 110, 543, 544, 545, 546, 333, 216, 217, 23, 218, 65, 200, 201, 202, 203, 204, 205, 206, 637, 432, 433, 71, 434, 76, 351, 352, 353, 675, 687, 384, 385, 386, 78, 929, 930, 931, 932, 933, 934, 935, 967, 968, 969, 970, 971, 972, 973, 974, 975, 976, 977, 978, 979, 980, 981, 982, 983] (by decide +kernel) (by decide +kernel)) (goodIn_sub (fun _ h => List.mem_append_left _ (List.mem_append_left _ (List.mem_append_right _ h))) (by decide +kernel))) (goodIn_sub (fun _ h => List.mem_append_left _ (List.mem_append_right _ h)) (by decide +kernel))) (goodIn_sub (fun _ h => List.mem_append_right _ h) (by decide +kernel))
set_option maxRecDepth 20000 in
theorem gL_law_L_share : GoodIn wsL_law (va_wsS RL 140 yL_share wsL_share) := goodIn_app (goodIn_of _ (by decide +kernel)) ggL_law_L_share
set_option maxRecDepth 20000 in
theorem ggL_law_X6_share : GoodIn wsL_law wsX6_share := goodIn_r _ [691, 152, 153, 5, 154, 552, 553, 554, 555, 274, 275, 276, 443, 444, 445, 446, 447, 448, 449, 450, 87, 230, 231, 232, 155, 156, 157, 158, 159, 513, 514, 515, 516, 486, 487, 488, 489, 482, 483, 484, 485, 936, 937, 938, 939, 940, 941, 942, 943, 944, 945, 946, 947, 948, 949, 950] (by decide +kernel) (by decide +kernel)
set_option maxRecDepth 20000 in
theorem gL_law_X6_share : GoodIn wsL_law (wsV RL 142 RX6 yX6_share wsX6_share) := goodIn_app (goodIn_of _ (by decide +kernel)) ggL_law_X6_share
set_option maxRecDepth 20000 in
theorem ggL_law_L_overlay : GoodIn wsL_law wsL_overlay := goodIn_ca (goodIn_r _ [694, 97, 695, 696, 697, 2, 698, 103, 104, 105, 106, 107, 108, 109, 110, 699, 700, 701, 702, 24, 332, 703, 704, 185, 184, 705, 706, 137, 138, 23, 139, 58, 61, 140, 141, 142, 143, 707, 257, 258, 259, 56, 62, 260, 116, 117, 118, 708, 709, 710, 711, 66, 67, 712, 713, 714, 929, 930, 931, 932, 933, 934, 935, 967, 968, 969, 970, 971, 972, 973, 974, 975, 976, 977, 978, 979, 980] (by decide +kernel) (by decide +kernel)) (goodIn_sub (fun _ h => List.mem_append_left _ (List.mem_append_left _ (List.mem_append_right _ h))) (by decide +kernel))
set_option maxRecDepth 20000 in
theorem gL_law_L_overlay : GoodIn wsL_law (va_wsS RL 143 yL_overlay wsL_overlay) := goodIn_app (goodIn_of _ (by decide +kernel)) ggL_law_L_overlay
set_option maxRecDepth 20000 in
theorem ggL_law_X6_overlay : GoodIn wsL_law wsX6_overlay := goodIn_r _ [718, 152, 153, 5, 154, 155, 156, 157, 158, 159, 719, 720, 721, 722, 87, 451, 452, 453, 454, 230, 231, 232, 165, 166, 167, 168, 282, 283, 284, 285, 723, 724, 725, 726, 936, 937, 938, 939, 940, 941, 942, 943, 944, 945, 946, 947, 948, 949, 950] (by decide +kernel) (by decide +kernel)
set_option maxRecDepth 20000 in
theorem gL_law_X6_overlay : GoodIn wsL_law (wsV RL 145 RX6 yX6_overlay wsX6_overlay) := goodIn_app (goodIn_of _ (by decide +kernel)) ggL_law_X6_overlay
set_option maxRecDepth 20000 in
theorem ggL_law_L_count : GoodIn wsL_law wsL_count := goodIn_ca (goodIn_r _ [729, 97, 730, 731, 732, 2, 733, 24, 734, 103, 104, 105, 106, 107, 108, 109, 110, 929, 930, 931, 932, 933, 934, 935, 967, 968, 969, 970, 971, 972, 973, 974, 975, 976, 977, 978, 979, 980] (by decide +kernel) (by decide +kernel)) (goodIn_sub (fun _ h => List.mem_append_left _ (List.mem_append_left _ (List.mem_append_right _ h))) (by decide +kernel))
set_option maxRecDepth 20000 in
theorem gL_law_L_count : GoodIn wsL_law (va_wsS RL 146 yL_count wsL_count) := goodIn_app (goodIn_of _ (by decide +kernel)) ggL_law_L_count
set_option maxRecDepth 20000 in
theorem ggL_law_X6_count : GoodIn wsL_law wsX6_count := goodIn_r _ [738, 87, 152, 153, 5, 154, 155, 156, 157, 158, 159, 936, 937, 938, 939, 940, 941, 942, 943, 944, 945, 946, 947, 948, 949, 950] (by decide +kernel) (by decide +kernel)
set_option maxRecDepth 20000 in
theorem gL_law_X6_count : GoodIn wsL_law (wsV RL 148 RX6 yX6_count wsX6_count) := goodIn_app (goodIn_of _ (by decide +kernel)) ggL_law_X6_count
set_option maxRecDepth 20000 in
theorem ggL_law_L_type : GoodIn wsL_law wsL_type := goodIn_ca (goodIn_ca (goodIn_r _ [741, 97, 322, 742, 743, 744, 2, 745, 203, 204, 20, 746, 747, 103, 104, 105, 106, 107, 108, 109, 110, 929, 930, 931, 932, 933, 934, 935, 961, 962, 963, 964, 965, 966] (by decide +kernel) (by decide +kernel)) (goodIn_sub (fun _ h => List.mem_append_left _ (List.mem_append_right _ h)) (by decide +kernel))) (goodIn_sub (fun _ h => List.mem_append_left _ (List.mem_append_left _ (List.mem_append_right _ h))) (by decide +kernel))
set_option maxRecDepth 20000 in
theorem gL_law_L_type : GoodIn wsL_law (va_wsS RL 149 yL_type wsL_type) := goodIn_app (goodIn_of _ (by decide +kernel)) ggL_law_L_type
set_option maxRecDepth 20000 in
theorem ggL_law_X6_type : GoodIn wsL_law wsX6_type := goodIn_r _ [751, 752, 90, 152, 153, 5, 154, 155, 156, 157, 158, 159, 936, 937, 938, 939, 940, 941, 942, 943, 944, 945, 946, 947, 948, 949, 950] (by decide +kernel) (by decide +kernel)
set_option maxRecDepth 20000 in
theorem gL_law_X6_type : GoodIn wsL_law (wsV RL 151 RX6 yX6_type wsX6_type) := goodIn_app (goodIn_of _ (by decide +kernel)) ggL_law_X6_type
set_option maxRecDepth 20000 in
theorem ggL_law_X5_clearScript : GoodIn wsL_law wsX5_clearScript := goodIn_r _ [756, 20, 746, 929, 930, 931, 932, 933, 934, 935, 961, 962, 963, 964, 965, 966] (by decide +kernel) (by decide +kernel)
set_option maxRecDepth 20000 in
theorem gL_law_X5_clearScript : GoodIn wsL_law (wsV RL 152 RX5 yX5_clearScript wsX5_clearScript) := goodIn_app (goodIn_of _ (by decide +kernel)) ggL_law_X5_clearScript
set_option maxRecDepth 20000 in
theorem ggL_law_X6_clearScript : GoodIn wsL_law wsX6_clearScript := goodIn_r _ [760, 159, 752, 936, 937, 938, 939, 940, 941, 942, 943, 944, 945, 946, 947, 948, 949, 950] (by decide +kernel) (by decide +kernel)
set_option maxRecDepth 20000 in
theorem gL_law_X6_clearScript : GoodIn wsL_law (wsV RL 155 RX6 yX6_clearScript wsX6_clearScript) := goodIn_app (goodIn_of _ (by decide +kernel)) ggL_law_X6_clearScript
set_option maxRecDepth 20000 in
theorem ggL_law_X5_run : GoodIn wsL_law wsX5_run := goodIn_r _ [764, 20, 765, 766, 767, 768, 19, 769, 51, 49, 47, 770, 771, 772, 773, 46, 774, 775, 776, 777, 48, 778, 779, 780, 781, 782, 783, 784, 785, 786, 787, 788, 789, 790, 791, 792, 793, 794, 795, 796, 797, 798, 799, 800, 801, 802, 803, 804, 805, 806, 807, 808, 809, 810, 811, 812, 813, 814, 815, 816, 817, 818, 819, 820, 821, 822, 823, 824, 825, 826, 827, 828, 829, 830, 831, 832, 833, 834, 835, 836, 837, 838, 839, 840, 841, 842, 843, 844, 845, 50, 846, 847, 848, 849, 850, 851, 852, 111, 112, 113, 2, 114, 27, 26, 25, 24, 28, 115, 116, 117, 118, 119, 120, 121, 23, 122, 56, 57, 58, 59, 60, 61, 62, 63, 64, 123, 124, 125, 126, 65, 66, 67, 68, 72, 127, 128, 129, 71, 130, 76, 131, 77, 78, 853, 854, 855, 856, 857, 332, 16, 858, 859, 860, 861, 524, 525, 526, 527, 328, 329, 330, 331, 108, 109, 110, 333, 216, 217, 218, 244, 245, 246, 247, 248, 249, 136, 137, 138, 139, 140, 141, 142, 143, 250, 251, 252, 253, 254, 255, 256, 257, 258, 259, 260, 261, 262, 263, 264, 265, 266, 267, 268, 269, 339, 340, 341, 342, 343, 344, 345, 346, 347, 348, 349, 350, 351, 352, 353, 354, 355, 356, 357, 358, 359, 215, 360, 361, 362, 363, 364, 365, 366, 367, 368, 369, 370, 371, 372, 373, 374, 375, 376, 377, 378, 379, 380, 381, 382, 383, 384, 385, 386, 387, 388, 389, 390, 391, 392, 393, 394, 395, 396, 397, 398, 15, 399, 34, 35, 42, 40, 33, 41, 400, 36, 37, 401, 402, 403, 404, 405, 406, 39, 407, 408, 38, 409, 410, 411, 412, 413, 414, 415, 416, 417, 418, 419, 420, 421, 422, 423, 424, 425, 426, 427, 428, 429, 430, 431, 432, 433, 434, 543, 544, 545, 546, 547, 212, 213, 214, 574, 575, 576, 577, 578, 197, 198, 199, 207, 208, 209, 210, 144, 145, 146, 147, 211, 929, 930, 931, 932, 933, 934, 935, 961, 962, 963, 964, 965, 966, 967, 968, 969, 970, 971, 972, 973, 974, 975, 976, 977, 978, 979, 980, 981, 982, 983, 951, 952, 953, 954, 955, 956, 957, 958, 959, 960] (by decide +kernel) (by decide +kernel)
set_option maxRecDepth 20000 in
theorem gL_law_X5_run : GoodIn wsL_law (wsV RL 156 RX5 yX5_run wsX5_run) := goodIn_app (goodIn_of _ (by decide +kernel)) ggL_law_X5_run
set_option maxRecDepth 20000 in
theorem ggL_law_X6_run : GoodIn wsL_law wsX6_run := goodIn_r _ [865, 159, 866, 752, 867, 868, 869, 5, 870, 871, 872, 873, 874, 90, 152, 153, 154, 875, 876, 877, 878, 879, 92, 880, 881, 882, 883, 884, 885, 886, 887, 160, 161, 162, 163, 164, 88, 87, 888, 889, 890, 891, 451, 452, 453, 454, 230, 231, 232, 532, 533, 534, 535, 439, 440, 441, 442, 274, 275, 276, 443, 444, 445, 446, 447, 448, 449, 450, 455, 456, 457, 458, 277, 278, 279, 280, 281, 282, 283, 284, 285, 165, 166, 167, 168, 286, 287, 288, 289, 290, 291, 292, 459, 460, 461, 462, 463, 464, 465, 466, 467, 468, 469, 470, 471, 472, 473, 474, 475, 476, 477, 478, 479, 480, 481, 482, 483, 484, 485, 486, 487, 488, 489, 490, 491, 492, 493, 91, 494, 495, 496, 497, 498, 499, 500, 501, 502, 503, 504, 505, 506, 507, 508, 509, 510, 511, 512, 513, 514, 515, 516, 552, 553, 554, 555, 233, 234, 235, 236, 583, 584, 585, 586, 223, 224, 225, 226, 227, 228, 229, 169, 170, 171, 172, 936, 937, 938, 939, 940, 941, 942, 943, 944, 945, 946, 947, 948, 949, 950] (by decide +kernel) (by decide +kernel)
set_option maxRecDepth 20000 in
theorem gL_law_X6_run : GoodIn wsL_law (wsV RL 159 RX6 yX6_run wsX6_run) := goodIn_app (goodIn_of _ (by decide +kernel)) ggL_law_X6_run
set_option maxRecDepth 20000 in
theorem ggL_law_L_undo : GoodIn wsL_law wsL_undo := goodIn_ca (goodIn_r _ [894, 322, 895, 896, 897, 2, 898, 203, 204, 28, 24, 25, 26, 27, 929, 930, 931, 932, 933, 934, 935] (by decide +kernel) (by decide +kernel)) (goodIn_sub (fun _ h => List.mem_append_left _ (List.mem_append_right _ h)) (by decide +kernel))
set_option maxRecDepth 20000 in
theorem gL_law_L_undo : GoodIn wsL_law (va_wsS RL 160 yL_undo wsL_undo) := goodIn_app (goodIn_of _ (by decide +kernel)) ggL_law_L_undo
set_option maxRecDepth 20000 in
theorem ggL_law_X6_undo : GoodIn wsL_law wsX6_undo := goodIn_r _ [902, 164, 87, 88, 155, 156, 157, 5, 158, 159, 936, 937, 938, 939, 940, 941, 942, 943, 944, 945, 946, 947, 948, 949, 950] (by decide +kernel) (by decide +kernel)
set_option maxRecDepth 20000 in
theorem gL_law_X6_undo : GoodIn wsL_law (wsV RL 163 RX6 yX6_undo wsX6_undo) := goodIn_app (goodIn_of _ (by decide +kernel)) ggL_law_X6_undo
set_option maxRecDepth 20000 in
theorem ggL_law_X5_digest : GoodIn wsL_law wsX5_digest := goodIn_r _ [906, 907, 908, 28, 20, 746, 24, 734, 636, 633, 699, 700, 701, 2, 702, 332, 703, 704, 185, 184, 705, 706, 137, 138, 23, 139, 58, 61, 140, 141, 142, 143, 707, 257, 258, 259, 56, 62, 260, 116, 117, 118, 708, 709, 710, 711, 66, 67, 712, 713, 714, 333, 216, 217, 218, 65, 629, 630, 631, 632, 634, 635, 637, 432, 433, 71, 434, 76, 351, 352, 353, 638, 639, 640, 641, 72, 360, 361, 362, 363, 266, 267, 268, 269, 364, 365, 366, 367, 368, 77, 909, 910, 911, 912, 913, 78, 929, 930, 931, 932, 933, 934, 935, 961, 962, 963, 964, 965, 966, 967, 968, 969, 970, 971, 972, 973, 974, 975, 976, 977, 978, 979, 980, 981, 982, 983] (by decide +kernel) (by decide +kernel)
set_option maxRecDepth 20000 in
theorem gL_law_X5_digest : GoodIn wsL_law (wsV RL 164 RX5 yX5_digest wsX5_digest) := goodIn_app (goodIn_of _ (by decide +kernel)) ggL_law_X5_digest
set_option maxRecDepth 20000 in
theorem ggL_law_X6_digest : GoodIn wsL_law wsX6_digest := goodIn_r _ [917, 159, 918, 919, 164, 752, 87, 920, 921, 922, 5, 923, 924, 719, 720, 721, 722, 451, 452, 453, 454, 230, 231, 232, 165, 166, 167, 168, 282, 283, 284, 285, 723, 724, 725, 726, 443, 444, 445, 446, 274, 275, 276, 152, 153, 154, 447, 448, 449, 450, 925, 926, 927, 928, 646, 647, 648, 649, 513, 514, 515, 516, 650, 651, 652, 653, 467, 468, 469, 470, 471, 472, 473, 936, 937, 938, 939, 940, 941, 942, 943, 944, 945, 946, 947, 948, 949, 950] (by decide +kernel) (by decide +kernel)
set_option maxRecDepth 20000 in
theorem gL_law_X6_digest : GoodIn wsL_law (wsV RL 168 RX6 yX6_digest wsX6_digest) := goodIn_app (goodIn_of _ (by decide +kernel)) ggL_law_X6_digest
theorem dL_law_0 : decode cL_law 0 = .ok (.new 8, 3) := by decide +kernel
theorem dL_law_3 : decode cL_law 3 = .ok (.dup, 1) := by decide +kernel
theorem dL_law_4 : decode cL_law 4 = .ok (.invokespecial 81, 3) := by decide +kernel
theorem dL_law_7 : decode cL_law 7 = .ok (.astore_n 1, 1) := by decide +kernel
theorem dL_law_8 : decode cL_law 8 = .ok (.new 82, 3) := by decide +kernel
theorem dL_law_11 : decode cL_law 11 = .ok (.dup, 1) := by decide +kernel
theorem dL_law_12 : decode cL_law 12 = .ok (.invokespecial 84, 3) := by decide +kernel
theorem dL_law_15 : decode cL_law 15 = .ok (.astore_n 2, 1) := by decide +kernel
theorem dL_law_16 : decode cL_law 16 = .ok (.iconst 1, 1) := by decide +kernel
theorem dL_law_17 : decode cL_law 17 = .ok (.newarray .long, 2) := by decide +kernel
theorem dL_law_19 : decode cL_law 19 = .ok (.astore_n 3, 1) := by decide +kernel
theorem dL_law_20 : decode cL_law 20 = .ok (.iconst 0, 1) := by decide +kernel
theorem dL_law_21 : decode cL_law 21 = .ok (.istore 4, 2) := by decide +kernel
theorem dL_law_23 : decode cL_law 23 = .ok (.iload 4, 2) := by decide +kernel
theorem dL_law_25 : decode cL_law 25 = .ok (.aload_n 0, 1) := by decide +kernel
theorem dL_law_26 : decode cL_law 26 = .ok (.arraylength, 1) := by decide +kernel
theorem dL_law_27 : decode cL_law 27 = .ok (.bipush 6, 2) := by decide +kernel
theorem dL_law_29 : decode cL_law 29 = .ok (.isub, 1) := by decide +kernel
theorem dL_law_30 : decode cL_law 30 = .ok (.if_icmp .gt 1536, 3) := by decide +kernel
theorem dL_law_33 : decode cL_law 33 = .ok (.aload_n 0, 1) := by decide +kernel
theorem dL_law_34 : decode cL_law 34 = .ok (.iload 4, 2) := by decide +kernel
theorem dL_law_36 : decode cL_law 36 = .ok (.iaload, 1) := by decide +kernel
theorem dL_law_37 : decode cL_law 37 = .ok (.bipush 31, 2) := by decide +kernel
theorem dL_law_39 : decode cL_law 39 = .ok (.iand, 1) := by decide +kernel
theorem dL_law_40 : decode cL_law 40 = .ok (.tableswitch 1520 0 22 #[108, 188, 256, 312, 368, 448, 540, 620, 676, 780, 848, 928, 984, 1052, 1108, 1200, 1268, 1324, 1380, 1436, 1449, 1462, 1506], 108) := by decide +kernel
theorem dL_law_148 : decode cL_law 148 = .ok (.aload_n 1, 1) := by decide +kernel
theorem dL_law_149 : decode cL_law 149 = .ok (.aload_n 0, 1) := by decide +kernel
theorem dL_law_150 : decode cL_law 150 = .ok (.iload 4, 2) := by decide +kernel
theorem dL_law_152 : decode cL_law 152 = .ok (.iconst 1, 1) := by decide +kernel
theorem dL_law_153 : decode cL_law 153 = .ok (.iadd, 1) := by decide +kernel
theorem dL_law_154 : decode cL_law 154 = .ok (.iaload, 1) := by decide +kernel
theorem dL_law_155 : decode cL_law 155 = .ok (.aload_n 0, 1) := by decide +kernel
theorem dL_law_156 : decode cL_law 156 = .ok (.iload 4, 2) := by decide +kernel
theorem dL_law_158 : decode cL_law 158 = .ok (.iconst 2, 1) := by decide +kernel
theorem dL_law_159 : decode cL_law 159 = .ok (.iadd, 1) := by decide +kernel
theorem dL_law_160 : decode cL_law 160 = .ok (.iaload, 1) := by decide +kernel
theorem dL_law_161 : decode cL_law 161 = .ok (.aload_n 0, 1) := by decide +kernel
theorem dL_law_162 : decode cL_law 162 = .ok (.iload 4, 2) := by decide +kernel
theorem dL_law_164 : decode cL_law 164 = .ok (.iconst 3, 1) := by decide +kernel
theorem dL_law_165 : decode cL_law 165 = .ok (.iadd, 1) := by decide +kernel
theorem dL_law_166 : decode cL_law 166 = .ok (.iaload, 1) := by decide +kernel
theorem dL_law_167 : decode cL_law 167 = .ok (.aload_n 3, 1) := by decide +kernel
theorem dL_law_168 : decode cL_law 168 = .ok (.invokestatic 85, 3) := by decide +kernel
theorem dL_law_171 : decode cL_law 171 = .ok (.istore 5, 2) := by decide +kernel
theorem dL_law_173 : decode cL_law 173 = .ok (.aload_n 2, 1) := by decide +kernel
theorem dL_law_174 : decode cL_law 174 = .ok (.aload_n 0, 1) := by decide +kernel
theorem dL_law_175 : decode cL_law 175 = .ok (.iload 4, 2) := by decide +kernel
theorem dL_law_177 : decode cL_law 177 = .ok (.iconst 1, 1) := by decide +kernel
theorem dL_law_178 : decode cL_law 178 = .ok (.iadd, 1) := by decide +kernel
theorem dL_law_179 : decode cL_law 179 = .ok (.iaload, 1) := by decide +kernel
theorem dL_law_180 : decode cL_law 180 = .ok (.aload_n 0, 1) := by decide +kernel
theorem dL_law_181 : decode cL_law 181 = .ok (.iload 4, 2) := by decide +kernel
theorem dL_law_183 : decode cL_law 183 = .ok (.iconst 2, 1) := by decide +kernel
theorem dL_law_184 : decode cL_law 184 = .ok (.iadd, 1) := by decide +kernel
theorem dL_law_185 : decode cL_law 185 = .ok (.iaload, 1) := by decide +kernel
theorem dL_law_186 : decode cL_law 186 = .ok (.aload_n 0, 1) := by decide +kernel
theorem dL_law_187 : decode cL_law 187 = .ok (.iload 4, 2) := by decide +kernel
theorem dL_law_189 : decode cL_law 189 = .ok (.iconst 3, 1) := by decide +kernel
theorem dL_law_190 : decode cL_law 190 = .ok (.iadd, 1) := by decide +kernel
theorem dL_law_191 : decode cL_law 191 = .ok (.iaload, 1) := by decide +kernel
theorem dL_law_192 : decode cL_law 192 = .ok (.invokevirtual 90, 3) := by decide +kernel
theorem dL_law_195 : decode cL_law 195 = .ok (.istore 6, 2) := by decide +kernel
theorem dL_law_197 : decode cL_law 197 = .ok (.aload_n 2, 1) := by decide +kernel
theorem dL_law_198 : decode cL_law 198 = .ok (.invokevirtual 91, 3) := by decide +kernel
theorem dL_law_201 : decode cL_law 201 = .ok (.iload 5, 2) := by decide +kernel
theorem dL_law_203 : decode cL_law 203 = .ok (.if_icmp .eq 5, 3) := by decide +kernel
theorem dL_law_206 : decode cL_law 206 = .ok (.iconst 0, 1) := by decide +kernel
theorem dL_law_207 : decode cL_law 207 = .ok (.ireturn, 1) := by decide +kernel
theorem dL_law_208 : decode cL_law 208 = .ok (.iload 5, 2) := by decide +kernel
theorem dL_law_210 : decode cL_law 210 = .ok (.ifCond .ne 15, 3) := by decide +kernel
theorem dL_law_213 : decode cL_law 213 = .ok (.aload_n 3, 1) := by decide +kernel
theorem dL_law_214 : decode cL_law 214 = .ok (.iconst 0, 1) := by decide +kernel
theorem dL_law_215 : decode cL_law 215 = .ok (.laload, 1) := by decide +kernel
theorem dL_law_216 : decode cL_law 216 = .ok (.iload 6, 2) := by decide +kernel
theorem dL_law_218 : decode cL_law 218 = .ok (.i2l, 1) := by decide +kernel
theorem dL_law_219 : decode cL_law 219 = .ok (.lcmp, 1) := by decide +kernel
theorem dL_law_220 : decode cL_law 220 = .ok (.ifCond .eq 5, 3) := by decide +kernel
theorem dL_law_223 : decode cL_law 223 = .ok (.iconst 0, 1) := by decide +kernel
theorem dL_law_224 : decode cL_law 224 = .ok (.ireturn, 1) := by decide +kernel
theorem dL_law_225 : decode cL_law 225 = .ok (.goto 1335, 3) := by decide +kernel
theorem dL_law_228 : decode cL_law 228 = .ok (.aload_n 1, 1) := by decide +kernel
theorem dL_law_229 : decode cL_law 229 = .ok (.aload_n 0, 1) := by decide +kernel
theorem dL_law_230 : decode cL_law 230 = .ok (.iload 4, 2) := by decide +kernel
theorem dL_law_232 : decode cL_law 232 = .ok (.iconst 1, 1) := by decide +kernel
theorem dL_law_233 : decode cL_law 233 = .ok (.iadd, 1) := by decide +kernel
theorem dL_law_234 : decode cL_law 234 = .ok (.iaload, 1) := by decide +kernel
theorem dL_law_235 : decode cL_law 235 = .ok (.aload_n 0, 1) := by decide +kernel
theorem dL_law_236 : decode cL_law 236 = .ok (.iload 4, 2) := by decide +kernel
theorem dL_law_238 : decode cL_law 238 = .ok (.iconst 2, 1) := by decide +kernel
theorem dL_law_239 : decode cL_law 239 = .ok (.iadd, 1) := by decide +kernel
theorem dL_law_240 : decode cL_law 240 = .ok (.iaload, 1) := by decide +kernel
theorem dL_law_241 : decode cL_law 241 = .ok (.aload_n 3, 1) := by decide +kernel
theorem dL_law_242 : decode cL_law 242 = .ok (.invokestatic 94, 3) := by decide +kernel
theorem dL_law_245 : decode cL_law 245 = .ok (.istore 5, 2) := by decide +kernel
theorem dL_law_247 : decode cL_law 247 = .ok (.aload_n 2, 1) := by decide +kernel
theorem dL_law_248 : decode cL_law 248 = .ok (.aload_n 0, 1) := by decide +kernel
theorem dL_law_249 : decode cL_law 249 = .ok (.iload 4, 2) := by decide +kernel
theorem dL_law_251 : decode cL_law 251 = .ok (.iconst 1, 1) := by decide +kernel
theorem dL_law_252 : decode cL_law 252 = .ok (.iadd, 1) := by decide +kernel
theorem dL_law_253 : decode cL_law 253 = .ok (.iaload, 1) := by decide +kernel
theorem dL_law_254 : decode cL_law 254 = .ok (.aload_n 0, 1) := by decide +kernel
theorem dL_law_255 : decode cL_law 255 = .ok (.iload 4, 2) := by decide +kernel
theorem dL_law_257 : decode cL_law 257 = .ok (.iconst 2, 1) := by decide +kernel
theorem dL_law_258 : decode cL_law 258 = .ok (.iadd, 1) := by decide +kernel
theorem dL_law_259 : decode cL_law 259 = .ok (.iaload, 1) := by decide +kernel
theorem dL_law_260 : decode cL_law 260 = .ok (.invokevirtual 97, 3) := by decide +kernel
theorem dL_law_263 : decode cL_law 263 = .ok (.istore 6, 2) := by decide +kernel
theorem dL_law_265 : decode cL_law 265 = .ok (.aload_n 2, 1) := by decide +kernel
theorem dL_law_266 : decode cL_law 266 = .ok (.invokevirtual 91, 3) := by decide +kernel
theorem dL_law_269 : decode cL_law 269 = .ok (.iload 5, 2) := by decide +kernel
theorem dL_law_271 : decode cL_law 271 = .ok (.if_icmp .eq 5, 3) := by decide +kernel
theorem dL_law_274 : decode cL_law 274 = .ok (.iconst 0, 1) := by decide +kernel
theorem dL_law_275 : decode cL_law 275 = .ok (.ireturn, 1) := by decide +kernel
theorem dL_law_276 : decode cL_law 276 = .ok (.iload 5, 2) := by decide +kernel
theorem dL_law_278 : decode cL_law 278 = .ok (.ifCond .ne 15, 3) := by decide +kernel
theorem dL_law_281 : decode cL_law 281 = .ok (.aload_n 3, 1) := by decide +kernel
theorem dL_law_282 : decode cL_law 282 = .ok (.iconst 0, 1) := by decide +kernel
theorem dL_law_283 : decode cL_law 283 = .ok (.laload, 1) := by decide +kernel
theorem dL_law_284 : decode cL_law 284 = .ok (.iload 6, 2) := by decide +kernel
theorem dL_law_286 : decode cL_law 286 = .ok (.i2l, 1) := by decide +kernel
theorem dL_law_287 : decode cL_law 287 = .ok (.lcmp, 1) := by decide +kernel
theorem dL_law_288 : decode cL_law 288 = .ok (.ifCond .eq 5, 3) := by decide +kernel
theorem dL_law_291 : decode cL_law 291 = .ok (.iconst 0, 1) := by decide +kernel
theorem dL_law_292 : decode cL_law 292 = .ok (.ireturn, 1) := by decide +kernel
theorem dL_law_293 : decode cL_law 293 = .ok (.goto 1267, 3) := by decide +kernel
theorem dL_law_296 : decode cL_law 296 = .ok (.aload_n 1, 1) := by decide +kernel
theorem dL_law_297 : decode cL_law 297 = .ok (.aload_n 0, 1) := by decide +kernel
theorem dL_law_298 : decode cL_law 298 = .ok (.iload 4, 2) := by decide +kernel
theorem dL_law_300 : decode cL_law 300 = .ok (.iconst 1, 1) := by decide +kernel
theorem dL_law_301 : decode cL_law 301 = .ok (.iadd, 1) := by decide +kernel
theorem dL_law_302 : decode cL_law 302 = .ok (.iaload, 1) := by decide +kernel
theorem dL_law_303 : decode cL_law 303 = .ok (.aload_n 3, 1) := by decide +kernel
theorem dL_law_304 : decode cL_law 304 = .ok (.invokestatic 98, 3) := by decide +kernel
theorem dL_law_307 : decode cL_law 307 = .ok (.istore 5, 2) := by decide +kernel
theorem dL_law_309 : decode cL_law 309 = .ok (.aload_n 2, 1) := by decide +kernel
theorem dL_law_310 : decode cL_law 310 = .ok (.aload_n 0, 1) := by decide +kernel
theorem dL_law_311 : decode cL_law 311 = .ok (.iload 4, 2) := by decide +kernel
theorem dL_law_313 : decode cL_law 313 = .ok (.iconst 1, 1) := by decide +kernel
theorem dL_law_314 : decode cL_law 314 = .ok (.iadd, 1) := by decide +kernel
theorem dL_law_315 : decode cL_law 315 = .ok (.iaload, 1) := by decide +kernel
theorem dL_law_316 : decode cL_law 316 = .ok (.invokevirtual 101, 3) := by decide +kernel
theorem dL_law_319 : decode cL_law 319 = .ok (.istore 6, 2) := by decide +kernel
theorem dL_law_321 : decode cL_law 321 = .ok (.aload_n 2, 1) := by decide +kernel
theorem dL_law_322 : decode cL_law 322 = .ok (.invokevirtual 91, 3) := by decide +kernel
theorem dL_law_325 : decode cL_law 325 = .ok (.iload 5, 2) := by decide +kernel
theorem dL_law_327 : decode cL_law 327 = .ok (.if_icmp .eq 5, 3) := by decide +kernel
theorem dL_law_330 : decode cL_law 330 = .ok (.iconst 0, 1) := by decide +kernel
theorem dL_law_331 : decode cL_law 331 = .ok (.ireturn, 1) := by decide +kernel
theorem dL_law_332 : decode cL_law 332 = .ok (.iload 5, 2) := by decide +kernel
theorem dL_law_334 : decode cL_law 334 = .ok (.ifCond .ne 15, 3) := by decide +kernel
theorem dL_law_337 : decode cL_law 337 = .ok (.aload_n 3, 1) := by decide +kernel
theorem dL_law_338 : decode cL_law 338 = .ok (.iconst 0, 1) := by decide +kernel
theorem dL_law_339 : decode cL_law 339 = .ok (.laload, 1) := by decide +kernel
theorem dL_law_340 : decode cL_law 340 = .ok (.iload 6, 2) := by decide +kernel
theorem dL_law_342 : decode cL_law 342 = .ok (.i2l, 1) := by decide +kernel
theorem dL_law_343 : decode cL_law 343 = .ok (.lcmp, 1) := by decide +kernel
theorem dL_law_344 : decode cL_law 344 = .ok (.ifCond .eq 5, 3) := by decide +kernel
theorem dL_law_347 : decode cL_law 347 = .ok (.iconst 0, 1) := by decide +kernel
theorem dL_law_348 : decode cL_law 348 = .ok (.ireturn, 1) := by decide +kernel
theorem dL_law_349 : decode cL_law 349 = .ok (.goto 1211, 3) := by decide +kernel
theorem dL_law_352 : decode cL_law 352 = .ok (.aload_n 1, 1) := by decide +kernel
theorem dL_law_353 : decode cL_law 353 = .ok (.aload_n 0, 1) := by decide +kernel
theorem dL_law_354 : decode cL_law 354 = .ok (.iload 4, 2) := by decide +kernel
theorem dL_law_356 : decode cL_law 356 = .ok (.iconst 1, 1) := by decide +kernel
theorem dL_law_357 : decode cL_law 357 = .ok (.iadd, 1) := by decide +kernel
theorem dL_law_358 : decode cL_law 358 = .ok (.iaload, 1) := by decide +kernel
theorem dL_law_359 : decode cL_law 359 = .ok (.aload_n 3, 1) := by decide +kernel
theorem dL_law_360 : decode cL_law 360 = .ok (.invokestatic 102, 3) := by decide +kernel
theorem dL_law_363 : decode cL_law 363 = .ok (.istore 5, 2) := by decide +kernel
theorem dL_law_365 : decode cL_law 365 = .ok (.aload_n 2, 1) := by decide +kernel
theorem dL_law_366 : decode cL_law 366 = .ok (.aload_n 0, 1) := by decide +kernel
theorem dL_law_367 : decode cL_law 367 = .ok (.iload 4, 2) := by decide +kernel
theorem dL_law_369 : decode cL_law 369 = .ok (.iconst 1, 1) := by decide +kernel
theorem dL_law_370 : decode cL_law 370 = .ok (.iadd, 1) := by decide +kernel
theorem dL_law_371 : decode cL_law 371 = .ok (.iaload, 1) := by decide +kernel
theorem dL_law_372 : decode cL_law 372 = .ok (.invokevirtual 104, 3) := by decide +kernel
theorem dL_law_375 : decode cL_law 375 = .ok (.istore 6, 2) := by decide +kernel
theorem dL_law_377 : decode cL_law 377 = .ok (.aload_n 2, 1) := by decide +kernel
theorem dL_law_378 : decode cL_law 378 = .ok (.invokevirtual 91, 3) := by decide +kernel
theorem dL_law_381 : decode cL_law 381 = .ok (.iload 5, 2) := by decide +kernel
theorem dL_law_383 : decode cL_law 383 = .ok (.if_icmp .eq 5, 3) := by decide +kernel
theorem dL_law_386 : decode cL_law 386 = .ok (.iconst 0, 1) := by decide +kernel
theorem dL_law_387 : decode cL_law 387 = .ok (.ireturn, 1) := by decide +kernel
theorem dL_law_388 : decode cL_law 388 = .ok (.iload 5, 2) := by decide +kernel
theorem dL_law_390 : decode cL_law 390 = .ok (.ifCond .ne 15, 3) := by decide +kernel
theorem dL_law_393 : decode cL_law 393 = .ok (.aload_n 3, 1) := by decide +kernel
theorem dL_law_394 : decode cL_law 394 = .ok (.iconst 0, 1) := by decide +kernel
theorem dL_law_395 : decode cL_law 395 = .ok (.laload, 1) := by decide +kernel
theorem dL_law_396 : decode cL_law 396 = .ok (.iload 6, 2) := by decide +kernel
theorem dL_law_398 : decode cL_law 398 = .ok (.i2l, 1) := by decide +kernel
theorem dL_law_399 : decode cL_law 399 = .ok (.lcmp, 1) := by decide +kernel
theorem dL_law_400 : decode cL_law 400 = .ok (.ifCond .eq 5, 3) := by decide +kernel
theorem dL_law_403 : decode cL_law 403 = .ok (.iconst 0, 1) := by decide +kernel
theorem dL_law_404 : decode cL_law 404 = .ok (.ireturn, 1) := by decide +kernel
theorem dL_law_405 : decode cL_law 405 = .ok (.goto 1155, 3) := by decide +kernel
theorem dL_law_408 : decode cL_law 408 = .ok (.aload_n 1, 1) := by decide +kernel
theorem dL_law_409 : decode cL_law 409 = .ok (.aload_n 0, 1) := by decide +kernel
theorem dL_law_410 : decode cL_law 410 = .ok (.iload 4, 2) := by decide +kernel
theorem dL_law_412 : decode cL_law 412 = .ok (.iconst 1, 1) := by decide +kernel
theorem dL_law_413 : decode cL_law 413 = .ok (.iadd, 1) := by decide +kernel
theorem dL_law_414 : decode cL_law 414 = .ok (.iaload, 1) := by decide +kernel
theorem dL_law_415 : decode cL_law 415 = .ok (.aload_n 0, 1) := by decide +kernel
theorem dL_law_416 : decode cL_law 416 = .ok (.iload 4, 2) := by decide +kernel
theorem dL_law_418 : decode cL_law 418 = .ok (.iconst 2, 1) := by decide +kernel
theorem dL_law_419 : decode cL_law 419 = .ok (.iadd, 1) := by decide +kernel
theorem dL_law_420 : decode cL_law 420 = .ok (.iaload, 1) := by decide +kernel
theorem dL_law_421 : decode cL_law 421 = .ok (.aload_n 0, 1) := by decide +kernel
theorem dL_law_422 : decode cL_law 422 = .ok (.iload 4, 2) := by decide +kernel
theorem dL_law_424 : decode cL_law 424 = .ok (.iconst 3, 1) := by decide +kernel
theorem dL_law_425 : decode cL_law 425 = .ok (.iadd, 1) := by decide +kernel
theorem dL_law_426 : decode cL_law 426 = .ok (.iaload, 1) := by decide +kernel
theorem dL_law_427 : decode cL_law 427 = .ok (.aload_n 3, 1) := by decide +kernel
theorem dL_law_428 : decode cL_law 428 = .ok (.invokestatic 105, 3) := by decide +kernel
theorem dL_law_431 : decode cL_law 431 = .ok (.istore 5, 2) := by decide +kernel
theorem dL_law_433 : decode cL_law 433 = .ok (.aload_n 2, 1) := by decide +kernel
theorem dL_law_434 : decode cL_law 434 = .ok (.aload_n 0, 1) := by decide +kernel
theorem dL_law_435 : decode cL_law 435 = .ok (.iload 4, 2) := by decide +kernel
theorem dL_law_437 : decode cL_law 437 = .ok (.iconst 1, 1) := by decide +kernel
theorem dL_law_438 : decode cL_law 438 = .ok (.iadd, 1) := by decide +kernel
theorem dL_law_439 : decode cL_law 439 = .ok (.iaload, 1) := by decide +kernel
theorem dL_law_440 : decode cL_law 440 = .ok (.aload_n 0, 1) := by decide +kernel
theorem dL_law_441 : decode cL_law 441 = .ok (.iload 4, 2) := by decide +kernel
theorem dL_law_443 : decode cL_law 443 = .ok (.iconst 2, 1) := by decide +kernel
theorem dL_law_444 : decode cL_law 444 = .ok (.iadd, 1) := by decide +kernel
theorem dL_law_445 : decode cL_law 445 = .ok (.iaload, 1) := by decide +kernel
theorem dL_law_446 : decode cL_law 446 = .ok (.aload_n 0, 1) := by decide +kernel
theorem dL_law_447 : decode cL_law 447 = .ok (.iload 4, 2) := by decide +kernel
theorem dL_law_449 : decode cL_law 449 = .ok (.iconst 3, 1) := by decide +kernel
theorem dL_law_450 : decode cL_law 450 = .ok (.iadd, 1) := by decide +kernel
theorem dL_law_451 : decode cL_law 451 = .ok (.iaload, 1) := by decide +kernel
theorem dL_law_452 : decode cL_law 452 = .ok (.invokevirtual 107, 3) := by decide +kernel
theorem dL_law_455 : decode cL_law 455 = .ok (.istore 6, 2) := by decide +kernel
theorem dL_law_457 : decode cL_law 457 = .ok (.aload_n 2, 1) := by decide +kernel
theorem dL_law_458 : decode cL_law 458 = .ok (.invokevirtual 91, 3) := by decide +kernel
theorem dL_law_461 : decode cL_law 461 = .ok (.iload 5, 2) := by decide +kernel
theorem dL_law_463 : decode cL_law 463 = .ok (.if_icmp .eq 5, 3) := by decide +kernel
theorem dL_law_466 : decode cL_law 466 = .ok (.iconst 0, 1) := by decide +kernel
theorem dL_law_467 : decode cL_law 467 = .ok (.ireturn, 1) := by decide +kernel
theorem dL_law_468 : decode cL_law 468 = .ok (.iload 5, 2) := by decide +kernel
theorem dL_law_470 : decode cL_law 470 = .ok (.ifCond .ne 15, 3) := by decide +kernel
theorem dL_law_473 : decode cL_law 473 = .ok (.aload_n 3, 1) := by decide +kernel
theorem dL_law_474 : decode cL_law 474 = .ok (.iconst 0, 1) := by decide +kernel
theorem dL_law_475 : decode cL_law 475 = .ok (.laload, 1) := by decide +kernel
theorem dL_law_476 : decode cL_law 476 = .ok (.iload 6, 2) := by decide +kernel
theorem dL_law_478 : decode cL_law 478 = .ok (.i2l, 1) := by decide +kernel
theorem dL_law_479 : decode cL_law 479 = .ok (.lcmp, 1) := by decide +kernel
theorem dL_law_480 : decode cL_law 480 = .ok (.ifCond .eq 5, 3) := by decide +kernel
theorem dL_law_483 : decode cL_law 483 = .ok (.iconst 0, 1) := by decide +kernel
theorem dL_law_484 : decode cL_law 484 = .ok (.ireturn, 1) := by decide +kernel
theorem dL_law_485 : decode cL_law 485 = .ok (.goto 1075, 3) := by decide +kernel
theorem dL_law_488 : decode cL_law 488 = .ok (.aload_n 1, 1) := by decide +kernel
theorem dL_law_489 : decode cL_law 489 = .ok (.aload_n 0, 1) := by decide +kernel
theorem dL_law_490 : decode cL_law 490 = .ok (.iload 4, 2) := by decide +kernel
theorem dL_law_492 : decode cL_law 492 = .ok (.iconst 1, 1) := by decide +kernel
theorem dL_law_493 : decode cL_law 493 = .ok (.iadd, 1) := by decide +kernel
theorem dL_law_494 : decode cL_law 494 = .ok (.iaload, 1) := by decide +kernel
theorem dL_law_495 : decode cL_law 495 = .ok (.aload_n 0, 1) := by decide +kernel
theorem dL_law_496 : decode cL_law 496 = .ok (.iload 4, 2) := by decide +kernel
theorem dL_law_498 : decode cL_law 498 = .ok (.iconst 2, 1) := by decide +kernel
theorem dL_law_499 : decode cL_law 499 = .ok (.iadd, 1) := by decide +kernel
theorem dL_law_500 : decode cL_law 500 = .ok (.iaload, 1) := by decide +kernel
theorem dL_law_501 : decode cL_law 501 = .ok (.aload_n 0, 1) := by decide +kernel
theorem dL_law_502 : decode cL_law 502 = .ok (.iload 4, 2) := by decide +kernel
theorem dL_law_504 : decode cL_law 504 = .ok (.iconst 3, 1) := by decide +kernel
theorem dL_law_505 : decode cL_law 505 = .ok (.iadd, 1) := by decide +kernel
theorem dL_law_506 : decode cL_law 506 = .ok (.iaload, 1) := by decide +kernel
theorem dL_law_507 : decode cL_law 507 = .ok (.aload_n 0, 1) := by decide +kernel
theorem dL_law_508 : decode cL_law 508 = .ok (.iload 4, 2) := by decide +kernel
theorem dL_law_510 : decode cL_law 510 = .ok (.iconst 4, 1) := by decide +kernel
theorem dL_law_511 : decode cL_law 511 = .ok (.iadd, 1) := by decide +kernel
theorem dL_law_512 : decode cL_law 512 = .ok (.iaload, 1) := by decide +kernel
theorem dL_law_513 : decode cL_law 513 = .ok (.aload_n 3, 1) := by decide +kernel
theorem dL_law_514 : decode cL_law 514 = .ok (.invokestatic 108, 3) := by decide +kernel
theorem dL_law_517 : decode cL_law 517 = .ok (.istore 5, 2) := by decide +kernel
theorem dL_law_519 : decode cL_law 519 = .ok (.aload_n 2, 1) := by decide +kernel
theorem dL_law_520 : decode cL_law 520 = .ok (.aload_n 0, 1) := by decide +kernel
theorem dL_law_521 : decode cL_law 521 = .ok (.iload 4, 2) := by decide +kernel
theorem dL_law_523 : decode cL_law 523 = .ok (.iconst 1, 1) := by decide +kernel
theorem dL_law_524 : decode cL_law 524 = .ok (.iadd, 1) := by decide +kernel
theorem dL_law_525 : decode cL_law 525 = .ok (.iaload, 1) := by decide +kernel
theorem dL_law_526 : decode cL_law 526 = .ok (.aload_n 0, 1) := by decide +kernel
theorem dL_law_527 : decode cL_law 527 = .ok (.iload 4, 2) := by decide +kernel
theorem dL_law_529 : decode cL_law 529 = .ok (.iconst 2, 1) := by decide +kernel
theorem dL_law_530 : decode cL_law 530 = .ok (.iadd, 1) := by decide +kernel
theorem dL_law_531 : decode cL_law 531 = .ok (.iaload, 1) := by decide +kernel
theorem dL_law_532 : decode cL_law 532 = .ok (.aload_n 0, 1) := by decide +kernel
theorem dL_law_533 : decode cL_law 533 = .ok (.iload 4, 2) := by decide +kernel
theorem dL_law_535 : decode cL_law 535 = .ok (.iconst 3, 1) := by decide +kernel
theorem dL_law_536 : decode cL_law 536 = .ok (.iadd, 1) := by decide +kernel
theorem dL_law_537 : decode cL_law 537 = .ok (.iaload, 1) := by decide +kernel
theorem dL_law_538 : decode cL_law 538 = .ok (.aload_n 0, 1) := by decide +kernel
theorem dL_law_539 : decode cL_law 539 = .ok (.iload 4, 2) := by decide +kernel
theorem dL_law_541 : decode cL_law 541 = .ok (.iconst 4, 1) := by decide +kernel
theorem dL_law_542 : decode cL_law 542 = .ok (.iadd, 1) := by decide +kernel
theorem dL_law_543 : decode cL_law 543 = .ok (.iaload, 1) := by decide +kernel
theorem dL_law_544 : decode cL_law 544 = .ok (.invokevirtual 111, 3) := by decide +kernel
theorem dL_law_547 : decode cL_law 547 = .ok (.istore 6, 2) := by decide +kernel
theorem dL_law_549 : decode cL_law 549 = .ok (.aload_n 2, 1) := by decide +kernel
theorem dL_law_550 : decode cL_law 550 = .ok (.invokevirtual 91, 3) := by decide +kernel
theorem dL_law_553 : decode cL_law 553 = .ok (.iload 5, 2) := by decide +kernel
theorem dL_law_555 : decode cL_law 555 = .ok (.if_icmp .eq 5, 3) := by decide +kernel
theorem dL_law_558 : decode cL_law 558 = .ok (.iconst 0, 1) := by decide +kernel
theorem dL_law_559 : decode cL_law 559 = .ok (.ireturn, 1) := by decide +kernel
theorem dL_law_560 : decode cL_law 560 = .ok (.iload 5, 2) := by decide +kernel
theorem dL_law_562 : decode cL_law 562 = .ok (.ifCond .ne 15, 3) := by decide +kernel
theorem dL_law_565 : decode cL_law 565 = .ok (.aload_n 3, 1) := by decide +kernel
theorem dL_law_566 : decode cL_law 566 = .ok (.iconst 0, 1) := by decide +kernel
theorem dL_law_567 : decode cL_law 567 = .ok (.laload, 1) := by decide +kernel
theorem dL_law_568 : decode cL_law 568 = .ok (.iload 6, 2) := by decide +kernel
theorem dL_law_570 : decode cL_law 570 = .ok (.i2l, 1) := by decide +kernel
theorem dL_law_571 : decode cL_law 571 = .ok (.lcmp, 1) := by decide +kernel
theorem dL_law_572 : decode cL_law 572 = .ok (.ifCond .eq 5, 3) := by decide +kernel
theorem dL_law_575 : decode cL_law 575 = .ok (.iconst 0, 1) := by decide +kernel
theorem dL_law_576 : decode cL_law 576 = .ok (.ireturn, 1) := by decide +kernel
theorem dL_law_577 : decode cL_law 577 = .ok (.goto 983, 3) := by decide +kernel
theorem dL_law_580 : decode cL_law 580 = .ok (.aload_n 1, 1) := by decide +kernel
theorem dL_law_581 : decode cL_law 581 = .ok (.aload_n 0, 1) := by decide +kernel
theorem dL_law_582 : decode cL_law 582 = .ok (.iload 4, 2) := by decide +kernel
theorem dL_law_584 : decode cL_law 584 = .ok (.iconst 1, 1) := by decide +kernel
theorem dL_law_585 : decode cL_law 585 = .ok (.iadd, 1) := by decide +kernel
theorem dL_law_586 : decode cL_law 586 = .ok (.iaload, 1) := by decide +kernel
theorem dL_law_587 : decode cL_law 587 = .ok (.aload_n 0, 1) := by decide +kernel
theorem dL_law_588 : decode cL_law 588 = .ok (.iload 4, 2) := by decide +kernel
theorem dL_law_590 : decode cL_law 590 = .ok (.iconst 2, 1) := by decide +kernel
theorem dL_law_591 : decode cL_law 591 = .ok (.iadd, 1) := by decide +kernel
theorem dL_law_592 : decode cL_law 592 = .ok (.iaload, 1) := by decide +kernel
theorem dL_law_593 : decode cL_law 593 = .ok (.aload_n 0, 1) := by decide +kernel
theorem dL_law_594 : decode cL_law 594 = .ok (.iload 4, 2) := by decide +kernel
theorem dL_law_596 : decode cL_law 596 = .ok (.iconst 3, 1) := by decide +kernel
theorem dL_law_597 : decode cL_law 597 = .ok (.iadd, 1) := by decide +kernel
theorem dL_law_598 : decode cL_law 598 = .ok (.iaload, 1) := by decide +kernel
theorem dL_law_599 : decode cL_law 599 = .ok (.aload_n 3, 1) := by decide +kernel
theorem dL_law_600 : decode cL_law 600 = .ok (.invokestatic 112, 3) := by decide +kernel
theorem dL_law_603 : decode cL_law 603 = .ok (.istore 5, 2) := by decide +kernel
theorem dL_law_605 : decode cL_law 605 = .ok (.aload_n 2, 1) := by decide +kernel
theorem dL_law_606 : decode cL_law 606 = .ok (.aload_n 0, 1) := by decide +kernel
theorem dL_law_607 : decode cL_law 607 = .ok (.iload 4, 2) := by decide +kernel
theorem dL_law_609 : decode cL_law 609 = .ok (.iconst 1, 1) := by decide +kernel
theorem dL_law_610 : decode cL_law 610 = .ok (.iadd, 1) := by decide +kernel
theorem dL_law_611 : decode cL_law 611 = .ok (.iaload, 1) := by decide +kernel
theorem dL_law_612 : decode cL_law 612 = .ok (.aload_n 0, 1) := by decide +kernel
theorem dL_law_613 : decode cL_law 613 = .ok (.iload 4, 2) := by decide +kernel
theorem dL_law_615 : decode cL_law 615 = .ok (.iconst 2, 1) := by decide +kernel
theorem dL_law_616 : decode cL_law 616 = .ok (.iadd, 1) := by decide +kernel
theorem dL_law_617 : decode cL_law 617 = .ok (.iaload, 1) := by decide +kernel
theorem dL_law_618 : decode cL_law 618 = .ok (.aload_n 0, 1) := by decide +kernel
theorem dL_law_619 : decode cL_law 619 = .ok (.iload 4, 2) := by decide +kernel
theorem dL_law_621 : decode cL_law 621 = .ok (.iconst 3, 1) := by decide +kernel
theorem dL_law_622 : decode cL_law 622 = .ok (.iadd, 1) := by decide +kernel
theorem dL_law_623 : decode cL_law 623 = .ok (.iaload, 1) := by decide +kernel
theorem dL_law_624 : decode cL_law 624 = .ok (.invokevirtual 114, 3) := by decide +kernel
theorem dL_law_627 : decode cL_law 627 = .ok (.istore 6, 2) := by decide +kernel
theorem dL_law_629 : decode cL_law 629 = .ok (.aload_n 2, 1) := by decide +kernel
theorem dL_law_630 : decode cL_law 630 = .ok (.invokevirtual 91, 3) := by decide +kernel
theorem dL_law_633 : decode cL_law 633 = .ok (.iload 5, 2) := by decide +kernel
theorem dL_law_635 : decode cL_law 635 = .ok (.if_icmp .eq 5, 3) := by decide +kernel
theorem dL_law_638 : decode cL_law 638 = .ok (.iconst 0, 1) := by decide +kernel
theorem dL_law_639 : decode cL_law 639 = .ok (.ireturn, 1) := by decide +kernel
theorem dL_law_640 : decode cL_law 640 = .ok (.iload 5, 2) := by decide +kernel
theorem dL_law_642 : decode cL_law 642 = .ok (.ifCond .ne 15, 3) := by decide +kernel
theorem dL_law_645 : decode cL_law 645 = .ok (.aload_n 3, 1) := by decide +kernel
theorem dL_law_646 : decode cL_law 646 = .ok (.iconst 0, 1) := by decide +kernel
theorem dL_law_647 : decode cL_law 647 = .ok (.laload, 1) := by decide +kernel
theorem dL_law_648 : decode cL_law 648 = .ok (.iload 6, 2) := by decide +kernel
theorem dL_law_650 : decode cL_law 650 = .ok (.i2l, 1) := by decide +kernel
theorem dL_law_651 : decode cL_law 651 = .ok (.lcmp, 1) := by decide +kernel
theorem dL_law_652 : decode cL_law 652 = .ok (.ifCond .eq 5, 3) := by decide +kernel
theorem dL_law_655 : decode cL_law 655 = .ok (.iconst 0, 1) := by decide +kernel
theorem dL_law_656 : decode cL_law 656 = .ok (.ireturn, 1) := by decide +kernel
theorem dL_law_657 : decode cL_law 657 = .ok (.goto 903, 3) := by decide +kernel
theorem dL_law_660 : decode cL_law 660 = .ok (.aload_n 1, 1) := by decide +kernel
theorem dL_law_661 : decode cL_law 661 = .ok (.aload_n 0, 1) := by decide +kernel
theorem dL_law_662 : decode cL_law 662 = .ok (.iload 4, 2) := by decide +kernel
theorem dL_law_664 : decode cL_law 664 = .ok (.iconst 1, 1) := by decide +kernel
theorem dL_law_665 : decode cL_law 665 = .ok (.iadd, 1) := by decide +kernel
theorem dL_law_666 : decode cL_law 666 = .ok (.iaload, 1) := by decide +kernel
theorem dL_law_667 : decode cL_law 667 = .ok (.aload_n 3, 1) := by decide +kernel
theorem dL_law_668 : decode cL_law 668 = .ok (.invokestatic 115, 3) := by decide +kernel
theorem dL_law_671 : decode cL_law 671 = .ok (.istore 5, 2) := by decide +kernel
theorem dL_law_673 : decode cL_law 673 = .ok (.aload_n 2, 1) := by decide +kernel
theorem dL_law_674 : decode cL_law 674 = .ok (.aload_n 0, 1) := by decide +kernel
theorem dL_law_675 : decode cL_law 675 = .ok (.iload 4, 2) := by decide +kernel
theorem dL_law_677 : decode cL_law 677 = .ok (.iconst 1, 1) := by decide +kernel
theorem dL_law_678 : decode cL_law 678 = .ok (.iadd, 1) := by decide +kernel
theorem dL_law_679 : decode cL_law 679 = .ok (.iaload, 1) := by decide +kernel
theorem dL_law_680 : decode cL_law 680 = .ok (.invokevirtual 117, 3) := by decide +kernel
theorem dL_law_683 : decode cL_law 683 = .ok (.istore 6, 2) := by decide +kernel
theorem dL_law_685 : decode cL_law 685 = .ok (.aload_n 2, 1) := by decide +kernel
theorem dL_law_686 : decode cL_law 686 = .ok (.invokevirtual 91, 3) := by decide +kernel
theorem dL_law_689 : decode cL_law 689 = .ok (.iload 5, 2) := by decide +kernel
theorem dL_law_691 : decode cL_law 691 = .ok (.if_icmp .eq 5, 3) := by decide +kernel
theorem dL_law_694 : decode cL_law 694 = .ok (.iconst 0, 1) := by decide +kernel
theorem dL_law_695 : decode cL_law 695 = .ok (.ireturn, 1) := by decide +kernel
theorem dL_law_696 : decode cL_law 696 = .ok (.iload 5, 2) := by decide +kernel
theorem dL_law_698 : decode cL_law 698 = .ok (.ifCond .ne 15, 3) := by decide +kernel
theorem dL_law_701 : decode cL_law 701 = .ok (.aload_n 3, 1) := by decide +kernel
theorem dL_law_702 : decode cL_law 702 = .ok (.iconst 0, 1) := by decide +kernel
theorem dL_law_703 : decode cL_law 703 = .ok (.laload, 1) := by decide +kernel
theorem dL_law_704 : decode cL_law 704 = .ok (.iload 6, 2) := by decide +kernel
theorem dL_law_706 : decode cL_law 706 = .ok (.i2l, 1) := by decide +kernel
theorem dL_law_707 : decode cL_law 707 = .ok (.lcmp, 1) := by decide +kernel
theorem dL_law_708 : decode cL_law 708 = .ok (.ifCond .eq 5, 3) := by decide +kernel
theorem dL_law_711 : decode cL_law 711 = .ok (.iconst 0, 1) := by decide +kernel
theorem dL_law_712 : decode cL_law 712 = .ok (.ireturn, 1) := by decide +kernel
theorem dL_law_713 : decode cL_law 713 = .ok (.goto 847, 3) := by decide +kernel
theorem dL_law_716 : decode cL_law 716 = .ok (.aload_n 1, 1) := by decide +kernel
theorem dL_law_717 : decode cL_law 717 = .ok (.aload_n 0, 1) := by decide +kernel
theorem dL_law_718 : decode cL_law 718 = .ok (.iload 4, 2) := by decide +kernel
theorem dL_law_720 : decode cL_law 720 = .ok (.iconst 1, 1) := by decide +kernel
theorem dL_law_721 : decode cL_law 721 = .ok (.iadd, 1) := by decide +kernel
theorem dL_law_722 : decode cL_law 722 = .ok (.iaload, 1) := by decide +kernel
theorem dL_law_723 : decode cL_law 723 = .ok (.aload_n 0, 1) := by decide +kernel
theorem dL_law_724 : decode cL_law 724 = .ok (.iload 4, 2) := by decide +kernel
theorem dL_law_726 : decode cL_law 726 = .ok (.iconst 2, 1) := by decide +kernel
theorem dL_law_727 : decode cL_law 727 = .ok (.iadd, 1) := by decide +kernel
theorem dL_law_728 : decode cL_law 728 = .ok (.iaload, 1) := by decide +kernel
theorem dL_law_729 : decode cL_law 729 = .ok (.aload_n 0, 1) := by decide +kernel
theorem dL_law_730 : decode cL_law 730 = .ok (.iload 4, 2) := by decide +kernel
theorem dL_law_732 : decode cL_law 732 = .ok (.iconst 3, 1) := by decide +kernel
theorem dL_law_733 : decode cL_law 733 = .ok (.iadd, 1) := by decide +kernel
theorem dL_law_734 : decode cL_law 734 = .ok (.iaload, 1) := by decide +kernel
theorem dL_law_735 : decode cL_law 735 = .ok (.aload_n 0, 1) := by decide +kernel
theorem dL_law_736 : decode cL_law 736 = .ok (.iload 4, 2) := by decide +kernel
theorem dL_law_738 : decode cL_law 738 = .ok (.iconst 4, 1) := by decide +kernel
theorem dL_law_739 : decode cL_law 739 = .ok (.iadd, 1) := by decide +kernel
theorem dL_law_740 : decode cL_law 740 = .ok (.iaload, 1) := by decide +kernel
theorem dL_law_741 : decode cL_law 741 = .ok (.aload_n 0, 1) := by decide +kernel
theorem dL_law_742 : decode cL_law 742 = .ok (.iload 4, 2) := by decide +kernel
theorem dL_law_744 : decode cL_law 744 = .ok (.iconst 5, 1) := by decide +kernel
theorem dL_law_745 : decode cL_law 745 = .ok (.iadd, 1) := by decide +kernel
theorem dL_law_746 : decode cL_law 746 = .ok (.iaload, 1) := by decide +kernel
theorem dL_law_747 : decode cL_law 747 = .ok (.aload_n 3, 1) := by decide +kernel
theorem dL_law_748 : decode cL_law 748 = .ok (.invokestatic 118, 3) := by decide +kernel
theorem dL_law_751 : decode cL_law 751 = .ok (.istore 5, 2) := by decide +kernel
theorem dL_law_753 : decode cL_law 753 = .ok (.aload_n 2, 1) := by decide +kernel
theorem dL_law_754 : decode cL_law 754 = .ok (.aload_n 0, 1) := by decide +kernel
theorem dL_law_755 : decode cL_law 755 = .ok (.iload 4, 2) := by decide +kernel
theorem dL_law_757 : decode cL_law 757 = .ok (.iconst 1, 1) := by decide +kernel
theorem dL_law_758 : decode cL_law 758 = .ok (.iadd, 1) := by decide +kernel
theorem dL_law_759 : decode cL_law 759 = .ok (.iaload, 1) := by decide +kernel
theorem dL_law_760 : decode cL_law 760 = .ok (.aload_n 0, 1) := by decide +kernel
theorem dL_law_761 : decode cL_law 761 = .ok (.iload 4, 2) := by decide +kernel
theorem dL_law_763 : decode cL_law 763 = .ok (.iconst 2, 1) := by decide +kernel
theorem dL_law_764 : decode cL_law 764 = .ok (.iadd, 1) := by decide +kernel
theorem dL_law_765 : decode cL_law 765 = .ok (.iaload, 1) := by decide +kernel
theorem dL_law_766 : decode cL_law 766 = .ok (.aload_n 0, 1) := by decide +kernel
theorem dL_law_767 : decode cL_law 767 = .ok (.iload 4, 2) := by decide +kernel
theorem dL_law_769 : decode cL_law 769 = .ok (.iconst 3, 1) := by decide +kernel
theorem dL_law_770 : decode cL_law 770 = .ok (.iadd, 1) := by decide +kernel
theorem dL_law_771 : decode cL_law 771 = .ok (.iaload, 1) := by decide +kernel
theorem dL_law_772 : decode cL_law 772 = .ok (.aload_n 0, 1) := by decide +kernel
theorem dL_law_773 : decode cL_law 773 = .ok (.iload 4, 2) := by decide +kernel
theorem dL_law_775 : decode cL_law 775 = .ok (.iconst 4, 1) := by decide +kernel
theorem dL_law_776 : decode cL_law 776 = .ok (.iadd, 1) := by decide +kernel
theorem dL_law_777 : decode cL_law 777 = .ok (.iaload, 1) := by decide +kernel
theorem dL_law_778 : decode cL_law 778 = .ok (.aload_n 0, 1) := by decide +kernel
theorem dL_law_779 : decode cL_law 779 = .ok (.iload 4, 2) := by decide +kernel
theorem dL_law_781 : decode cL_law 781 = .ok (.iconst 5, 1) := by decide +kernel
theorem dL_law_782 : decode cL_law 782 = .ok (.iadd, 1) := by decide +kernel
theorem dL_law_783 : decode cL_law 783 = .ok (.iaload, 1) := by decide +kernel
theorem dL_law_784 : decode cL_law 784 = .ok (.invokevirtual 121, 3) := by decide +kernel
theorem dL_law_787 : decode cL_law 787 = .ok (.istore 6, 2) := by decide +kernel
theorem dL_law_789 : decode cL_law 789 = .ok (.aload_n 2, 1) := by decide +kernel
theorem dL_law_790 : decode cL_law 790 = .ok (.invokevirtual 91, 3) := by decide +kernel
theorem dL_law_793 : decode cL_law 793 = .ok (.iload 5, 2) := by decide +kernel
theorem dL_law_795 : decode cL_law 795 = .ok (.if_icmp .eq 5, 3) := by decide +kernel
theorem dL_law_798 : decode cL_law 798 = .ok (.iconst 0, 1) := by decide +kernel
theorem dL_law_799 : decode cL_law 799 = .ok (.ireturn, 1) := by decide +kernel
theorem dL_law_800 : decode cL_law 800 = .ok (.iload 5, 2) := by decide +kernel
theorem dL_law_802 : decode cL_law 802 = .ok (.ifCond .ne 15, 3) := by decide +kernel
theorem dL_law_805 : decode cL_law 805 = .ok (.aload_n 3, 1) := by decide +kernel
theorem dL_law_806 : decode cL_law 806 = .ok (.iconst 0, 1) := by decide +kernel
theorem dL_law_807 : decode cL_law 807 = .ok (.laload, 1) := by decide +kernel
theorem dL_law_808 : decode cL_law 808 = .ok (.iload 6, 2) := by decide +kernel
theorem dL_law_810 : decode cL_law 810 = .ok (.i2l, 1) := by decide +kernel
theorem dL_law_811 : decode cL_law 811 = .ok (.lcmp, 1) := by decide +kernel
theorem dL_law_812 : decode cL_law 812 = .ok (.ifCond .eq 5, 3) := by decide +kernel
theorem dL_law_815 : decode cL_law 815 = .ok (.iconst 0, 1) := by decide +kernel
theorem dL_law_816 : decode cL_law 816 = .ok (.ireturn, 1) := by decide +kernel
theorem dL_law_817 : decode cL_law 817 = .ok (.goto 743, 3) := by decide +kernel
theorem dL_law_820 : decode cL_law 820 = .ok (.aload_n 1, 1) := by decide +kernel
theorem dL_law_821 : decode cL_law 821 = .ok (.aload_n 0, 1) := by decide +kernel
theorem dL_law_822 : decode cL_law 822 = .ok (.iload 4, 2) := by decide +kernel
theorem dL_law_824 : decode cL_law 824 = .ok (.iconst 1, 1) := by decide +kernel
theorem dL_law_825 : decode cL_law 825 = .ok (.iadd, 1) := by decide +kernel
theorem dL_law_826 : decode cL_law 826 = .ok (.iaload, 1) := by decide +kernel
theorem dL_law_827 : decode cL_law 827 = .ok (.aload_n 0, 1) := by decide +kernel
theorem dL_law_828 : decode cL_law 828 = .ok (.iload 4, 2) := by decide +kernel
theorem dL_law_830 : decode cL_law 830 = .ok (.iconst 2, 1) := by decide +kernel
theorem dL_law_831 : decode cL_law 831 = .ok (.iadd, 1) := by decide +kernel
theorem dL_law_832 : decode cL_law 832 = .ok (.iaload, 1) := by decide +kernel
theorem dL_law_833 : decode cL_law 833 = .ok (.aload_n 3, 1) := by decide +kernel
theorem dL_law_834 : decode cL_law 834 = .ok (.invokestatic 122, 3) := by decide +kernel
theorem dL_law_837 : decode cL_law 837 = .ok (.istore 5, 2) := by decide +kernel
theorem dL_law_839 : decode cL_law 839 = .ok (.aload_n 2, 1) := by decide +kernel
theorem dL_law_840 : decode cL_law 840 = .ok (.aload_n 0, 1) := by decide +kernel
theorem dL_law_841 : decode cL_law 841 = .ok (.iload 4, 2) := by decide +kernel
theorem dL_law_843 : decode cL_law 843 = .ok (.iconst 1, 1) := by decide +kernel
theorem dL_law_844 : decode cL_law 844 = .ok (.iadd, 1) := by decide +kernel
theorem dL_law_845 : decode cL_law 845 = .ok (.iaload, 1) := by decide +kernel
theorem dL_law_846 : decode cL_law 846 = .ok (.aload_n 0, 1) := by decide +kernel
theorem dL_law_847 : decode cL_law 847 = .ok (.iload 4, 2) := by decide +kernel
theorem dL_law_849 : decode cL_law 849 = .ok (.iconst 2, 1) := by decide +kernel
theorem dL_law_850 : decode cL_law 850 = .ok (.iadd, 1) := by decide +kernel
theorem dL_law_851 : decode cL_law 851 = .ok (.iaload, 1) := by decide +kernel
theorem dL_law_852 : decode cL_law 852 = .ok (.invokevirtual 124, 3) := by decide +kernel
theorem dL_law_855 : decode cL_law 855 = .ok (.istore 6, 2) := by decide +kernel
theorem dL_law_857 : decode cL_law 857 = .ok (.aload_n 2, 1) := by decide +kernel
theorem dL_law_858 : decode cL_law 858 = .ok (.invokevirtual 91, 3) := by decide +kernel
theorem dL_law_861 : decode cL_law 861 = .ok (.iload 5, 2) := by decide +kernel
theorem dL_law_863 : decode cL_law 863 = .ok (.if_icmp .eq 5, 3) := by decide +kernel
theorem dL_law_866 : decode cL_law 866 = .ok (.iconst 0, 1) := by decide +kernel
theorem dL_law_867 : decode cL_law 867 = .ok (.ireturn, 1) := by decide +kernel
theorem dL_law_868 : decode cL_law 868 = .ok (.iload 5, 2) := by decide +kernel
theorem dL_law_870 : decode cL_law 870 = .ok (.ifCond .ne 15, 3) := by decide +kernel
theorem dL_law_873 : decode cL_law 873 = .ok (.aload_n 3, 1) := by decide +kernel
theorem dL_law_874 : decode cL_law 874 = .ok (.iconst 0, 1) := by decide +kernel
theorem dL_law_875 : decode cL_law 875 = .ok (.laload, 1) := by decide +kernel
theorem dL_law_876 : decode cL_law 876 = .ok (.iload 6, 2) := by decide +kernel
theorem dL_law_878 : decode cL_law 878 = .ok (.i2l, 1) := by decide +kernel
theorem dL_law_879 : decode cL_law 879 = .ok (.lcmp, 1) := by decide +kernel
theorem dL_law_880 : decode cL_law 880 = .ok (.ifCond .eq 5, 3) := by decide +kernel
theorem dL_law_883 : decode cL_law 883 = .ok (.iconst 0, 1) := by decide +kernel
theorem dL_law_884 : decode cL_law 884 = .ok (.ireturn, 1) := by decide +kernel
theorem dL_law_885 : decode cL_law 885 = .ok (.goto 675, 3) := by decide +kernel
theorem dL_law_888 : decode cL_law 888 = .ok (.aload_n 1, 1) := by decide +kernel
theorem dL_law_889 : decode cL_law 889 = .ok (.aload_n 0, 1) := by decide +kernel
theorem dL_law_890 : decode cL_law 890 = .ok (.iload 4, 2) := by decide +kernel
theorem dL_law_892 : decode cL_law 892 = .ok (.iconst 1, 1) := by decide +kernel
theorem dL_law_893 : decode cL_law 893 = .ok (.iadd, 1) := by decide +kernel
theorem dL_law_894 : decode cL_law 894 = .ok (.iaload, 1) := by decide +kernel
theorem dL_law_895 : decode cL_law 895 = .ok (.aload_n 0, 1) := by decide +kernel
theorem dL_law_896 : decode cL_law 896 = .ok (.iload 4, 2) := by decide +kernel
theorem dL_law_898 : decode cL_law 898 = .ok (.iconst 2, 1) := by decide +kernel
theorem dL_law_899 : decode cL_law 899 = .ok (.iadd, 1) := by decide +kernel
theorem dL_law_900 : decode cL_law 900 = .ok (.iaload, 1) := by decide +kernel
theorem dL_law_901 : decode cL_law 901 = .ok (.aload_n 0, 1) := by decide +kernel
theorem dL_law_902 : decode cL_law 902 = .ok (.iload 4, 2) := by decide +kernel
theorem dL_law_904 : decode cL_law 904 = .ok (.iconst 3, 1) := by decide +kernel
theorem dL_law_905 : decode cL_law 905 = .ok (.iadd, 1) := by decide +kernel
theorem dL_law_906 : decode cL_law 906 = .ok (.iaload, 1) := by decide +kernel
theorem dL_law_907 : decode cL_law 907 = .ok (.aload_n 3, 1) := by decide +kernel
theorem dL_law_908 : decode cL_law 908 = .ok (.invokestatic 125, 3) := by decide +kernel
theorem dL_law_911 : decode cL_law 911 = .ok (.istore 5, 2) := by decide +kernel
theorem dL_law_913 : decode cL_law 913 = .ok (.aload_n 2, 1) := by decide +kernel
theorem dL_law_914 : decode cL_law 914 = .ok (.aload_n 0, 1) := by decide +kernel
theorem dL_law_915 : decode cL_law 915 = .ok (.iload 4, 2) := by decide +kernel
theorem dL_law_917 : decode cL_law 917 = .ok (.iconst 1, 1) := by decide +kernel
theorem dL_law_918 : decode cL_law 918 = .ok (.iadd, 1) := by decide +kernel
theorem dL_law_919 : decode cL_law 919 = .ok (.iaload, 1) := by decide +kernel
theorem dL_law_920 : decode cL_law 920 = .ok (.aload_n 0, 1) := by decide +kernel
theorem dL_law_921 : decode cL_law 921 = .ok (.iload 4, 2) := by decide +kernel
theorem dL_law_923 : decode cL_law 923 = .ok (.iconst 2, 1) := by decide +kernel
theorem dL_law_924 : decode cL_law 924 = .ok (.iadd, 1) := by decide +kernel
theorem dL_law_925 : decode cL_law 925 = .ok (.iaload, 1) := by decide +kernel
theorem dL_law_926 : decode cL_law 926 = .ok (.aload_n 0, 1) := by decide +kernel
theorem dL_law_927 : decode cL_law 927 = .ok (.iload 4, 2) := by decide +kernel
theorem dL_law_929 : decode cL_law 929 = .ok (.iconst 3, 1) := by decide +kernel
theorem dL_law_930 : decode cL_law 930 = .ok (.iadd, 1) := by decide +kernel
theorem dL_law_931 : decode cL_law 931 = .ok (.iaload, 1) := by decide +kernel
theorem dL_law_932 : decode cL_law 932 = .ok (.invokevirtual 127, 3) := by decide +kernel
theorem dL_law_935 : decode cL_law 935 = .ok (.istore 6, 2) := by decide +kernel
theorem dL_law_937 : decode cL_law 937 = .ok (.aload_n 2, 1) := by decide +kernel
theorem dL_law_938 : decode cL_law 938 = .ok (.invokevirtual 91, 3) := by decide +kernel
theorem dL_law_941 : decode cL_law 941 = .ok (.iload 5, 2) := by decide +kernel
theorem dL_law_943 : decode cL_law 943 = .ok (.if_icmp .eq 5, 3) := by decide +kernel
theorem dL_law_946 : decode cL_law 946 = .ok (.iconst 0, 1) := by decide +kernel
theorem dL_law_947 : decode cL_law 947 = .ok (.ireturn, 1) := by decide +kernel
theorem dL_law_948 : decode cL_law 948 = .ok (.iload 5, 2) := by decide +kernel
theorem dL_law_950 : decode cL_law 950 = .ok (.ifCond .ne 15, 3) := by decide +kernel
theorem dL_law_953 : decode cL_law 953 = .ok (.aload_n 3, 1) := by decide +kernel
theorem dL_law_954 : decode cL_law 954 = .ok (.iconst 0, 1) := by decide +kernel
theorem dL_law_955 : decode cL_law 955 = .ok (.laload, 1) := by decide +kernel
theorem dL_law_956 : decode cL_law 956 = .ok (.iload 6, 2) := by decide +kernel
theorem dL_law_958 : decode cL_law 958 = .ok (.i2l, 1) := by decide +kernel
theorem dL_law_959 : decode cL_law 959 = .ok (.lcmp, 1) := by decide +kernel
theorem dL_law_960 : decode cL_law 960 = .ok (.ifCond .eq 5, 3) := by decide +kernel
theorem dL_law_963 : decode cL_law 963 = .ok (.iconst 0, 1) := by decide +kernel
theorem dL_law_964 : decode cL_law 964 = .ok (.ireturn, 1) := by decide +kernel
theorem dL_law_965 : decode cL_law 965 = .ok (.goto 595, 3) := by decide +kernel
theorem dL_law_968 : decode cL_law 968 = .ok (.aload_n 1, 1) := by decide +kernel
theorem dL_law_969 : decode cL_law 969 = .ok (.aload_n 0, 1) := by decide +kernel
theorem dL_law_970 : decode cL_law 970 = .ok (.iload 4, 2) := by decide +kernel
theorem dL_law_972 : decode cL_law 972 = .ok (.iconst 1, 1) := by decide +kernel
theorem dL_law_973 : decode cL_law 973 = .ok (.iadd, 1) := by decide +kernel
theorem dL_law_974 : decode cL_law 974 = .ok (.iaload, 1) := by decide +kernel
theorem dL_law_975 : decode cL_law 975 = .ok (.aload_n 3, 1) := by decide +kernel
theorem dL_law_976 : decode cL_law 976 = .ok (.invokestatic 128, 3) := by decide +kernel
theorem dL_law_979 : decode cL_law 979 = .ok (.istore 5, 2) := by decide +kernel
theorem dL_law_981 : decode cL_law 981 = .ok (.aload_n 2, 1) := by decide +kernel
theorem dL_law_982 : decode cL_law 982 = .ok (.aload_n 0, 1) := by decide +kernel
theorem dL_law_983 : decode cL_law 983 = .ok (.iload 4, 2) := by decide +kernel
theorem dL_law_985 : decode cL_law 985 = .ok (.iconst 1, 1) := by decide +kernel
theorem dL_law_986 : decode cL_law 986 = .ok (.iadd, 1) := by decide +kernel
theorem dL_law_987 : decode cL_law 987 = .ok (.iaload, 1) := by decide +kernel
theorem dL_law_988 : decode cL_law 988 = .ok (.invokevirtual 130, 3) := by decide +kernel
theorem dL_law_991 : decode cL_law 991 = .ok (.istore 6, 2) := by decide +kernel
theorem dL_law_993 : decode cL_law 993 = .ok (.aload_n 2, 1) := by decide +kernel
theorem dL_law_994 : decode cL_law 994 = .ok (.invokevirtual 91, 3) := by decide +kernel
theorem dL_law_997 : decode cL_law 997 = .ok (.iload 5, 2) := by decide +kernel
theorem dL_law_999 : decode cL_law 999 = .ok (.if_icmp .eq 5, 3) := by decide +kernel
theorem dL_law_1002 : decode cL_law 1002 = .ok (.iconst 0, 1) := by decide +kernel
theorem dL_law_1003 : decode cL_law 1003 = .ok (.ireturn, 1) := by decide +kernel
theorem dL_law_1004 : decode cL_law 1004 = .ok (.iload 5, 2) := by decide +kernel
theorem dL_law_1006 : decode cL_law 1006 = .ok (.ifCond .ne 15, 3) := by decide +kernel
theorem dL_law_1009 : decode cL_law 1009 = .ok (.aload_n 3, 1) := by decide +kernel
theorem dL_law_1010 : decode cL_law 1010 = .ok (.iconst 0, 1) := by decide +kernel
theorem dL_law_1011 : decode cL_law 1011 = .ok (.laload, 1) := by decide +kernel
theorem dL_law_1012 : decode cL_law 1012 = .ok (.iload 6, 2) := by decide +kernel
theorem dL_law_1014 : decode cL_law 1014 = .ok (.i2l, 1) := by decide +kernel
theorem dL_law_1015 : decode cL_law 1015 = .ok (.lcmp, 1) := by decide +kernel
theorem dL_law_1016 : decode cL_law 1016 = .ok (.ifCond .eq 5, 3) := by decide +kernel
theorem dL_law_1019 : decode cL_law 1019 = .ok (.iconst 0, 1) := by decide +kernel
theorem dL_law_1020 : decode cL_law 1020 = .ok (.ireturn, 1) := by decide +kernel
theorem dL_law_1021 : decode cL_law 1021 = .ok (.goto 539, 3) := by decide +kernel
theorem dL_law_1024 : decode cL_law 1024 = .ok (.aload_n 1, 1) := by decide +kernel
theorem dL_law_1025 : decode cL_law 1025 = .ok (.aload_n 0, 1) := by decide +kernel
theorem dL_law_1026 : decode cL_law 1026 = .ok (.iload 4, 2) := by decide +kernel
theorem dL_law_1028 : decode cL_law 1028 = .ok (.iconst 1, 1) := by decide +kernel
theorem dL_law_1029 : decode cL_law 1029 = .ok (.iadd, 1) := by decide +kernel
theorem dL_law_1030 : decode cL_law 1030 = .ok (.iaload, 1) := by decide +kernel
theorem dL_law_1031 : decode cL_law 1031 = .ok (.aload_n 0, 1) := by decide +kernel
theorem dL_law_1032 : decode cL_law 1032 = .ok (.iload 4, 2) := by decide +kernel
theorem dL_law_1034 : decode cL_law 1034 = .ok (.iconst 2, 1) := by decide +kernel
theorem dL_law_1035 : decode cL_law 1035 = .ok (.iadd, 1) := by decide +kernel
theorem dL_law_1036 : decode cL_law 1036 = .ok (.iaload, 1) := by decide +kernel
theorem dL_law_1037 : decode cL_law 1037 = .ok (.aload_n 3, 1) := by decide +kernel
theorem dL_law_1038 : decode cL_law 1038 = .ok (.invokestatic 131, 3) := by decide +kernel
theorem dL_law_1041 : decode cL_law 1041 = .ok (.istore 5, 2) := by decide +kernel
theorem dL_law_1043 : decode cL_law 1043 = .ok (.aload_n 2, 1) := by decide +kernel
theorem dL_law_1044 : decode cL_law 1044 = .ok (.aload_n 0, 1) := by decide +kernel
theorem dL_law_1045 : decode cL_law 1045 = .ok (.iload 4, 2) := by decide +kernel
theorem dL_law_1047 : decode cL_law 1047 = .ok (.iconst 1, 1) := by decide +kernel
theorem dL_law_1048 : decode cL_law 1048 = .ok (.iadd, 1) := by decide +kernel
theorem dL_law_1049 : decode cL_law 1049 = .ok (.iaload, 1) := by decide +kernel
theorem dL_law_1050 : decode cL_law 1050 = .ok (.aload_n 0, 1) := by decide +kernel
theorem dL_law_1051 : decode cL_law 1051 = .ok (.iload 4, 2) := by decide +kernel
theorem dL_law_1053 : decode cL_law 1053 = .ok (.iconst 2, 1) := by decide +kernel
theorem dL_law_1054 : decode cL_law 1054 = .ok (.iadd, 1) := by decide +kernel
theorem dL_law_1055 : decode cL_law 1055 = .ok (.iaload, 1) := by decide +kernel
theorem dL_law_1056 : decode cL_law 1056 = .ok (.invokevirtual 133, 3) := by decide +kernel
theorem dL_law_1059 : decode cL_law 1059 = .ok (.istore 6, 2) := by decide +kernel
theorem dL_law_1061 : decode cL_law 1061 = .ok (.aload_n 2, 1) := by decide +kernel
theorem dL_law_1062 : decode cL_law 1062 = .ok (.invokevirtual 91, 3) := by decide +kernel
theorem dL_law_1065 : decode cL_law 1065 = .ok (.iload 5, 2) := by decide +kernel
theorem dL_law_1067 : decode cL_law 1067 = .ok (.if_icmp .eq 5, 3) := by decide +kernel
theorem dL_law_1070 : decode cL_law 1070 = .ok (.iconst 0, 1) := by decide +kernel
theorem dL_law_1071 : decode cL_law 1071 = .ok (.ireturn, 1) := by decide +kernel
theorem dL_law_1072 : decode cL_law 1072 = .ok (.iload 5, 2) := by decide +kernel
theorem dL_law_1074 : decode cL_law 1074 = .ok (.ifCond .ne 15, 3) := by decide +kernel
theorem dL_law_1077 : decode cL_law 1077 = .ok (.aload_n 3, 1) := by decide +kernel
theorem dL_law_1078 : decode cL_law 1078 = .ok (.iconst 0, 1) := by decide +kernel
theorem dL_law_1079 : decode cL_law 1079 = .ok (.laload, 1) := by decide +kernel
theorem dL_law_1080 : decode cL_law 1080 = .ok (.iload 6, 2) := by decide +kernel
theorem dL_law_1082 : decode cL_law 1082 = .ok (.i2l, 1) := by decide +kernel
theorem dL_law_1083 : decode cL_law 1083 = .ok (.lcmp, 1) := by decide +kernel
theorem dL_law_1084 : decode cL_law 1084 = .ok (.ifCond .eq 5, 3) := by decide +kernel
theorem dL_law_1087 : decode cL_law 1087 = .ok (.iconst 0, 1) := by decide +kernel
theorem dL_law_1088 : decode cL_law 1088 = .ok (.ireturn, 1) := by decide +kernel
theorem dL_law_1089 : decode cL_law 1089 = .ok (.goto 471, 3) := by decide +kernel
theorem dL_law_1092 : decode cL_law 1092 = .ok (.aload_n 1, 1) := by decide +kernel
theorem dL_law_1093 : decode cL_law 1093 = .ok (.aload_n 0, 1) := by decide +kernel
theorem dL_law_1094 : decode cL_law 1094 = .ok (.iload 4, 2) := by decide +kernel
theorem dL_law_1096 : decode cL_law 1096 = .ok (.iconst 1, 1) := by decide +kernel
theorem dL_law_1097 : decode cL_law 1097 = .ok (.iadd, 1) := by decide +kernel
theorem dL_law_1098 : decode cL_law 1098 = .ok (.iaload, 1) := by decide +kernel
theorem dL_law_1099 : decode cL_law 1099 = .ok (.aload_n 3, 1) := by decide +kernel
theorem dL_law_1100 : decode cL_law 1100 = .ok (.invokestatic 134, 3) := by decide +kernel
theorem dL_law_1103 : decode cL_law 1103 = .ok (.istore 5, 2) := by decide +kernel
theorem dL_law_1105 : decode cL_law 1105 = .ok (.aload_n 2, 1) := by decide +kernel
theorem dL_law_1106 : decode cL_law 1106 = .ok (.aload_n 0, 1) := by decide +kernel
theorem dL_law_1107 : decode cL_law 1107 = .ok (.iload 4, 2) := by decide +kernel
theorem dL_law_1109 : decode cL_law 1109 = .ok (.iconst 1, 1) := by decide +kernel
theorem dL_law_1110 : decode cL_law 1110 = .ok (.iadd, 1) := by decide +kernel
theorem dL_law_1111 : decode cL_law 1111 = .ok (.iaload, 1) := by decide +kernel
theorem dL_law_1112 : decode cL_law 1112 = .ok (.invokevirtual 136, 3) := by decide +kernel
theorem dL_law_1115 : decode cL_law 1115 = .ok (.istore 6, 2) := by decide +kernel
theorem dL_law_1117 : decode cL_law 1117 = .ok (.aload_n 2, 1) := by decide +kernel
theorem dL_law_1118 : decode cL_law 1118 = .ok (.invokevirtual 91, 3) := by decide +kernel
theorem dL_law_1121 : decode cL_law 1121 = .ok (.iload 5, 2) := by decide +kernel
theorem dL_law_1123 : decode cL_law 1123 = .ok (.if_icmp .eq 5, 3) := by decide +kernel
theorem dL_law_1126 : decode cL_law 1126 = .ok (.iconst 0, 1) := by decide +kernel
theorem dL_law_1127 : decode cL_law 1127 = .ok (.ireturn, 1) := by decide +kernel
theorem dL_law_1128 : decode cL_law 1128 = .ok (.iload 5, 2) := by decide +kernel
theorem dL_law_1130 : decode cL_law 1130 = .ok (.ifCond .ne 15, 3) := by decide +kernel
theorem dL_law_1133 : decode cL_law 1133 = .ok (.aload_n 3, 1) := by decide +kernel
theorem dL_law_1134 : decode cL_law 1134 = .ok (.iconst 0, 1) := by decide +kernel
theorem dL_law_1135 : decode cL_law 1135 = .ok (.laload, 1) := by decide +kernel
theorem dL_law_1136 : decode cL_law 1136 = .ok (.iload 6, 2) := by decide +kernel
theorem dL_law_1138 : decode cL_law 1138 = .ok (.i2l, 1) := by decide +kernel
theorem dL_law_1139 : decode cL_law 1139 = .ok (.lcmp, 1) := by decide +kernel
theorem dL_law_1140 : decode cL_law 1140 = .ok (.ifCond .eq 5, 3) := by decide +kernel
theorem dL_law_1143 : decode cL_law 1143 = .ok (.iconst 0, 1) := by decide +kernel
theorem dL_law_1144 : decode cL_law 1144 = .ok (.ireturn, 1) := by decide +kernel
theorem dL_law_1145 : decode cL_law 1145 = .ok (.goto 415, 3) := by decide +kernel
theorem dL_law_1148 : decode cL_law 1148 = .ok (.aload_n 1, 1) := by decide +kernel
theorem dL_law_1149 : decode cL_law 1149 = .ok (.aload_n 0, 1) := by decide +kernel
theorem dL_law_1150 : decode cL_law 1150 = .ok (.iload 4, 2) := by decide +kernel
theorem dL_law_1152 : decode cL_law 1152 = .ok (.iconst 1, 1) := by decide +kernel
theorem dL_law_1153 : decode cL_law 1153 = .ok (.iadd, 1) := by decide +kernel
theorem dL_law_1154 : decode cL_law 1154 = .ok (.iaload, 1) := by decide +kernel
theorem dL_law_1155 : decode cL_law 1155 = .ok (.aload_n 0, 1) := by decide +kernel
theorem dL_law_1156 : decode cL_law 1156 = .ok (.iload 4, 2) := by decide +kernel
theorem dL_law_1158 : decode cL_law 1158 = .ok (.iconst 2, 1) := by decide +kernel
theorem dL_law_1159 : decode cL_law 1159 = .ok (.iadd, 1) := by decide +kernel
theorem dL_law_1160 : decode cL_law 1160 = .ok (.iaload, 1) := by decide +kernel
theorem dL_law_1161 : decode cL_law 1161 = .ok (.aload_n 0, 1) := by decide +kernel
theorem dL_law_1162 : decode cL_law 1162 = .ok (.iload 4, 2) := by decide +kernel
theorem dL_law_1164 : decode cL_law 1164 = .ok (.iconst 3, 1) := by decide +kernel
theorem dL_law_1165 : decode cL_law 1165 = .ok (.iadd, 1) := by decide +kernel
theorem dL_law_1166 : decode cL_law 1166 = .ok (.iaload, 1) := by decide +kernel
theorem dL_law_1167 : decode cL_law 1167 = .ok (.aload_n 0, 1) := by decide +kernel
theorem dL_law_1168 : decode cL_law 1168 = .ok (.iload 4, 2) := by decide +kernel
theorem dL_law_1170 : decode cL_law 1170 = .ok (.iconst 4, 1) := by decide +kernel
theorem dL_law_1171 : decode cL_law 1171 = .ok (.iadd, 1) := by decide +kernel
theorem dL_law_1172 : decode cL_law 1172 = .ok (.iaload, 1) := by decide +kernel
theorem dL_law_1173 : decode cL_law 1173 = .ok (.aload_n 3, 1) := by decide +kernel
theorem dL_law_1174 : decode cL_law 1174 = .ok (.invokestatic 137, 3) := by decide +kernel
theorem dL_law_1177 : decode cL_law 1177 = .ok (.istore 5, 2) := by decide +kernel
theorem dL_law_1179 : decode cL_law 1179 = .ok (.aload_n 2, 1) := by decide +kernel
theorem dL_law_1180 : decode cL_law 1180 = .ok (.aload_n 0, 1) := by decide +kernel
theorem dL_law_1181 : decode cL_law 1181 = .ok (.iload 4, 2) := by decide +kernel
theorem dL_law_1183 : decode cL_law 1183 = .ok (.iconst 1, 1) := by decide +kernel
theorem dL_law_1184 : decode cL_law 1184 = .ok (.iadd, 1) := by decide +kernel
theorem dL_law_1185 : decode cL_law 1185 = .ok (.iaload, 1) := by decide +kernel
theorem dL_law_1186 : decode cL_law 1186 = .ok (.aload_n 0, 1) := by decide +kernel
theorem dL_law_1187 : decode cL_law 1187 = .ok (.iload 4, 2) := by decide +kernel
theorem dL_law_1189 : decode cL_law 1189 = .ok (.iconst 2, 1) := by decide +kernel
theorem dL_law_1190 : decode cL_law 1190 = .ok (.iadd, 1) := by decide +kernel
theorem dL_law_1191 : decode cL_law 1191 = .ok (.iaload, 1) := by decide +kernel
theorem dL_law_1192 : decode cL_law 1192 = .ok (.aload_n 0, 1) := by decide +kernel
theorem dL_law_1193 : decode cL_law 1193 = .ok (.iload 4, 2) := by decide +kernel
theorem dL_law_1195 : decode cL_law 1195 = .ok (.iconst 3, 1) := by decide +kernel
theorem dL_law_1196 : decode cL_law 1196 = .ok (.iadd, 1) := by decide +kernel
theorem dL_law_1197 : decode cL_law 1197 = .ok (.iaload, 1) := by decide +kernel
theorem dL_law_1198 : decode cL_law 1198 = .ok (.aload_n 0, 1) := by decide +kernel
theorem dL_law_1199 : decode cL_law 1199 = .ok (.iload 4, 2) := by decide +kernel
theorem dL_law_1201 : decode cL_law 1201 = .ok (.iconst 4, 1) := by decide +kernel
theorem dL_law_1202 : decode cL_law 1202 = .ok (.iadd, 1) := by decide +kernel
theorem dL_law_1203 : decode cL_law 1203 = .ok (.iaload, 1) := by decide +kernel
theorem dL_law_1204 : decode cL_law 1204 = .ok (.invokevirtual 139, 3) := by decide +kernel
theorem dL_law_1207 : decode cL_law 1207 = .ok (.istore 6, 2) := by decide +kernel
theorem dL_law_1209 : decode cL_law 1209 = .ok (.aload_n 2, 1) := by decide +kernel
theorem dL_law_1210 : decode cL_law 1210 = .ok (.invokevirtual 91, 3) := by decide +kernel
theorem dL_law_1213 : decode cL_law 1213 = .ok (.iload 5, 2) := by decide +kernel
theorem dL_law_1215 : decode cL_law 1215 = .ok (.if_icmp .eq 5, 3) := by decide +kernel
theorem dL_law_1218 : decode cL_law 1218 = .ok (.iconst 0, 1) := by decide +kernel
theorem dL_law_1219 : decode cL_law 1219 = .ok (.ireturn, 1) := by decide +kernel
theorem dL_law_1220 : decode cL_law 1220 = .ok (.iload 5, 2) := by decide +kernel
theorem dL_law_1222 : decode cL_law 1222 = .ok (.ifCond .ne 15, 3) := by decide +kernel
theorem dL_law_1225 : decode cL_law 1225 = .ok (.aload_n 3, 1) := by decide +kernel
theorem dL_law_1226 : decode cL_law 1226 = .ok (.iconst 0, 1) := by decide +kernel
theorem dL_law_1227 : decode cL_law 1227 = .ok (.laload, 1) := by decide +kernel
theorem dL_law_1228 : decode cL_law 1228 = .ok (.iload 6, 2) := by decide +kernel
theorem dL_law_1230 : decode cL_law 1230 = .ok (.i2l, 1) := by decide +kernel
theorem dL_law_1231 : decode cL_law 1231 = .ok (.lcmp, 1) := by decide +kernel
theorem dL_law_1232 : decode cL_law 1232 = .ok (.ifCond .eq 5, 3) := by decide +kernel
theorem dL_law_1235 : decode cL_law 1235 = .ok (.iconst 0, 1) := by decide +kernel
theorem dL_law_1236 : decode cL_law 1236 = .ok (.ireturn, 1) := by decide +kernel
theorem dL_law_1237 : decode cL_law 1237 = .ok (.goto 323, 3) := by decide +kernel
theorem dL_law_1240 : decode cL_law 1240 = .ok (.aload_n 1, 1) := by decide +kernel
theorem dL_law_1241 : decode cL_law 1241 = .ok (.aload_n 0, 1) := by decide +kernel
theorem dL_law_1242 : decode cL_law 1242 = .ok (.iload 4, 2) := by decide +kernel
theorem dL_law_1244 : decode cL_law 1244 = .ok (.iconst 1, 1) := by decide +kernel
theorem dL_law_1245 : decode cL_law 1245 = .ok (.iadd, 1) := by decide +kernel
theorem dL_law_1246 : decode cL_law 1246 = .ok (.iaload, 1) := by decide +kernel
theorem dL_law_1247 : decode cL_law 1247 = .ok (.aload_n 0, 1) := by decide +kernel
theorem dL_law_1248 : decode cL_law 1248 = .ok (.iload 4, 2) := by decide +kernel
theorem dL_law_1250 : decode cL_law 1250 = .ok (.iconst 2, 1) := by decide +kernel
theorem dL_law_1251 : decode cL_law 1251 = .ok (.iadd, 1) := by decide +kernel
theorem dL_law_1252 : decode cL_law 1252 = .ok (.iaload, 1) := by decide +kernel
theorem dL_law_1253 : decode cL_law 1253 = .ok (.aload_n 3, 1) := by decide +kernel
theorem dL_law_1254 : decode cL_law 1254 = .ok (.invokestatic 140, 3) := by decide +kernel
theorem dL_law_1257 : decode cL_law 1257 = .ok (.istore 5, 2) := by decide +kernel
theorem dL_law_1259 : decode cL_law 1259 = .ok (.aload_n 2, 1) := by decide +kernel
theorem dL_law_1260 : decode cL_law 1260 = .ok (.aload_n 0, 1) := by decide +kernel
theorem dL_law_1261 : decode cL_law 1261 = .ok (.iload 4, 2) := by decide +kernel
theorem dL_law_1263 : decode cL_law 1263 = .ok (.iconst 1, 1) := by decide +kernel
theorem dL_law_1264 : decode cL_law 1264 = .ok (.iadd, 1) := by decide +kernel
theorem dL_law_1265 : decode cL_law 1265 = .ok (.iaload, 1) := by decide +kernel
theorem dL_law_1266 : decode cL_law 1266 = .ok (.aload_n 0, 1) := by decide +kernel
theorem dL_law_1267 : decode cL_law 1267 = .ok (.iload 4, 2) := by decide +kernel
theorem dL_law_1269 : decode cL_law 1269 = .ok (.iconst 2, 1) := by decide +kernel
theorem dL_law_1270 : decode cL_law 1270 = .ok (.iadd, 1) := by decide +kernel
theorem dL_law_1271 : decode cL_law 1271 = .ok (.iaload, 1) := by decide +kernel
theorem dL_law_1272 : decode cL_law 1272 = .ok (.invokevirtual 142, 3) := by decide +kernel
theorem dL_law_1275 : decode cL_law 1275 = .ok (.istore 6, 2) := by decide +kernel
theorem dL_law_1277 : decode cL_law 1277 = .ok (.aload_n 2, 1) := by decide +kernel
theorem dL_law_1278 : decode cL_law 1278 = .ok (.invokevirtual 91, 3) := by decide +kernel
theorem dL_law_1281 : decode cL_law 1281 = .ok (.iload 5, 2) := by decide +kernel
theorem dL_law_1283 : decode cL_law 1283 = .ok (.if_icmp .eq 5, 3) := by decide +kernel
theorem dL_law_1286 : decode cL_law 1286 = .ok (.iconst 0, 1) := by decide +kernel
theorem dL_law_1287 : decode cL_law 1287 = .ok (.ireturn, 1) := by decide +kernel
theorem dL_law_1288 : decode cL_law 1288 = .ok (.iload 5, 2) := by decide +kernel
theorem dL_law_1290 : decode cL_law 1290 = .ok (.ifCond .ne 15, 3) := by decide +kernel
theorem dL_law_1293 : decode cL_law 1293 = .ok (.aload_n 3, 1) := by decide +kernel
theorem dL_law_1294 : decode cL_law 1294 = .ok (.iconst 0, 1) := by decide +kernel
theorem dL_law_1295 : decode cL_law 1295 = .ok (.laload, 1) := by decide +kernel
theorem dL_law_1296 : decode cL_law 1296 = .ok (.iload 6, 2) := by decide +kernel
theorem dL_law_1298 : decode cL_law 1298 = .ok (.i2l, 1) := by decide +kernel
theorem dL_law_1299 : decode cL_law 1299 = .ok (.lcmp, 1) := by decide +kernel
theorem dL_law_1300 : decode cL_law 1300 = .ok (.ifCond .eq 5, 3) := by decide +kernel
theorem dL_law_1303 : decode cL_law 1303 = .ok (.iconst 0, 1) := by decide +kernel
theorem dL_law_1304 : decode cL_law 1304 = .ok (.ireturn, 1) := by decide +kernel
theorem dL_law_1305 : decode cL_law 1305 = .ok (.goto 255, 3) := by decide +kernel
theorem dL_law_1308 : decode cL_law 1308 = .ok (.aload_n 1, 1) := by decide +kernel
theorem dL_law_1309 : decode cL_law 1309 = .ok (.aload_n 0, 1) := by decide +kernel
theorem dL_law_1310 : decode cL_law 1310 = .ok (.iload 4, 2) := by decide +kernel
theorem dL_law_1312 : decode cL_law 1312 = .ok (.iconst 1, 1) := by decide +kernel
theorem dL_law_1313 : decode cL_law 1313 = .ok (.iadd, 1) := by decide +kernel
theorem dL_law_1314 : decode cL_law 1314 = .ok (.iaload, 1) := by decide +kernel
theorem dL_law_1315 : decode cL_law 1315 = .ok (.aload_n 3, 1) := by decide +kernel
theorem dL_law_1316 : decode cL_law 1316 = .ok (.invokestatic 143, 3) := by decide +kernel
theorem dL_law_1319 : decode cL_law 1319 = .ok (.istore 5, 2) := by decide +kernel
theorem dL_law_1321 : decode cL_law 1321 = .ok (.aload_n 2, 1) := by decide +kernel
theorem dL_law_1322 : decode cL_law 1322 = .ok (.aload_n 0, 1) := by decide +kernel
theorem dL_law_1323 : decode cL_law 1323 = .ok (.iload 4, 2) := by decide +kernel
theorem dL_law_1325 : decode cL_law 1325 = .ok (.iconst 1, 1) := by decide +kernel
theorem dL_law_1326 : decode cL_law 1326 = .ok (.iadd, 1) := by decide +kernel
theorem dL_law_1327 : decode cL_law 1327 = .ok (.iaload, 1) := by decide +kernel
theorem dL_law_1328 : decode cL_law 1328 = .ok (.invokevirtual 145, 3) := by decide +kernel
theorem dL_law_1331 : decode cL_law 1331 = .ok (.istore 6, 2) := by decide +kernel
theorem dL_law_1333 : decode cL_law 1333 = .ok (.aload_n 2, 1) := by decide +kernel
theorem dL_law_1334 : decode cL_law 1334 = .ok (.invokevirtual 91, 3) := by decide +kernel
theorem dL_law_1337 : decode cL_law 1337 = .ok (.iload 5, 2) := by decide +kernel
theorem dL_law_1339 : decode cL_law 1339 = .ok (.if_icmp .eq 5, 3) := by decide +kernel
theorem dL_law_1342 : decode cL_law 1342 = .ok (.iconst 0, 1) := by decide +kernel
theorem dL_law_1343 : decode cL_law 1343 = .ok (.ireturn, 1) := by decide +kernel
theorem dL_law_1344 : decode cL_law 1344 = .ok (.iload 5, 2) := by decide +kernel
theorem dL_law_1346 : decode cL_law 1346 = .ok (.ifCond .ne 15, 3) := by decide +kernel
theorem dL_law_1349 : decode cL_law 1349 = .ok (.aload_n 3, 1) := by decide +kernel
theorem dL_law_1350 : decode cL_law 1350 = .ok (.iconst 0, 1) := by decide +kernel
theorem dL_law_1351 : decode cL_law 1351 = .ok (.laload, 1) := by decide +kernel
theorem dL_law_1352 : decode cL_law 1352 = .ok (.iload 6, 2) := by decide +kernel
theorem dL_law_1354 : decode cL_law 1354 = .ok (.i2l, 1) := by decide +kernel
theorem dL_law_1355 : decode cL_law 1355 = .ok (.lcmp, 1) := by decide +kernel
theorem dL_law_1356 : decode cL_law 1356 = .ok (.ifCond .eq 5, 3) := by decide +kernel
theorem dL_law_1359 : decode cL_law 1359 = .ok (.iconst 0, 1) := by decide +kernel
theorem dL_law_1360 : decode cL_law 1360 = .ok (.ireturn, 1) := by decide +kernel
theorem dL_law_1361 : decode cL_law 1361 = .ok (.goto 199, 3) := by decide +kernel
theorem dL_law_1364 : decode cL_law 1364 = .ok (.aload_n 1, 1) := by decide +kernel
theorem dL_law_1365 : decode cL_law 1365 = .ok (.aload_n 0, 1) := by decide +kernel
theorem dL_law_1366 : decode cL_law 1366 = .ok (.iload 4, 2) := by decide +kernel
theorem dL_law_1368 : decode cL_law 1368 = .ok (.iconst 1, 1) := by decide +kernel
theorem dL_law_1369 : decode cL_law 1369 = .ok (.iadd, 1) := by decide +kernel
theorem dL_law_1370 : decode cL_law 1370 = .ok (.iaload, 1) := by decide +kernel
theorem dL_law_1371 : decode cL_law 1371 = .ok (.aload_n 3, 1) := by decide +kernel
theorem dL_law_1372 : decode cL_law 1372 = .ok (.invokestatic 146, 3) := by decide +kernel
theorem dL_law_1375 : decode cL_law 1375 = .ok (.istore 5, 2) := by decide +kernel
theorem dL_law_1377 : decode cL_law 1377 = .ok (.aload_n 2, 1) := by decide +kernel
theorem dL_law_1378 : decode cL_law 1378 = .ok (.aload_n 0, 1) := by decide +kernel
theorem dL_law_1379 : decode cL_law 1379 = .ok (.iload 4, 2) := by decide +kernel
theorem dL_law_1381 : decode cL_law 1381 = .ok (.iconst 1, 1) := by decide +kernel
theorem dL_law_1382 : decode cL_law 1382 = .ok (.iadd, 1) := by decide +kernel
theorem dL_law_1383 : decode cL_law 1383 = .ok (.iaload, 1) := by decide +kernel
theorem dL_law_1384 : decode cL_law 1384 = .ok (.invokevirtual 148, 3) := by decide +kernel
theorem dL_law_1387 : decode cL_law 1387 = .ok (.istore 6, 2) := by decide +kernel
theorem dL_law_1389 : decode cL_law 1389 = .ok (.aload_n 2, 1) := by decide +kernel
theorem dL_law_1390 : decode cL_law 1390 = .ok (.invokevirtual 91, 3) := by decide +kernel
theorem dL_law_1393 : decode cL_law 1393 = .ok (.iload 5, 2) := by decide +kernel
theorem dL_law_1395 : decode cL_law 1395 = .ok (.if_icmp .eq 5, 3) := by decide +kernel
theorem dL_law_1398 : decode cL_law 1398 = .ok (.iconst 0, 1) := by decide +kernel
theorem dL_law_1399 : decode cL_law 1399 = .ok (.ireturn, 1) := by decide +kernel
theorem dL_law_1400 : decode cL_law 1400 = .ok (.iload 5, 2) := by decide +kernel
theorem dL_law_1402 : decode cL_law 1402 = .ok (.ifCond .ne 15, 3) := by decide +kernel
theorem dL_law_1405 : decode cL_law 1405 = .ok (.aload_n 3, 1) := by decide +kernel
theorem dL_law_1406 : decode cL_law 1406 = .ok (.iconst 0, 1) := by decide +kernel
theorem dL_law_1407 : decode cL_law 1407 = .ok (.laload, 1) := by decide +kernel
theorem dL_law_1408 : decode cL_law 1408 = .ok (.iload 6, 2) := by decide +kernel
theorem dL_law_1410 : decode cL_law 1410 = .ok (.i2l, 1) := by decide +kernel
theorem dL_law_1411 : decode cL_law 1411 = .ok (.lcmp, 1) := by decide +kernel
theorem dL_law_1412 : decode cL_law 1412 = .ok (.ifCond .eq 5, 3) := by decide +kernel
theorem dL_law_1415 : decode cL_law 1415 = .ok (.iconst 0, 1) := by decide +kernel
theorem dL_law_1416 : decode cL_law 1416 = .ok (.ireturn, 1) := by decide +kernel
theorem dL_law_1417 : decode cL_law 1417 = .ok (.goto 143, 3) := by decide +kernel
theorem dL_law_1420 : decode cL_law 1420 = .ok (.aload_n 1, 1) := by decide +kernel
theorem dL_law_1421 : decode cL_law 1421 = .ok (.aload_n 0, 1) := by decide +kernel
theorem dL_law_1422 : decode cL_law 1422 = .ok (.iload 4, 2) := by decide +kernel
theorem dL_law_1424 : decode cL_law 1424 = .ok (.iconst 1, 1) := by decide +kernel
theorem dL_law_1425 : decode cL_law 1425 = .ok (.iadd, 1) := by decide +kernel
theorem dL_law_1426 : decode cL_law 1426 = .ok (.iaload, 1) := by decide +kernel
theorem dL_law_1427 : decode cL_law 1427 = .ok (.aload_n 3, 1) := by decide +kernel
theorem dL_law_1428 : decode cL_law 1428 = .ok (.invokestatic 149, 3) := by decide +kernel
theorem dL_law_1431 : decode cL_law 1431 = .ok (.istore 5, 2) := by decide +kernel
theorem dL_law_1433 : decode cL_law 1433 = .ok (.aload_n 2, 1) := by decide +kernel
theorem dL_law_1434 : decode cL_law 1434 = .ok (.aload_n 0, 1) := by decide +kernel
theorem dL_law_1435 : decode cL_law 1435 = .ok (.iload 4, 2) := by decide +kernel
theorem dL_law_1437 : decode cL_law 1437 = .ok (.iconst 1, 1) := by decide +kernel
theorem dL_law_1438 : decode cL_law 1438 = .ok (.iadd, 1) := by decide +kernel
theorem dL_law_1439 : decode cL_law 1439 = .ok (.iaload, 1) := by decide +kernel
theorem dL_law_1440 : decode cL_law 1440 = .ok (.invokevirtual 151, 3) := by decide +kernel
theorem dL_law_1443 : decode cL_law 1443 = .ok (.istore 6, 2) := by decide +kernel
theorem dL_law_1445 : decode cL_law 1445 = .ok (.aload_n 2, 1) := by decide +kernel
theorem dL_law_1446 : decode cL_law 1446 = .ok (.invokevirtual 91, 3) := by decide +kernel
theorem dL_law_1449 : decode cL_law 1449 = .ok (.iload 5, 2) := by decide +kernel
theorem dL_law_1451 : decode cL_law 1451 = .ok (.if_icmp .eq 5, 3) := by decide +kernel
theorem dL_law_1454 : decode cL_law 1454 = .ok (.iconst 0, 1) := by decide +kernel
theorem dL_law_1455 : decode cL_law 1455 = .ok (.ireturn, 1) := by decide +kernel
theorem dL_law_1456 : decode cL_law 1456 = .ok (.iload 5, 2) := by decide +kernel
theorem dL_law_1458 : decode cL_law 1458 = .ok (.ifCond .ne 15, 3) := by decide +kernel
theorem dL_law_1461 : decode cL_law 1461 = .ok (.aload_n 3, 1) := by decide +kernel
theorem dL_law_1462 : decode cL_law 1462 = .ok (.iconst 0, 1) := by decide +kernel
theorem dL_law_1463 : decode cL_law 1463 = .ok (.laload, 1) := by decide +kernel
theorem dL_law_1464 : decode cL_law 1464 = .ok (.iload 6, 2) := by decide +kernel
theorem dL_law_1466 : decode cL_law 1466 = .ok (.i2l, 1) := by decide +kernel
theorem dL_law_1467 : decode cL_law 1467 = .ok (.lcmp, 1) := by decide +kernel
theorem dL_law_1468 : decode cL_law 1468 = .ok (.ifCond .eq 5, 3) := by decide +kernel
theorem dL_law_1471 : decode cL_law 1471 = .ok (.iconst 0, 1) := by decide +kernel
theorem dL_law_1472 : decode cL_law 1472 = .ok (.ireturn, 1) := by decide +kernel
theorem dL_law_1473 : decode cL_law 1473 = .ok (.goto 87, 3) := by decide +kernel
theorem dL_law_1476 : decode cL_law 1476 = .ok (.aload_n 1, 1) := by decide +kernel
theorem dL_law_1477 : decode cL_law 1477 = .ok (.invokevirtual 152, 3) := by decide +kernel
theorem dL_law_1480 : decode cL_law 1480 = .ok (.aload_n 2, 1) := by decide +kernel
theorem dL_law_1481 : decode cL_law 1481 = .ok (.invokevirtual 155, 3) := by decide +kernel
theorem dL_law_1484 : decode cL_law 1484 = .ok (.if_icmp .eq 76, 3) := by decide +kernel
theorem dL_law_1487 : decode cL_law 1487 = .ok (.iconst 0, 1) := by decide +kernel
theorem dL_law_1488 : decode cL_law 1488 = .ok (.ireturn, 1) := by decide +kernel
theorem dL_law_1489 : decode cL_law 1489 = .ok (.aload_n 1, 1) := by decide +kernel
theorem dL_law_1490 : decode cL_law 1490 = .ok (.invokevirtual 156, 3) := by decide +kernel
theorem dL_law_1493 : decode cL_law 1493 = .ok (.aload_n 2, 1) := by decide +kernel
theorem dL_law_1494 : decode cL_law 1494 = .ok (.invokevirtual 159, 3) := by decide +kernel
theorem dL_law_1497 : decode cL_law 1497 = .ok (.if_icmp .eq 63, 3) := by decide +kernel
theorem dL_law_1500 : decode cL_law 1500 = .ok (.iconst 0, 1) := by decide +kernel
theorem dL_law_1501 : decode cL_law 1501 = .ok (.ireturn, 1) := by decide +kernel
theorem dL_law_1502 : decode cL_law 1502 = .ok (.aload_n 1, 1) := by decide +kernel
theorem dL_law_1503 : decode cL_law 1503 = .ok (.aload_n 3, 1) := by decide +kernel
theorem dL_law_1504 : decode cL_law 1504 = .ok (.invokestatic 160, 3) := by decide +kernel
theorem dL_law_1507 : decode cL_law 1507 = .ok (.istore 5, 2) := by decide +kernel
theorem dL_law_1509 : decode cL_law 1509 = .ok (.aload_n 2, 1) := by decide +kernel
theorem dL_law_1510 : decode cL_law 1510 = .ok (.invokevirtual 163, 3) := by decide +kernel
theorem dL_law_1513 : decode cL_law 1513 = .ok (.istore 6, 2) := by decide +kernel
theorem dL_law_1515 : decode cL_law 1515 = .ok (.aload_n 2, 1) := by decide +kernel
theorem dL_law_1516 : decode cL_law 1516 = .ok (.invokevirtual 91, 3) := by decide +kernel
theorem dL_law_1519 : decode cL_law 1519 = .ok (.iload 5, 2) := by decide +kernel
theorem dL_law_1521 : decode cL_law 1521 = .ok (.if_icmp .eq 5, 3) := by decide +kernel
theorem dL_law_1524 : decode cL_law 1524 = .ok (.iconst 0, 1) := by decide +kernel
theorem dL_law_1525 : decode cL_law 1525 = .ok (.ireturn, 1) := by decide +kernel
theorem dL_law_1526 : decode cL_law 1526 = .ok (.iload 5, 2) := by decide +kernel
theorem dL_law_1528 : decode cL_law 1528 = .ok (.ifCond .ne 15, 3) := by decide +kernel
theorem dL_law_1531 : decode cL_law 1531 = .ok (.aload_n 3, 1) := by decide +kernel
theorem dL_law_1532 : decode cL_law 1532 = .ok (.iconst 0, 1) := by decide +kernel
theorem dL_law_1533 : decode cL_law 1533 = .ok (.laload, 1) := by decide +kernel
theorem dL_law_1534 : decode cL_law 1534 = .ok (.iload 6, 2) := by decide +kernel
theorem dL_law_1536 : decode cL_law 1536 = .ok (.i2l, 1) := by decide +kernel
theorem dL_law_1537 : decode cL_law 1537 = .ok (.lcmp, 1) := by decide +kernel
theorem dL_law_1538 : decode cL_law 1538 = .ok (.ifCond .eq 5, 3) := by decide +kernel
theorem dL_law_1541 : decode cL_law 1541 = .ok (.iconst 0, 1) := by decide +kernel
theorem dL_law_1542 : decode cL_law 1542 = .ok (.ireturn, 1) := by decide +kernel
theorem dL_law_1543 : decode cL_law 1543 = .ok (.goto 17, 3) := by decide +kernel
theorem dL_law_1546 : decode cL_law 1546 = .ok (.aload_n 1, 1) := by decide +kernel
theorem dL_law_1547 : decode cL_law 1547 = .ok (.invokevirtual 164, 3) := by decide +kernel
theorem dL_law_1550 : decode cL_law 1550 = .ok (.aload_n 2, 1) := by decide +kernel
theorem dL_law_1551 : decode cL_law 1551 = .ok (.invokevirtual 168, 3) := by decide +kernel
theorem dL_law_1554 : decode cL_law 1554 = .ok (.lcmp, 1) := by decide +kernel
theorem dL_law_1555 : decode cL_law 1555 = .ok (.ifCond .eq 5, 3) := by decide +kernel
theorem dL_law_1558 : decode cL_law 1558 = .ok (.iconst 0, 1) := by decide +kernel
theorem dL_law_1559 : decode cL_law 1559 = .ok (.ireturn, 1) := by decide +kernel
theorem dL_law_1560 : decode cL_law 1560 = .ok (.iinc 4 6, 3) := by decide +kernel
theorem dL_law_1563 : decode cL_law 1563 = .ok (.goto (-1540), 3) := by decide +kernel
theorem dL_law_1566 : decode cL_law 1566 = .ok (.iconst 1, 1) := by decide +kernel
theorem dL_law_1567 : decode cL_law 1567 = .ok (.ireturn, 1) := by decide +kernel
