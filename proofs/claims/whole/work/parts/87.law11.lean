set_option maxRecDepth 20000 in
theorem gL_leave_X5_leave : GoodIn wsL_leave (wsV RL 40 RX5 yX5_leave wsX5_leave) := goodIn_app (goodIn_of _ (by decide +kernel)) ggL_leave_X5_leave
theorem dL_leave_0 : decode cL_leave 0 = .ok (.aload_n 2, 1) := by decide +kernel
theorem dL_leave_1 : decode cL_leave 1 = .ok (.iconst 0, 1) := by decide +kernel
theorem dL_leave_2 : decode cL_leave 2 = .ok (.aload_n 0, 1) := by decide +kernel
theorem dL_leave_3 : decode cL_leave 3 = .ok (.iload_n 1, 1) := by decide +kernel
theorem dL_leave_4 : decode cL_leave 4 = .ok (.invokevirtual 40, 3) := by decide +kernel
theorem dL_leave_7 : decode cL_leave 7 = .ok (.i2l, 1) := by decide +kernel
theorem dL_leave_8 : decode cL_leave 8 = .ok (.lastore, 1) := by decide +kernel
theorem dL_leave_9 : decode cL_leave 9 = .ok (.goto 9, 3) := by decide +kernel
theorem dL_leave_12 : decode cL_leave 12 = .ok (.astore_n 3, 1) := by decide +kernel
theorem dL_leave_13 : decode cL_leave 13 = .ok (.iconst 1, 1) := by decide +kernel
theorem dL_leave_14 : decode cL_leave 14 = .ok (.ireturn, 1) := by decide +kernel
theorem dL_leave_15 : decode cL_leave 15 = .ok (.astore_n 3, 1) := by decide +kernel
theorem dL_leave_16 : decode cL_leave 16 = .ok (.iconst 2, 1) := by decide +kernel
theorem dL_leave_17 : decode cL_leave 17 = .ok (.ireturn, 1) := by decide +kernel
theorem dL_leave_18 : decode cL_leave 18 = .ok (.iconst 0, 1) := by decide +kernel
theorem dL_leave_19 : decode cL_leave 19 = .ok (.ireturn, 1) := by decide +kernel
set_option maxRecDepth 20000 in
theorem ggL_swarm_X5_swarm : GoodIn wsL_swarm wsX5_swarm := goodIn_ca (goodIn_ca (goodIn_ca (goodIn_r _ [7, 8, 9, 10, 11, 6, 12, 13, 14, 15, 16, 17, 18, 19, 20, 21, 22, 23, 24, 25, 26, 27, 28, 29, 30, 31, 32, 33, 34, 35, 36, 37, 38, 39, 40, 41, 42, 43, 44, 45, 46, 47, 48, 49, 50, 51, 52, 53, 54, 55, 56, 57, 58, 59, 60, 61, 62, 63, 64, 65, 66, 67, 68, 69, 70, 71, 72, 73, 74, 75, 76, 77, 78, 79, 80, 81, 82, 83, 84, 85, 86, 87, 88, 89, 90, 91, 92, 93, 94, 95, 96, 97, 98, 99, 100, 101, 102, 103, 104, 105, 106, 107, 108, 109, 110, 111, 112, 113, 114, 115, 116, 117, 118, 119, 120, 121, 122, 123, 124, 125, 126, 127, 128, 129, 130, 131, 132, 133, 134, 135, 136, 137, 138, 139, 140, 141, 142, 143, 144, 145, 146, 147, 148, 149, 150, 151, 152, 153, 154, 155, 156, 157, 158, 159, 160, 161, 162, 163, 164, 165, 166, 167, 168, 169, 170, 171, 172, 173, 174, 175, 176, 177, 178, 179, 180, 181, 182, 183, 184, 185, 186, 187, 188, 189, 190, 191, 192, 193, 194, 195, 196, 197, 198, 199, 200, 201, 202, 203, 204, 205, 206, 207, 208, 209, 210, 211, 212, 213, 214, 215, 216, 217, 218, 219, 220, 221, 222, 223, 224, 225, 226, 227, 228, 229, 230, 231, 232, 233, 234, 235, 236, 237, 238, 239, 240, 241, 242, 243, 244, 245, 246, 247, 248, 249, 250, 251, 252, 253, 254, 255, 256, 257, 258, 259, 260, 261] (by decide +kernel) (by decide +kernel)) (goodIn_sub (fun _ h => List.mem_cons_of_mem _ (List.mem_append_left _ (List.mem_append_left _ (List.mem_append_right _ h)))) (by decide +kernel))) (goodIn_sub (fun _ h => List.mem_cons_of_mem _ (List.mem_append_left _ (List.mem_append_right _ h))) (by decide +kernel))) (goodIn_sub (fun _ h => List.mem_cons_of_mem _ (List.mem_append_right _ h)) (by decide +kernel))
set_option maxRecDepth 20000 in
theorem gL_swarm_X5_swarm : GoodIn wsL_swarm (wsV RL 43 RX5 yX5_swarm wsX5_swarm) := goodIn_app (goodIn_of _ (by decide +kernel)) ggL_swarm_X5_swarm
theorem dL_swarm_0 : decode cL_swarm 0 = .ok (.aload 6, 2) := by decide +kernel
theorem dL_swarm_2 : decode cL_swarm 2 = .ok (.iconst 0, 1) := by decide +kernel
theorem dL_swarm_3 : decode cL_swarm 3 = .ok (.aload_n 0, 1) := by decide +kernel
theorem dL_swarm_4 : decode cL_swarm 4 = .ok (.iload_n 1, 1) := by decide +kernel
theorem dL_swarm_5 : decode cL_swarm 5 = .ok (.iload_n 2, 1) := by decide +kernel
theorem dL_swarm_6 : decode cL_swarm 6 = .ok (.iload_n 3, 1) := by decide +kernel
theorem dL_swarm_7 : decode cL_swarm 7 = .ok (.iload 4, 2) := by decide +kernel
theorem dL_swarm_9 : decode cL_swarm 9 = .ok (.iload 5, 2) := by decide +kernel
theorem dL_swarm_11 : decode cL_swarm 11 = .ok (.invokevirtual 43, 3) := by decide +kernel
theorem dL_swarm_14 : decode cL_swarm 14 = .ok (.i2l, 1) := by decide +kernel
theorem dL_swarm_15 : decode cL_swarm 15 = .ok (.lastore, 1) := by decide +kernel
theorem dL_swarm_16 : decode cL_swarm 16 = .ok (.goto 11, 3) := by decide +kernel
theorem dL_swarm_19 : decode cL_swarm 19 = .ok (.astore 7, 2) := by decide +kernel
theorem dL_swarm_21 : decode cL_swarm 21 = .ok (.iconst 1, 1) := by decide +kernel
theorem dL_swarm_22 : decode cL_swarm 22 = .ok (.ireturn, 1) := by decide +kernel
theorem dL_swarm_23 : decode cL_swarm 23 = .ok (.astore 7, 2) := by decide +kernel
theorem dL_swarm_25 : decode cL_swarm 25 = .ok (.iconst 2, 1) := by decide +kernel
theorem dL_swarm_26 : decode cL_swarm 26 = .ok (.ireturn, 1) := by decide +kernel
theorem dL_swarm_27 : decode cL_swarm 27 = .ok (.iconst 0, 1) := by decide +kernel
theorem dL_swarm_28 : decode cL_swarm 28 = .ok (.ireturn, 1) := by decide +kernel
set_option maxRecDepth 20000 in
theorem ggL_lookup_X5_lookup : GoodIn wsL_lookup wsX5_lookup := goodIn_ca (goodIn_ca (goodIn_ca (goodIn_r _ [7, 8, 9, 10, 11, 12, 6, 13, 14, 15, 16, 17, 18, 19, 20, 21, 22, 23, 24, 25, 26, 27, 28, 29, 30, 31, 32, 33, 34, 35, 36, 37, 38, 39, 40, 41, 42, 43, 44, 45, 46, 47, 48, 49, 50, 51, 52, 53, 54, 55, 56, 57, 58, 59, 60, 61, 62, 63, 64, 65, 66, 67, 68, 69, 70, 71, 72, 73, 74, 75, 76, 77, 78, 79, 80, 81, 82, 83, 84, 85, 86, 87, 88, 89, 90, 91, 92, 93, 94, 95, 96, 97, 98, 99, 100, 101, 102, 103, 104, 105, 106, 107, 108, 109, 110, 111, 112, 113, 114, 115, 116, 117, 118, 119, 120, 121, 122, 123, 124, 125, 126, 127, 128, 129, 130, 131, 132, 133, 134, 135, 136, 137, 138, 139, 140, 141, 142, 143, 144, 145, 146, 147, 148, 149, 150, 151, 152, 153, 154, 155, 156, 157, 158, 159, 160, 161, 162, 163, 164, 165, 166, 167, 168, 169, 170, 171, 172, 173, 174, 175, 176, 177, 178, 179, 180, 181, 182, 183, 184, 185, 186, 187, 188, 189, 190, 191, 192, 193, 194, 195, 196, 197, 198, 199, 200, 201, 202, 203, 204, 205, 206] (by decide +kernel) (by decide +kernel)) (goodIn_sub (fun _ h => List.mem_cons_of_mem _ (List.mem_append_left _ (List.mem_append_left _ (List.mem_append_right _ h)))) (by decide +kernel))) (goodIn_sub (fun _ h => List.mem_cons_of_mem _ (List.mem_append_left _ (List.mem_append_right _ h))) (by decide +kernel))) (goodIn_sub (fun _ h => List.mem_cons_of_mem _ (List.mem_append_right _ h)) (by decide +kernel))
set_option maxRecDepth 20000 in
theorem gL_lookup_X5_lookup : GoodIn wsL_lookup (wsV RL 47 RX5 yX5_lookup wsX5_lookup) := goodIn_app (goodIn_of _ (by decide +kernel)) ggL_lookup_X5_lookup
theorem dL_lookup_0 : decode cL_lookup 0 = .ok (.aload_n 3, 1) := by decide +kernel
theorem dL_lookup_1 : decode cL_lookup 1 = .ok (.iconst 0, 1) := by decide +kernel
theorem dL_lookup_2 : decode cL_lookup 2 = .ok (.aload_n 0, 1) := by decide +kernel
theorem dL_lookup_3 : decode cL_lookup 3 = .ok (.iload_n 1, 1) := by decide +kernel
theorem dL_lookup_4 : decode cL_lookup 4 = .ok (.iload_n 2, 1) := by decide +kernel
theorem dL_lookup_5 : decode cL_lookup 5 = .ok (.invokevirtual 47, 3) := by decide +kernel
theorem dL_lookup_8 : decode cL_lookup 8 = .ok (.i2l, 1) := by decide +kernel
theorem dL_lookup_9 : decode cL_lookup 9 = .ok (.lastore, 1) := by decide +kernel
theorem dL_lookup_10 : decode cL_lookup 10 = .ok (.goto 11, 3) := by decide +kernel
theorem dL_lookup_13 : decode cL_lookup 13 = .ok (.astore 4, 2) := by decide +kernel
theorem dL_lookup_15 : decode cL_lookup 15 = .ok (.iconst 1, 1) := by decide +kernel
theorem dL_lookup_16 : decode cL_lookup 16 = .ok (.ireturn, 1) := by decide +kernel
theorem dL_lookup_17 : decode cL_lookup 17 = .ok (.astore 4, 2) := by decide +kernel
theorem dL_lookup_19 : decode cL_lookup 19 = .ok (.iconst 2, 1) := by decide +kernel
theorem dL_lookup_20 : decode cL_lookup 20 = .ok (.ireturn, 1) := by decide +kernel
theorem dL_lookup_21 : decode cL_lookup 21 = .ok (.iconst 0, 1) := by decide +kernel
theorem dL_lookup_22 : decode cL_lookup 22 = .ok (.ireturn, 1) := by decide +kernel
set_option maxRecDepth 20000 in
theorem ggL_probe_X5_probe : GoodIn wsL_probe wsX5_probe := goodIn_ca (goodIn_ca (goodIn_ca (goodIn_r _ [7, 8, 9, 10, 11, 12, 13, 14, 15, 6, 16, 17, 18, 19, 20, 21, 22, 23, 24, 25, 26, 27, 28, 29, 30, 31, 32, 33, 34, 35, 36, 37, 38, 39, 40, 41, 42, 43, 44, 45, 46, 47, 48, 49, 50, 51, 52, 53, 54, 55, 56, 57, 58, 59, 60, 61, 62, 63, 64, 65, 66, 67, 68, 69, 70, 71, 72, 73, 74, 75, 76, 77, 78, 79, 80, 81, 82, 83, 84, 85, 86, 87, 88, 89, 90, 91, 92, 93, 94, 95, 96, 97, 98, 99, 100, 101, 102, 103, 104, 105, 106, 107, 108, 109, 110, 111, 112, 113, 114, 115, 116, 117, 118, 119, 120, 121, 122, 123, 124, 125] (by decide +kernel) (by decide +kernel)) (goodIn_sub (fun _ h => List.mem_cons_of_mem _ (List.mem_append_left _ (List.mem_append_left _ (List.mem_append_right _ h)))) (by decide +kernel))) (goodIn_sub (fun _ h => List.mem_cons_of_mem _ (List.mem_append_left _ (List.mem_append_right _ h))) (by decide +kernel))) (goodIn_sub (fun _ h => List.mem_cons_of_mem _ (List.mem_append_right _ h)) (by decide +kernel))
set_option maxRecDepth 20000 in
theorem gL_probe_X5_probe : GoodIn wsL_probe (wsV RL 50 RX5 yX5_probe wsX5_probe) := goodIn_app (goodIn_of _ (by decide +kernel)) ggL_probe_X5_probe
theorem dL_probe_0 : decode cL_probe 0 = .ok (.aload 4, 2) := by decide +kernel
theorem dL_probe_2 : decode cL_probe 2 = .ok (.iconst 0, 1) := by decide +kernel
theorem dL_probe_3 : decode cL_probe 3 = .ok (.aload_n 0, 1) := by decide +kernel
theorem dL_probe_4 : decode cL_probe 4 = .ok (.iload_n 1, 1) := by decide +kernel
theorem dL_probe_5 : decode cL_probe 5 = .ok (.iload_n 2, 1) := by decide +kernel
theorem dL_probe_6 : decode cL_probe 6 = .ok (.iload_n 3, 1) := by decide +kernel
theorem dL_probe_7 : decode cL_probe 7 = .ok (.invokevirtual 50, 3) := by decide +kernel
theorem dL_probe_10 : decode cL_probe 10 = .ok (.i2l, 1) := by decide +kernel
theorem dL_probe_11 : decode cL_probe 11 = .ok (.lastore, 1) := by decide +kernel
theorem dL_probe_12 : decode cL_probe 12 = .ok (.goto 11, 3) := by decide +kernel
theorem dL_probe_15 : decode cL_probe 15 = .ok (.astore 5, 2) := by decide +kernel
theorem dL_probe_17 : decode cL_probe 17 = .ok (.iconst 1, 1) := by decide +kernel
theorem dL_probe_18 : decode cL_probe 18 = .ok (.ireturn, 1) := by decide +kernel
theorem dL_probe_19 : decode cL_probe 19 = .ok (.astore 5, 2) := by decide +kernel
theorem dL_probe_21 : decode cL_probe 21 = .ok (.iconst 2, 1) := by decide +kernel
theorem dL_probe_22 : decode cL_probe 22 = .ok (.ireturn, 1) := by decide +kernel
theorem dL_probe_23 : decode cL_probe 23 = .ok (.iconst 0, 1) := by decide +kernel
theorem dL_probe_24 : decode cL_probe 24 = .ok (.ireturn, 1) := by decide +kernel
set_option maxRecDepth 20000 in
theorem ggL_reach_X5_reach : GoodIn wsL_reach wsX5_reach := goodIn_ca (goodIn_ca (goodIn_ca (goodIn_r _ [7, 8, 9, 10, 11, 12, 13, 6, 14, 15, 16, 17, 18, 19, 20, 21, 22, 23, 24, 25, 26, 27, 28, 29, 30, 31, 32, 33, 34, 35, 36, 37, 38, 39, 40, 41, 42, 43, 44, 45, 46, 47, 48, 49, 50, 51, 52, 53, 54, 55, 56, 57, 58, 59, 60, 61, 62, 63, 64, 65, 66, 67, 68, 69, 70, 71, 72, 73, 74, 75, 76, 77, 78, 79, 80, 81, 82, 83, 84, 85, 86, 87, 88, 89, 90, 91, 92, 93, 94, 95, 96, 97, 98, 99, 100, 101, 102, 103, 104, 105, 106, 107, 108, 109, 110, 111, 112, 113, 114, 115] (by decide +kernel) (by decide +kernel)) (goodIn_sub (fun _ h => List.mem_cons_of_mem _ (List.mem_append_left _ (List.mem_append_left _ (List.mem_append_right _ h)))) (by decide +kernel))) (goodIn_sub (fun _ h => List.mem_cons_of_mem _ (List.mem_append_left _ (List.mem_append_right _ h))) (by decide +kernel))) (goodIn_sub (fun _ h => List.mem_cons_of_mem _ (List.mem_append_right _ h)) (by decide +kernel))
set_option maxRecDepth 20000 in
theorem gL_reach_X5_reach : GoodIn wsL_reach (wsV RL 53 RX5 yX5_reach wsX5_reach) := goodIn_app (goodIn_of _ (by decide +kernel)) ggL_reach_X5_reach
theorem dL_reach_0 : decode cL_reach 0 = .ok (.aload_n 2, 1) := by decide +kernel
theorem dL_reach_1 : decode cL_reach 1 = .ok (.iconst 0, 1) := by decide +kernel
theorem dL_reach_2 : decode cL_reach 2 = .ok (.aload_n 0, 1) := by decide +kernel
theorem dL_reach_3 : decode cL_reach 3 = .ok (.iload_n 1, 1) := by decide +kernel
theorem dL_reach_4 : decode cL_reach 4 = .ok (.invokevirtual 53, 3) := by decide +kernel
theorem dL_reach_7 : decode cL_reach 7 = .ok (.i2l, 1) := by decide +kernel
theorem dL_reach_8 : decode cL_reach 8 = .ok (.lastore, 1) := by decide +kernel
theorem dL_reach_9 : decode cL_reach 9 = .ok (.goto 9, 3) := by decide +kernel
theorem dL_reach_12 : decode cL_reach 12 = .ok (.astore_n 3, 1) := by decide +kernel
theorem dL_reach_13 : decode cL_reach 13 = .ok (.iconst 1, 1) := by decide +kernel
theorem dL_reach_14 : decode cL_reach 14 = .ok (.ireturn, 1) := by decide +kernel
theorem dL_reach_15 : decode cL_reach 15 = .ok (.astore_n 3, 1) := by decide +kernel
theorem dL_reach_16 : decode cL_reach 16 = .ok (.iconst 2, 1) := by decide +kernel
theorem dL_reach_17 : decode cL_reach 17 = .ok (.ireturn, 1) := by decide +kernel
theorem dL_reach_18 : decode cL_reach 18 = .ok (.iconst 0, 1) := by decide +kernel
theorem dL_reach_19 : decode cL_reach 19 = .ok (.ireturn, 1) := by decide +kernel
set_option maxRecDepth 20000 in
theorem ggL_member_X5_member : GoodIn wsL_member wsX5_member := goodIn_ca (goodIn_r _ [6, 7, 8, 5, 9, 10, 11, 12, 13, 14, 15, 16, 17, 18, 19, 20, 21, 22, 23, 24, 25, 26, 27, 28, 29, 30, 31, 32, 33, 34, 35, 36, 37, 38, 39, 40, 41, 42, 43, 44, 45, 46, 47, 48, 49, 50, 51, 52, 53, 54, 55, 56, 57, 58, 59, 60, 61, 62, 63, 64, 65, 66, 67, 68, 69, 70, 71, 72, 73, 74, 75, 76, 77, 78, 79, 80, 81, 82] (by decide +kernel) (by decide +kernel)) (goodIn_sub (fun _ h => List.mem_cons_of_mem _ (List.mem_append_right _ h)) (by decide +kernel))
set_option maxRecDepth 20000 in
theorem gL_member_X5_member : GoodIn wsL_member (wsV RL 56 RX5 yX5_member wsX5_member) := goodIn_app (goodIn_of _ (by decide +kernel)) ggL_member_X5_member
theorem dL_member_0 : decode cL_member 0 = .ok (.aload_n 3, 1) := by decide +kernel
theorem dL_member_1 : decode cL_member 1 = .ok (.iconst 0, 1) := by decide +kernel
theorem dL_member_2 : decode cL_member 2 = .ok (.aload_n 0, 1) := by decide +kernel
theorem dL_member_3 : decode cL_member 3 = .ok (.iload_n 1, 1) := by decide +kernel
theorem dL_member_4 : decode cL_member 4 = .ok (.iload_n 2, 1) := by decide +kernel
theorem dL_member_5 : decode cL_member 5 = .ok (.invokevirtual 56, 3) := by decide +kernel
theorem dL_member_8 : decode cL_member 8 = .ok (.i2l, 1) := by decide +kernel
theorem dL_member_9 : decode cL_member 9 = .ok (.lastore, 1) := by decide +kernel
theorem dL_member_10 : decode cL_member 10 = .ok (.goto 7, 3) := by decide +kernel
theorem dL_member_13 : decode cL_member 13 = .ok (.astore 4, 2) := by decide +kernel
theorem dL_member_15 : decode cL_member 15 = .ok (.iconst 1, 1) := by decide +kernel
theorem dL_member_16 : decode cL_member 16 = .ok (.ireturn, 1) := by decide +kernel
theorem dL_member_17 : decode cL_member 17 = .ok (.iconst 0, 1) := by decide +kernel
theorem dL_member_18 : decode cL_member 18 = .ok (.ireturn, 1) := by decide +kernel
set_option maxRecDepth 20000 in
theorem ggL_memberAt_X5_memberAt : GoodIn wsL_memberAt wsX5_memberAt := goodIn_ca (goodIn_r _ [6, 7, 8, 9, 5, 10, 11, 12, 13, 14, 15, 16, 17, 18, 19, 20, 21, 22, 23, 24, 25, 26, 27, 28, 29, 30, 31, 32, 33, 34, 35, 36, 37, 38, 39] (by decide +kernel) (by decide +kernel)) (goodIn_sub (fun _ h => List.mem_cons_of_mem _ (List.mem_append_right _ h)) (by decide +kernel))
set_option maxRecDepth 20000 in
theorem gL_memberAt_X5_memberAt : GoodIn wsL_memberAt (wsV RL 59 RX5 yX5_memberAt wsX5_memberAt) := goodIn_app (goodIn_of _ (by decide +kernel)) ggL_memberAt_X5_memberAt
theorem dL_memberAt_0 : decode cL_memberAt 0 = .ok (.aload_n 2, 1) := by decide +kernel
theorem dL_memberAt_1 : decode cL_memberAt 1 = .ok (.iconst 0, 1) := by decide +kernel
theorem dL_memberAt_2 : decode cL_memberAt 2 = .ok (.aload_n 0, 1) := by decide +kernel
theorem dL_memberAt_3 : decode cL_memberAt 3 = .ok (.iload_n 1, 1) := by decide +kernel
theorem dL_memberAt_4 : decode cL_memberAt 4 = .ok (.invokevirtual 59, 3) := by decide +kernel
theorem dL_memberAt_7 : decode cL_memberAt 7 = .ok (.i2l, 1) := by decide +kernel
theorem dL_memberAt_8 : decode cL_memberAt 8 = .ok (.lastore, 1) := by decide +kernel
theorem dL_memberAt_9 : decode cL_memberAt 9 = .ok (.goto 6, 3) := by decide +kernel
theorem dL_memberAt_12 : decode cL_memberAt 12 = .ok (.astore_n 3, 1) := by decide +kernel
theorem dL_memberAt_13 : decode cL_memberAt 13 = .ok (.iconst 1, 1) := by decide +kernel
theorem dL_memberAt_14 : decode cL_memberAt 14 = .ok (.ireturn, 1) := by decide +kernel
theorem dL_memberAt_15 : decode cL_memberAt 15 = .ok (.iconst 0, 1) := by decide +kernel
theorem dL_memberAt_16 : decode cL_memberAt 16 = .ok (.ireturn, 1) := by decide +kernel
set_option maxRecDepth 20000 in
theorem ggL_entry_X5_entry : GoodIn wsL_entry wsX5_entry := goodIn_ca (goodIn_ca (goodIn_ca (goodIn_r _ [7, 8, 9, 10, 11, 12, 13, 14, 15, 6, 16, 17, 18, 19, 20, 21, 22, 23, 24, 25, 26, 27, 28, 29, 30, 31, 32, 33, 34, 35, 36, 37, 38, 39, 40, 41, 42, 43, 44, 45, 46, 47, 48, 49, 50, 51, 52, 53, 54, 55, 56, 57, 58, 59, 60, 61, 62, 63, 64, 65, 66, 67, 68, 69] (by decide +kernel) (by decide +kernel)) (goodIn_sub (fun _ h => List.mem_cons_of_mem _ (List.mem_append_left _ (List.mem_append_left _ (List.mem_append_right _ h)))) (by decide +kernel))) (goodIn_sub (fun _ h => List.mem_cons_of_mem _ (List.mem_append_left _ (List.mem_append_right _ h))) (by decide +kernel))) (goodIn_sub (fun _ h => List.mem_cons_of_mem _ (List.mem_append_right _ h)) (by decide +kernel))
set_option maxRecDepth 20000 in
theorem gL_entry_X5_entry : GoodIn wsL_entry (wsV RL 62 RX5 yX5_entry wsX5_entry) := goodIn_app (goodIn_of _ (by decide +kernel)) ggL_entry_X5_entry
theorem dL_entry_0 : decode cL_entry 0 = .ok (.aload 5, 2) := by decide +kernel
theorem dL_entry_2 : decode cL_entry 2 = .ok (.iconst 0, 1) := by decide +kernel
theorem dL_entry_3 : decode cL_entry 3 = .ok (.aload_n 0, 1) := by decide +kernel
theorem dL_entry_4 : decode cL_entry 4 = .ok (.iload_n 1, 1) := by decide +kernel
theorem dL_entry_5 : decode cL_entry 5 = .ok (.iload_n 2, 1) := by decide +kernel
theorem dL_entry_6 : decode cL_entry 6 = .ok (.iload_n 3, 1) := by decide +kernel
theorem dL_entry_7 : decode cL_entry 7 = .ok (.iload 4, 2) := by decide +kernel
theorem dL_entry_9 : decode cL_entry 9 = .ok (.invokevirtual 62, 3) := by decide +kernel
theorem dL_entry_12 : decode cL_entry 12 = .ok (.i2l, 1) := by decide +kernel
theorem dL_entry_13 : decode cL_entry 13 = .ok (.lastore, 1) := by decide +kernel
theorem dL_entry_14 : decode cL_entry 14 = .ok (.goto 11, 3) := by decide +kernel
theorem dL_entry_17 : decode cL_entry 17 = .ok (.astore 6, 2) := by decide +kernel
theorem dL_entry_19 : decode cL_entry 19 = .ok (.iconst 1, 1) := by decide +kernel
theorem dL_entry_20 : decode cL_entry 20 = .ok (.ireturn, 1) := by decide +kernel
theorem dL_entry_21 : decode cL_entry 21 = .ok (.astore 6, 2) := by decide +kernel
theorem dL_entry_23 : decode cL_entry 23 = .ok (.iconst 2, 1) := by decide +kernel
theorem dL_entry_24 : decode cL_entry 24 = .ok (.ireturn, 1) := by decide +kernel
theorem dL_entry_25 : decode cL_entry 25 = .ok (.iconst 0, 1) := by decide +kernel
theorem dL_entry_26 : decode cL_entry 26 = .ok (.ireturn, 1) := by decide +kernel
set_option maxRecDepth 20000 in
theorem ggL_share_X5_share : GoodIn wsL_share wsX5_share := goodIn_ca (goodIn_ca (goodIn_ca (goodIn_r _ [7, 8, 9, 10, 11, 12, 6, 13, 14, 15, 16, 17, 18, 19, 20, 21, 22, 23, 24, 25, 26, 27, 28, 29, 30, 31, 32, 33, 34, 35, 36, 37, 38, 39, 40, 41, 42, 43, 44, 45, 46, 47, 48, 49, 50, 51, 52, 53, 54, 55, 56, 57, 58, 59, 60, 61, 62, 63, 64, 65, 66, 67, 68, 69, 70, 71, 72, 73, 74] (by decide +kernel) (by decide +kernel)) (goodIn_sub (fun _ h => List.mem_cons_of_mem _ (List.mem_append_left _ (List.mem_append_left _ (List.mem_append_right _ h)))) (by decide +kernel))) (goodIn_sub (fun _ h => List.mem_cons_of_mem _ (List.mem_append_left _ (List.mem_append_right _ h))) (by decide +kernel))) (goodIn_sub (fun _ h => List.mem_cons_of_mem _ (List.mem_append_right _ h)) (by decide +kernel))
set_option maxRecDepth 20000 in
theorem gL_share_X5_share : GoodIn wsL_share (wsV RL 65 RX5 yX5_share wsX5_share) := goodIn_app (goodIn_of _ (by decide +kernel)) ggL_share_X5_share
theorem dL_share_0 : decode cL_share 0 = .ok (.aload_n 3, 1) := by decide +kernel
theorem dL_share_1 : decode cL_share 1 = .ok (.iconst 0, 1) := by decide +kernel
theorem dL_share_2 : decode cL_share 2 = .ok (.aload_n 0, 1) := by decide +kernel
