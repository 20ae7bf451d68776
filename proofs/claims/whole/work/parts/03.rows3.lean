theorem dX6_admit_21 : decode cX6_admit 21 = .ok (.iload_n 1, 1) := by decide +kernel
theorem dX6_admit_22 : decode cX6_admit 22 = .ok (.iload_n 2, 1) := by decide +kernel
theorem dX6_admit_23 : decode cX6_admit 23 = .ok (.iload_n 3, 1) := by decide +kernel
theorem dX6_admit_24 : decode cX6_admit 24 = .ok (.invokevirtual 157, 3) := by decide +kernel
theorem dX6_admit_27 : decode cX6_admit 27 = .ok (.ireturn, 1) := by decide +kernel
set_option maxRecDepth 20000 in
theorem ggX6_badMember_X6_isId : GoodIn wsX6_badMember wsX6_isId := goodIn_r _ [4, 5, 6, 3, 7] (by decide +kernel) (by decide +kernel)
set_option maxRecDepth 20000 in
theorem gX6_badMember_X6_isId : GoodIn wsX6_badMember (va_wsS RX6 47 yX6_isId wsX6_isId) := goodIn_app (goodIn_of _ (by decide +kernel)) ggX6_badMember_X6_isId
set_option maxRecDepth 20000 in
theorem ggX6_badMember_X6_isMember : GoodIn wsX6_badMember wsX6_isMember := goodIn_r _ [11, 1, 2, 3, 4, 5, 6, 7, 12, 13, 14, 15, 16, 17, 18, 19, 20, 21, 22, 23, 24, 25, 26, 27, 28, 29, 30, 31, 32, 33, 34] (by decide +kernel) (by decide +kernel)
set_option maxRecDepth 20000 in
theorem gX6_badMember_X6_isMember : GoodIn wsX6_badMember (wsV RX6 75 RX6 yX6_isMember wsX6_isMember) := goodIn_app (goodIn_of _ (by decide +kernel)) ggX6_badMember_X6_isMember
theorem dX6_badMember_0 : decode cX6_badMember 0 = .ok (.iload_n 1, 1) := by decide +kernel
theorem dX6_badMember_1 : decode cX6_badMember 1 = .ok (.invokestatic 47, 3) := by decide +kernel
theorem dX6_badMember_4 : decode cX6_badMember 4 = .ok (.ifCond .ne 7, 3) := by decide +kernel
theorem dX6_badMember_7 : decode cX6_badMember 7 = .ok (.iconst 1, 1) := by decide +kernel
theorem dX6_badMember_8 : decode cX6_badMember 8 = .ok (.goto 16, 3) := by decide +kernel
theorem dX6_badMember_11 : decode cX6_badMember 11 = .ok (.aload_n 0, 1) := by decide +kernel
theorem dX6_badMember_12 : decode cX6_badMember 12 = .ok (.iload_n 1, 1) := by decide +kernel
theorem dX6_badMember_13 : decode cX6_badMember 13 = .ok (.invokevirtual 75, 3) := by decide +kernel
theorem dX6_badMember_16 : decode cX6_badMember 16 = .ok (.ifCond .eq 7, 3) := by decide +kernel
theorem dX6_badMember_19 : decode cX6_badMember 19 = .ok (.iconst 0, 1) := by decide +kernel
theorem dX6_badMember_20 : decode cX6_badMember 20 = .ok (.goto 4, 3) := by decide +kernel
theorem dX6_badMember_23 : decode cX6_badMember 23 = .ok (.iconst 2, 1) := by decide +kernel
theorem dX6_badMember_24 : decode cX6_badMember 24 = .ok (.ireturn, 1) := by decide +kernel
set_option maxRecDepth 20000 in
theorem ggX6_leave_X6_badMember : GoodIn wsX6_leave wsX6_badMember := goodIn_r _ [5, 6, 7, 4, 8, 9, 10, 11, 12, 13, 14, 15, 16, 17, 18, 19, 20, 21, 22, 23, 43, 44, 45, 46, 47, 48, 49, 50, 51, 52, 53, 54, 55, 56, 57] (by decide +kernel) (by decide +kernel)
set_option maxRecDepth 20000 in
theorem gX6_leave_X6_badMember : GoodIn wsX6_leave (wsV RX6 163 RX6 yX6_badMember wsX6_badMember) := goodIn_app (goodIn_of _ (by decide +kernel)) ggX6_leave_X6_badMember
set_option maxRecDepth 20000 in
theorem ggX6_leave_X6_refused : GoodIn wsX6_leave wsX6_refused := goodIn_r _ [27, 28, 43, 44, 45, 46, 47, 48, 49, 50, 51, 52, 53, 54, 55, 56, 57] (by decide +kernel) (by decide +kernel)
set_option maxRecDepth 20000 in
theorem gX6_leave_X6_refused : GoodIn wsX6_leave (wsV RX6 39 RX6 yX6_refused wsX6_refused) := goodIn_app (goodIn_of _ (by decide +kernel)) ggX6_leave_X6_refused
set_option maxRecDepth 20000 in
theorem ggX6_leave_X6_saves : GoodIn wsX6_leave wsX6_saves := goodIn_r _ [32, 33, 34, 20, 43, 44, 45, 46, 47, 48, 49, 50, 51, 52, 53, 54, 55, 56, 57] (by decide +kernel) (by decide +kernel)
set_option maxRecDepth 20000 in
theorem gX6_leave_X6_saves : GoodIn wsX6_leave (wsV RX6 127 RX6 yX6_saves wsX6_saves) := goodIn_app (goodIn_of _ (by decide +kernel)) ggX6_leave_X6_saves
set_option maxRecDepth 20000 in
theorem ggX6_leave_X6_placeOf : GoodIn wsX6_leave wsX6_placeOf := goodIn_r _ [19, 20, 21, 22, 4, 23, 43, 44, 45, 46, 47, 48, 49, 50, 51, 52, 53, 54, 55, 56, 57] (by decide +kernel) (by decide +kernel)
set_option maxRecDepth 20000 in
theorem gX6_leave_X6_placeOf : GoodIn wsX6_leave (wsV RX6 50 RX6 yX6_placeOf wsX6_placeOf) := goodIn_app (goodIn_of _ (by decide +kernel)) ggX6_leave_X6_placeOf
set_option maxRecDepth 20000 in
theorem ggX6_leave_X6_ends : GoodIn wsX6_leave wsX6_ends := goodIn_r _ [38, 20, 43, 44, 45, 46, 47, 48, 49, 50, 51, 52, 53, 54, 55, 56, 57] (by decide +kernel) (by decide +kernel)
set_option maxRecDepth 20000 in
theorem gX6_leave_X6_ends : GoodIn wsX6_leave (wsV RX6 133 RX6 yX6_ends wsX6_ends) := goodIn_app (goodIn_of _ (by decide +kernel)) ggX6_leave_X6_ends
set_option maxRecDepth 20000 in
theorem ggX6_leave_X6_memberMany : GoodIn wsX6_leave wsX6_memberMany := goodIn_r _ [42, 20, 21, 22, 4, 23, 43, 44, 45, 46, 47, 48, 49, 50, 51, 52, 53, 54, 55, 56, 57] (by decide +kernel) (by decide +kernel)
set_option maxRecDepth 20000 in
theorem gX6_leave_X6_memberMany : GoodIn wsX6_leave (wsV RX6 142 RX6 yX6_memberMany wsX6_memberMany) := goodIn_app (goodIn_of _ (by decide +kernel)) ggX6_leave_X6_memberMany
theorem dX6_leave_0 : decode cX6_leave 0 = .ok (.aload_n 0, 1) := by decide +kernel
theorem dX6_leave_1 : decode cX6_leave 1 = .ok (.aload_n 0, 1) := by decide +kernel
theorem dX6_leave_2 : decode cX6_leave 2 = .ok (.iload_n 1, 1) := by decide +kernel
theorem dX6_leave_3 : decode cX6_leave 3 = .ok (.invokevirtual 163, 3) := by decide +kernel
theorem dX6_leave_6 : decode cX6_leave 6 = .ok (.invokevirtual 39, 3) := by decide +kernel
theorem dX6_leave_9 : decode cX6_leave 9 = .ok (.ifCond .eq 5, 3) := by decide +kernel
theorem dX6_leave_12 : decode cX6_leave 12 = .ok (.iconst 0, 1) := by decide +kernel
theorem dX6_leave_13 : decode cX6_leave 13 = .ok (.ireturn, 1) := by decide +kernel
theorem dX6_leave_14 : decode cX6_leave 14 = .ok (.aload_n 0, 1) := by decide +kernel
theorem dX6_leave_15 : decode cX6_leave 15 = .ok (.invokevirtual 127, 3) := by decide +kernel
theorem dX6_leave_18 : decode cX6_leave 18 = .ok (.aload_n 0, 1) := by decide +kernel
theorem dX6_leave_19 : decode cX6_leave 19 = .ok (.aload_n 0, 1) := by decide +kernel
theorem dX6_leave_20 : decode cX6_leave 20 = .ok (.iload_n 1, 1) := by decide +kernel
theorem dX6_leave_21 : decode cX6_leave 21 = .ok (.invokevirtual 50, 3) := by decide +kernel
theorem dX6_leave_24 : decode cX6_leave 24 = .ok (.invokevirtual 133, 3) := by decide +kernel
theorem dX6_leave_27 : decode cX6_leave 27 = .ok (.aload_n 0, 1) := by decide +kernel
theorem dX6_leave_28 : decode cX6_leave 28 = .ok (.invokevirtual 142, 3) := by decide +kernel
theorem dX6_leave_31 : decode cX6_leave 31 = .ok (.ireturn, 1) := by decide +kernel
set_option maxRecDepth 20000 in
theorem ggX6_swarm_X6_isId : GoodIn wsX6_swarm wsX6_isId := goodIn_r _ [4, 5, 6, 3, 7] (by decide +kernel) (by decide +kernel)
set_option maxRecDepth 20000 in
theorem gX6_swarm_X6_isId : GoodIn wsX6_swarm (va_wsS RX6 47 yX6_isId wsX6_isId) := goodIn_app (goodIn_of _ (by decide +kernel)) ggX6_swarm_X6_isId
set_option maxRecDepth 20000 in
theorem ggX6_swarm_X6_in : GoodIn wsX6_swarm wsX6_in := goodIn_r _ [7] (by decide +kernel) (by decide +kernel)
set_option maxRecDepth 20000 in
theorem gX6_swarm_X6_in : GoodIn wsX6_swarm (va_wsS RX6 32 yX6_in wsX6_in) := goodIn_app (goodIn_of _ (by decide +kernel)) ggX6_swarm_X6_in
set_option maxRecDepth 20000 in
theorem ggX6_swarm_X6_isMember : GoodIn wsX6_swarm wsX6_isMember := goodIn_r _ [11, 1, 2, 3, 4, 5, 6, 7, 12, 13, 14, 15, 16, 17, 18, 19, 126, 127, 128, 129, 130, 131, 132, 133, 134, 135, 136, 137, 138, 139, 140] (by decide +kernel) (by decide +kernel)
set_option maxRecDepth 20000 in
theorem gX6_swarm_X6_isMember : GoodIn wsX6_swarm (wsV RX6 75 RX6 yX6_isMember wsX6_isMember) := goodIn_app (goodIn_of _ (by decide +kernel)) ggX6_swarm_X6_isMember
set_option maxRecDepth 20000 in
theorem ggX6_swarm_X6_refused : GoodIn wsX6_swarm wsX6_refused := goodIn_r _ [23, 24, 126, 127, 128, 129, 130, 131, 132, 133, 134, 135, 136, 137, 138, 139, 140] (by decide +kernel) (by decide +kernel)
set_option maxRecDepth 20000 in
theorem gX6_swarm_X6_refused : GoodIn wsX6_swarm (wsV RX6 39 RX6 yX6_refused wsX6_refused) := goodIn_app (goodIn_of _ (by decide +kernel)) ggX6_swarm_X6_refused
set_option maxRecDepth 20000 in
theorem ggX6_swarm_X6_saves : GoodIn wsX6_swarm wsX6_saves := goodIn_r _ [28, 29, 30, 16, 126, 127, 128, 129, 130, 131, 132, 133, 134, 135, 136, 137, 138, 139, 140] (by decide +kernel) (by decide +kernel)
set_option maxRecDepth 20000 in
theorem gX6_swarm_X6_saves : GoodIn wsX6_swarm (wsV RX6 127 RX6 yX6_saves wsX6_saves) := goodIn_app (goodIn_of _ (by decide +kernel)) ggX6_swarm_X6_saves
set_option maxRecDepth 20000 in
theorem ggX6_swarm_X6_badAdmission : GoodIn wsX6_swarm wsX6_badAdmission := goodIn_r _ [34, 35, 36, 37, 3, 38, 1, 2, 4, 5, 6, 7, 8, 9, 10, 11, 12, 13, 14, 15, 16, 17, 18, 19, 39, 40, 41, 42, 43, 44, 45, 46, 47, 48, 49, 50, 51, 52, 53, 54, 55, 56, 57, 58, 59, 60, 61, 62, 63, 64, 65, 66, 126, 127, 128, 129, 130, 131, 132, 133, 134, 135, 136, 137, 138, 139, 140] (by decide +kernel) (by decide +kernel)
set_option maxRecDepth 20000 in
theorem gX6_swarm_X6_badAdmission : GoodIn wsX6_swarm (wsV RX6 160 RX6 yX6_badAdmission wsX6_badAdmission) := goodIn_app (goodIn_of _ (by decide +kernel)) ggX6_swarm_X6_badAdmission
set_option maxRecDepth 20000 in
theorem ggX6_swarm_X6_joins : GoodIn wsX6_swarm wsX6_joins := goodIn_r _ [70, 16, 17, 18, 3, 19, 71, 72, 73, 74, 12, 13, 14, 15, 75, 76, 77, 78, 79, 80, 81, 82, 83, 84, 85, 86, 87, 88, 89, 90, 91, 92, 93, 94, 95, 96, 97, 8, 9, 10, 11, 1, 2, 4, 5, 6, 7, 98, 99, 100, 101, 102, 103, 104, 105, 106, 107, 108, 109, 110, 111, 112, 113, 114, 115, 116, 117, 118, 119, 120, 121, 122, 123, 124, 125, 126, 127, 128, 129, 130, 131, 132, 133, 134, 135, 136, 137, 138, 139, 140] (by decide +kernel) (by decide +kernel)
set_option maxRecDepth 20000 in
theorem gX6_swarm_X6_joins : GoodIn wsX6_swarm (wsV RX6 157 RX6 yX6_joins wsX6_joins) := goodIn_app (goodIn_of _ (by decide +kernel)) ggX6_swarm_X6_joins
theorem dX6_swarm_0 : decode cX6_swarm 0 = .ok (.iload_n 1, 1) := by decide +kernel
theorem dX6_swarm_1 : decode cX6_swarm 1 = .ok (.invokestatic 47, 3) := by decide +kernel
theorem dX6_swarm_4 : decode cX6_swarm 4 = .ok (.ifCond .eq 47, 3) := by decide +kernel
theorem dX6_swarm_7 : decode cX6_swarm 7 = .ok (.iload_n 2, 1) := by decide +kernel
theorem dX6_swarm_8 : decode cX6_swarm 8 = .ok (.iconst 1, 1) := by decide +kernel
theorem dX6_swarm_9 : decode cX6_swarm 9 = .ok (.sipush 255, 3) := by decide +kernel
theorem dX6_swarm_12 : decode cX6_swarm 12 = .ok (.invokestatic 32, 3) := by decide +kernel
theorem dX6_swarm_15 : decode cX6_swarm 15 = .ok (.ifCond .eq 36, 3) := by decide +kernel
theorem dX6_swarm_18 : decode cX6_swarm 18 = .ok (.iload_n 3, 1) := by decide +kernel
theorem dX6_swarm_19 : decode cX6_swarm 19 = .ok (.iconst 1, 1) := by decide +kernel
theorem dX6_swarm_20 : decode cX6_swarm 20 = .ok (.bipush 16, 2) := by decide +kernel
theorem dX6_swarm_22 : decode cX6_swarm 22 = .ok (.invokestatic 32, 3) := by decide +kernel
theorem dX6_swarm_25 : decode cX6_swarm 25 = .ok (.ifCond .eq 26, 3) := by decide +kernel
theorem dX6_swarm_28 : decode cX6_swarm 28 = .ok (.iload 4, 2) := by decide +kernel
theorem dX6_swarm_30 : decode cX6_swarm 30 = .ok (.iconst 0, 1) := by decide +kernel
theorem dX6_swarm_31 : decode cX6_swarm 31 = .ok (.bipush 7, 2) := by decide +kernel
theorem dX6_swarm_33 : decode cX6_swarm 33 = .ok (.invokestatic 32, 3) := by decide +kernel
theorem dX6_swarm_36 : decode cX6_swarm 36 = .ok (.ifCond .eq 15, 3) := by decide +kernel
theorem dX6_swarm_39 : decode cX6_swarm 39 = .ok (.iload 5, 2) := by decide +kernel
theorem dX6_swarm_41 : decode cX6_swarm 41 = .ok (.invokestatic 47, 3) := by decide +kernel
theorem dX6_swarm_44 : decode cX6_swarm 44 = .ok (.ifCond .eq 7, 3) := by decide +kernel
theorem dX6_swarm_47 : decode cX6_swarm 47 = .ok (.iconst 1, 1) := by decide +kernel
theorem dX6_swarm_48 : decode cX6_swarm 48 = .ok (.goto 4, 3) := by decide +kernel
theorem dX6_swarm_51 : decode cX6_swarm 51 = .ok (.iconst 0, 1) := by decide +kernel
theorem dX6_swarm_52 : decode cX6_swarm 52 = .ok (.istore 6, 2) := by decide +kernel
theorem dX6_swarm_54 : decode cX6_swarm 54 = .ok (.aload_n 0, 1) := by decide +kernel
theorem dX6_swarm_55 : decode cX6_swarm 55 = .ok (.iload 6, 2) := by decide +kernel
theorem dX6_swarm_57 : decode cX6_swarm 57 = .ok (.ifCond .ne 7, 3) := by decide +kernel
theorem dX6_swarm_60 : decode cX6_swarm 60 = .ok (.iconst 1, 1) := by decide +kernel
theorem dX6_swarm_61 : decode cX6_swarm 61 = .ok (.goto 17, 3) := by decide +kernel
theorem dX6_swarm_64 : decode cX6_swarm 64 = .ok (.aload_n 0, 1) := by decide +kernel
theorem dX6_swarm_65 : decode cX6_swarm 65 = .ok (.iload 5, 2) := by decide +kernel
theorem dX6_swarm_67 : decode cX6_swarm 67 = .ok (.invokevirtual 75, 3) := by decide +kernel
theorem dX6_swarm_70 : decode cX6_swarm 70 = .ok (.ifCond .eq 7, 3) := by decide +kernel
theorem dX6_swarm_73 : decode cX6_swarm 73 = .ok (.iconst 0, 1) := by decide +kernel
theorem dX6_swarm_74 : decode cX6_swarm 74 = .ok (.goto 4, 3) := by decide +kernel
theorem dX6_swarm_77 : decode cX6_swarm 77 = .ok (.iconst 2, 1) := by decide +kernel
theorem dX6_swarm_78 : decode cX6_swarm 78 = .ok (.invokevirtual 39, 3) := by decide +kernel
theorem dX6_swarm_81 : decode cX6_swarm 81 = .ok (.ifCond .eq 5, 3) := by decide +kernel
theorem dX6_swarm_84 : decode cX6_swarm 84 = .ok (.iconst 0, 1) := by decide +kernel
theorem dX6_swarm_85 : decode cX6_swarm 85 = .ok (.ireturn, 1) := by decide +kernel
theorem dX6_swarm_86 : decode cX6_swarm 86 = .ok (.aload_n 0, 1) := by decide +kernel
theorem dX6_swarm_87 : decode cX6_swarm 87 = .ok (.invokevirtual 127, 3) := by decide +kernel
theorem dX6_swarm_90 : decode cX6_swarm 90 = .ok (.iconst 0, 1) := by decide +kernel
theorem dX6_swarm_91 : decode cX6_swarm 91 = .ok (.istore 7, 2) := by decide +kernel
theorem dX6_swarm_93 : decode cX6_swarm 93 = .ok (.iconst 0, 1) := by decide +kernel
theorem dX6_swarm_94 : decode cX6_swarm 94 = .ok (.istore 8, 2) := by decide +kernel
theorem dX6_swarm_96 : decode cX6_swarm 96 = .ok (.iload 8, 2) := by decide +kernel
theorem dX6_swarm_98 : decode cX6_swarm 98 = .ok (.iload_n 3, 1) := by decide +kernel
theorem dX6_swarm_99 : decode cX6_swarm 99 = .ok (.if_icmp .ge 49, 3) := by decide +kernel
theorem dX6_swarm_102 : decode cX6_swarm 102 = .ok (.iload_n 1, 1) := by decide +kernel
theorem dX6_swarm_103 : decode cX6_swarm 103 = .ok (.iload 8, 2) := by decide +kernel
theorem dX6_swarm_105 : decode cX6_swarm 105 = .ok (.iload_n 2, 1) := by decide +kernel
theorem dX6_swarm_106 : decode cX6_swarm 106 = .ok (.imul, 1) := by decide +kernel
theorem dX6_swarm_107 : decode cX6_swarm 107 = .ok (.iadd, 1) := by decide +kernel
theorem dX6_swarm_108 : decode cX6_swarm 108 = .ok (.sipush 256, 3) := by decide +kernel
theorem dX6_swarm_111 : decode cX6_swarm 111 = .ok (.irem, 1) := by decide +kernel
theorem dX6_swarm_112 : decode cX6_swarm 112 = .ok (.istore 9, 2) := by decide +kernel
theorem dX6_swarm_114 : decode cX6_swarm 114 = .ok (.aload_n 0, 1) := by decide +kernel
theorem dX6_swarm_115 : decode cX6_swarm 115 = .ok (.iload 9, 2) := by decide +kernel
theorem dX6_swarm_117 : decode cX6_swarm 117 = .ok (.iload 4, 2) := by decide +kernel
theorem dX6_swarm_119 : decode cX6_swarm 119 = .ok (.iload 5, 2) := by decide +kernel
theorem dX6_swarm_121 : decode cX6_swarm 121 = .ok (.invokevirtual 160, 3) := by decide +kernel
theorem dX6_swarm_124 : decode cX6_swarm 124 = .ok (.ifCond .ne 18, 3) := by decide +kernel
theorem dX6_swarm_127 : decode cX6_swarm 127 = .ok (.aload_n 0, 1) := by decide +kernel
theorem dX6_swarm_128 : decode cX6_swarm 128 = .ok (.iload 9, 2) := by decide +kernel
theorem dX6_swarm_130 : decode cX6_swarm 130 = .ok (.iload 4, 2) := by decide +kernel
theorem dX6_swarm_132 : decode cX6_swarm 132 = .ok (.iload 5, 2) := by decide +kernel
theorem dX6_swarm_134 : decode cX6_swarm 134 = .ok (.invokevirtual 157, 3) := by decide +kernel
theorem dX6_swarm_137 : decode cX6_swarm 137 = .ok (.istore 10, 2) := by decide +kernel
theorem dX6_swarm_139 : decode cX6_swarm 139 = .ok (.iinc 7 1, 3) := by decide +kernel
theorem dX6_swarm_142 : decode cX6_swarm 142 = .ok (.iinc 8 1, 3) := by decide +kernel
theorem dX6_swarm_145 : decode cX6_swarm 145 = .ok (.goto (-49), 3) := by decide +kernel
theorem dX6_swarm_148 : decode cX6_swarm 148 = .ok (.iload 7, 2) := by decide +kernel
theorem dX6_swarm_150 : decode cX6_swarm 150 = .ok (.ireturn, 1) := by decide +kernel
set_option maxRecDepth 20000 in
theorem ggX6_badLook_X6_isId : GoodIn wsX6_badLook wsX6_isId := goodIn_r _ [4, 5, 6, 3, 7] (by decide +kernel) (by decide +kernel)
set_option maxRecDepth 20000 in
theorem gX6_badLook_X6_isId : GoodIn wsX6_badLook (va_wsS RX6 47 yX6_isId wsX6_isId) := goodIn_app (goodIn_of _ (by decide +kernel)) ggX6_badLook_X6_isId
set_option maxRecDepth 20000 in
theorem ggX6_badLook_X6_isMember : GoodIn wsX6_badLook wsX6_isMember := goodIn_r _ [11, 1, 2, 3, 4, 5, 6, 7, 12, 13, 14, 15, 16, 17, 18, 19, 20, 21, 22, 23, 24, 25, 26, 27, 28, 29, 30, 31, 32, 33, 34] (by decide +kernel) (by decide +kernel)
set_option maxRecDepth 20000 in
theorem gX6_badLook_X6_isMember : GoodIn wsX6_badLook (wsV RX6 75 RX6 yX6_isMember wsX6_isMember) := goodIn_app (goodIn_of _ (by decide +kernel)) ggX6_badLook_X6_isMember
theorem dX6_badLook_0 : decode cX6_badLook 0 = .ok (.iload_n 1, 1) := by decide +kernel
theorem dX6_badLook_1 : decode cX6_badLook 1 = .ok (.invokestatic 47, 3) := by decide +kernel
theorem dX6_badLook_4 : decode cX6_badLook 4 = .ok (.ifCond .eq 10, 3) := by decide +kernel
theorem dX6_badLook_7 : decode cX6_badLook 7 = .ok (.iload_n 2, 1) := by decide +kernel
theorem dX6_badLook_8 : decode cX6_badLook 8 = .ok (.invokestatic 47, 3) := by decide +kernel
theorem dX6_badLook_11 : decode cX6_badLook 11 = .ok (.ifCond .ne 7, 3) := by decide +kernel
theorem dX6_badLook_14 : decode cX6_badLook 14 = .ok (.iconst 1, 1) := by decide +kernel
theorem dX6_badLook_15 : decode cX6_badLook 15 = .ok (.goto 16, 3) := by decide +kernel
theorem dX6_badLook_18 : decode cX6_badLook 18 = .ok (.aload_n 0, 1) := by decide +kernel
theorem dX6_badLook_19 : decode cX6_badLook 19 = .ok (.iload_n 1, 1) := by decide +kernel
theorem dX6_badLook_20 : decode cX6_badLook 20 = .ok (.invokevirtual 75, 3) := by decide +kernel
theorem dX6_badLook_23 : decode cX6_badLook 23 = .ok (.ifCond .eq 7, 3) := by decide +kernel
theorem dX6_badLook_26 : decode cX6_badLook 26 = .ok (.iconst 0, 1) := by decide +kernel
theorem dX6_badLook_27 : decode cX6_badLook 27 = .ok (.goto 4, 3) := by decide +kernel
theorem dX6_badLook_30 : decode cX6_badLook 30 = .ok (.iconst 2, 1) := by decide +kernel
theorem dX6_badLook_31 : decode cX6_badLook 31 = .ok (.ireturn, 1) := by decide +kernel
set_option maxRecDepth 20000 in
theorem ggX6_lookup_X6_badLook : GoodIn wsX6_lookup wsX6_badLook := goodIn_r _ [5, 6, 7, 4, 8, 9, 10, 11, 12, 13, 14, 15, 16, 17, 18, 19, 20, 21, 22, 23, 86, 87, 88, 89, 90, 91, 92, 93, 94, 95, 96, 97, 98, 99, 100] (by decide +kernel) (by decide +kernel)
set_option maxRecDepth 20000 in
theorem gX6_lookup_X6_badLook : GoodIn wsX6_lookup (wsV RX6 166 RX6 yX6_badLook wsX6_badLook) := goodIn_app (goodIn_of _ (by decide +kernel)) ggX6_lookup_X6_badLook
set_option maxRecDepth 20000 in
theorem ggX6_lookup_X6_refused : GoodIn wsX6_lookup wsX6_refused := goodIn_r _ [27, 28, 86, 87, 88, 89, 90, 91, 92, 93, 94, 95, 96, 97, 98, 99, 100] (by decide +kernel) (by decide +kernel)
set_option maxRecDepth 20000 in
theorem gX6_lookup_X6_refused : GoodIn wsX6_lookup (wsV RX6 39 RX6 yX6_refused wsX6_refused) := goodIn_app (goodIn_of _ (by decide +kernel)) ggX6_lookup_X6_refused
set_option maxRecDepth 20000 in
theorem ggX6_lookup_X6_saves : GoodIn wsX6_lookup wsX6_saves := goodIn_r _ [32, 33, 34, 20, 86, 87, 88, 89, 90, 91, 92, 93, 94, 95, 96, 97, 98, 99, 100] (by decide +kernel) (by decide +kernel)
set_option maxRecDepth 20000 in
theorem gX6_lookup_X6_saves : GoodIn wsX6_lookup (wsV RX6 127 RX6 yX6_saves wsX6_saves) := goodIn_app (goodIn_of _ (by decide +kernel)) ggX6_lookup_X6_saves
set_option maxRecDepth 20000 in
theorem ggX6_lookup_X6_looks : GoodIn wsX6_lookup wsX6_looks := goodIn_r _ [38, 39, 40, 41, 20, 42, 16, 17, 18, 4, 19, 21, 22, 23, 43, 44, 45, 46, 47, 48, 49, 50, 51, 52, 53, 54, 55, 56, 57, 58, 59, 60, 61, 62, 63, 64, 65, 66, 67, 68, 69, 70, 71, 72, 73, 74, 75, 76, 77, 78, 79, 80, 81, 82, 83, 84, 85, 12, 13, 14, 15, 6, 7, 8, 9, 10, 11, 86, 87, 88, 89, 90, 91, 92, 93, 94, 95, 96, 97, 98, 99, 100] (by decide +kernel) (by decide +kernel)
set_option maxRecDepth 20000 in
theorem gX6_lookup_X6_looks : GoodIn wsX6_lookup (wsV RX6 148 RX6 yX6_looks wsX6_looks) := goodIn_app (goodIn_of _ (by decide +kernel)) ggX6_lookup_X6_looks
theorem dX6_lookup_0 : decode cX6_lookup 0 = .ok (.aload_n 0, 1) := by decide +kernel
theorem dX6_lookup_1 : decode cX6_lookup 1 = .ok (.aload_n 0, 1) := by decide +kernel
theorem dX6_lookup_2 : decode cX6_lookup 2 = .ok (.iload_n 1, 1) := by decide +kernel
theorem dX6_lookup_3 : decode cX6_lookup 3 = .ok (.iload_n 2, 1) := by decide +kernel
theorem dX6_lookup_4 : decode cX6_lookup 4 = .ok (.invokevirtual 166, 3) := by decide +kernel
theorem dX6_lookup_7 : decode cX6_lookup 7 = .ok (.invokevirtual 39, 3) := by decide +kernel
theorem dX6_lookup_10 : decode cX6_lookup 10 = .ok (.ifCond .eq 5, 3) := by decide +kernel
theorem dX6_lookup_13 : decode cX6_lookup 13 = .ok (.iconst 0, 1) := by decide +kernel
theorem dX6_lookup_14 : decode cX6_lookup 14 = .ok (.ireturn, 1) := by decide +kernel
theorem dX6_lookup_15 : decode cX6_lookup 15 = .ok (.aload_n 0, 1) := by decide +kernel
theorem dX6_lookup_16 : decode cX6_lookup 16 = .ok (.invokevirtual 127, 3) := by decide +kernel
theorem dX6_lookup_19 : decode cX6_lookup 19 = .ok (.aload_n 0, 1) := by decide +kernel
theorem dX6_lookup_20 : decode cX6_lookup 20 = .ok (.iload_n 1, 1) := by decide +kernel
theorem dX6_lookup_21 : decode cX6_lookup 21 = .ok (.iload_n 2, 1) := by decide +kernel
theorem dX6_lookup_22 : decode cX6_lookup 22 = .ok (.invokevirtual 148, 3) := by decide +kernel
theorem dX6_lookup_25 : decode cX6_lookup 25 = .ok (.ireturn, 1) := by decide +kernel
set_option maxRecDepth 20000 in
theorem ggX6_probe_X6_in : GoodIn wsX6_probe wsX6_in := goodIn_r _ [7] (by decide +kernel) (by decide +kernel)
set_option maxRecDepth 20000 in
theorem gX6_probe_X6_in : GoodIn wsX6_probe (va_wsS RX6 32 yX6_in wsX6_in) := goodIn_app (goodIn_of _ (by decide +kernel)) ggX6_probe_X6_in
set_option maxRecDepth 20000 in
theorem ggX6_probe_X6_badLook : GoodIn wsX6_probe wsX6_badLook := goodIn_r _ [11, 12, 13, 6, 14, 4, 5, 7, 15, 16, 17, 18, 19, 20, 21, 22, 23, 24, 25, 26, 89, 90, 91, 92, 93, 94, 95, 96, 97, 98, 99, 100, 101, 102, 103] (by decide +kernel) (by decide +kernel)
set_option maxRecDepth 20000 in
theorem gX6_probe_X6_badLook : GoodIn wsX6_probe (wsV RX6 166 RX6 yX6_badLook wsX6_badLook) := goodIn_app (goodIn_of _ (by decide +kernel)) ggX6_probe_X6_badLook
set_option maxRecDepth 20000 in
theorem ggX6_probe_X6_refused : GoodIn wsX6_probe wsX6_refused := goodIn_r _ [30, 31, 89, 90, 91, 92, 93, 94, 95, 96, 97, 98, 99, 100, 101, 102, 103] (by decide +kernel) (by decide +kernel)
set_option maxRecDepth 20000 in
theorem gX6_probe_X6_refused : GoodIn wsX6_probe (wsV RX6 39 RX6 yX6_refused wsX6_refused) := goodIn_app (goodIn_of _ (by decide +kernel)) ggX6_probe_X6_refused
set_option maxRecDepth 20000 in
theorem ggX6_probe_X6_keeps : GoodIn wsX6_probe wsX6_keeps := goodIn_r _ [35, 36, 23, 89, 90, 91, 92, 93, 94, 95, 96, 97, 98, 99, 100, 101, 102, 103] (by decide +kernel) (by decide +kernel)
set_option maxRecDepth 20000 in
theorem gX6_probe_X6_keeps : GoodIn wsX6_probe (wsV RX6 169 RX6 yX6_keeps wsX6_keeps) := goodIn_app (goodIn_of _ (by decide +kernel)) ggX6_probe_X6_keeps
set_option maxRecDepth 20000 in
theorem ggX6_probe_X6_looks : GoodIn wsX6_probe wsX6_looks := goodIn_r _ [40, 41, 1, 2, 23, 3, 19, 20, 21, 6, 22, 24, 25, 26, 42, 43, 44, 45, 46, 47, 48, 49, 50, 51, 52, 53, 54, 55, 56, 57, 58, 59, 60, 61, 62, 63, 64, 65, 66, 67, 68, 69, 70, 71, 72, 73, 74, 75, 76, 77, 78, 79, 80, 81, 82, 83, 84, 15, 16, 17, 18, 12, 13, 14, 4, 5, 7, 89, 90, 91, 92, 93, 94, 95, 96, 97, 98, 99, 100, 101, 102, 103] (by decide +kernel) (by decide +kernel)
set_option maxRecDepth 20000 in
theorem gX6_probe_X6_looks : GoodIn wsX6_probe (wsV RX6 148 RX6 yX6_looks wsX6_looks) := goodIn_app (goodIn_of _ (by decide +kernel)) ggX6_probe_X6_looks
set_option maxRecDepth 20000 in
theorem ggX6_probe_X6_takesBack : GoodIn wsX6_probe wsX6_takesBack := goodIn_r _ [88, 23, 36, 89, 90, 91, 92, 93, 94, 95, 96, 97, 98, 99, 100, 101, 102, 103] (by decide +kernel) (by decide +kernel)
set_option maxRecDepth 20000 in
theorem gX6_probe_X6_takesBack : GoodIn wsX6_probe (wsV RX6 172 RX6 yX6_takesBack wsX6_takesBack) := goodIn_app (goodIn_of _ (by decide +kernel)) ggX6_probe_X6_takesBack
theorem dX6_probe_0 : decode cX6_probe 0 = .ok (.aload_n 0, 1) := by decide +kernel
theorem dX6_probe_1 : decode cX6_probe 1 = .ok (.iload_n 3, 1) := by decide +kernel
theorem dX6_probe_2 : decode cX6_probe 2 = .ok (.iconst 0, 1) := by decide +kernel
theorem dX6_probe_3 : decode cX6_probe 3 = .ok (.iconst 3, 1) := by decide +kernel
theorem dX6_probe_4 : decode cX6_probe 4 = .ok (.invokestatic 32, 3) := by decide +kernel
theorem dX6_probe_7 : decode cX6_probe 7 = .ok (.ifCond .eq 12, 3) := by decide +kernel
theorem dX6_probe_10 : decode cX6_probe 10 = .ok (.aload_n 0, 1) := by decide +kernel
theorem dX6_probe_11 : decode cX6_probe 11 = .ok (.iload_n 1, 1) := by decide +kernel
theorem dX6_probe_12 : decode cX6_probe 12 = .ok (.iload_n 2, 1) := by decide +kernel
theorem dX6_probe_13 : decode cX6_probe 13 = .ok (.invokevirtual 166, 3) := by decide +kernel
theorem dX6_probe_16 : decode cX6_probe 16 = .ok (.goto 4, 3) := by decide +kernel
theorem dX6_probe_19 : decode cX6_probe 19 = .ok (.iconst 1, 1) := by decide +kernel
theorem dX6_probe_20 : decode cX6_probe 20 = .ok (.invokevirtual 39, 3) := by decide +kernel
theorem dX6_probe_23 : decode cX6_probe 23 = .ok (.ifCond .eq 5, 3) := by decide +kernel
theorem dX6_probe_26 : decode cX6_probe 26 = .ok (.iconst 0, 1) := by decide +kernel
theorem dX6_probe_27 : decode cX6_probe 27 = .ok (.ireturn, 1) := by decide +kernel
theorem dX6_probe_28 : decode cX6_probe 28 = .ok (.aload_n 0, 1) := by decide +kernel
theorem dX6_probe_29 : decode cX6_probe 29 = .ok (.invokevirtual 169, 3) := by decide +kernel
theorem dX6_probe_32 : decode cX6_probe 32 = .ok (.aload_n 0, 1) := by decide +kernel
theorem dX6_probe_33 : decode cX6_probe 33 = .ok (.iload_n 1, 1) := by decide +kernel
theorem dX6_probe_34 : decode cX6_probe 34 = .ok (.iload_n 2, 1) := by decide +kernel
theorem dX6_probe_35 : decode cX6_probe 35 = .ok (.invokevirtual 148, 3) := by decide +kernel
theorem dX6_probe_38 : decode cX6_probe 38 = .ok (.istore 4, 2) := by decide +kernel
theorem dX6_probe_40 : decode cX6_probe 40 = .ok (.aload_n 0, 1) := by decide +kernel
theorem dX6_probe_41 : decode cX6_probe 41 = .ok (.invokevirtual 172, 3) := by decide +kernel
theorem dX6_probe_44 : decode cX6_probe 44 = .ok (.iload_n 3, 1) := by decide +kernel
theorem dX6_probe_45 : decode cX6_probe 45 = .ok (.ifCond .ne 8, 3) := by decide +kernel
theorem dX6_probe_48 : decode cX6_probe 48 = .ok (.iload 4, 2) := by decide +kernel
theorem dX6_probe_50 : decode cX6_probe 50 = .ok (.goto 39, 3) := by decide +kernel
theorem dX6_probe_53 : decode cX6_probe 53 = .ok (.iload_n 3, 1) := by decide +kernel
theorem dX6_probe_54 : decode cX6_probe 54 = .ok (.iconst 1, 1) := by decide +kernel
theorem dX6_probe_55 : decode cX6_probe 55 = .ok (.if_icmp .ne 10, 3) := by decide +kernel
theorem dX6_probe_58 : decode cX6_probe 58 = .ok (.aload_n 0, 1) := by decide +kernel
theorem dX6_probe_59 : decode cX6_probe 59 = .ok (.getfield 82, 3) := by decide +kernel
theorem dX6_probe_62 : decode cX6_probe 62 = .ok (.goto 27, 3) := by decide +kernel
theorem dX6_probe_65 : decode cX6_probe 65 = .ok (.iload_n 3, 1) := by decide +kernel
theorem dX6_probe_66 : decode cX6_probe 66 = .ok (.iconst 2, 1) := by decide +kernel
theorem dX6_probe_67 : decode cX6_probe 67 = .ok (.if_icmp .ne 10, 3) := by decide +kernel
theorem dX6_probe_70 : decode cX6_probe 70 = .ok (.aload_n 0, 1) := by decide +kernel
theorem dX6_probe_71 : decode cX6_probe 71 = .ok (.getfield 85, 3) := by decide +kernel
theorem dX6_probe_74 : decode cX6_probe 74 = .ok (.goto 15, 3) := by decide +kernel
theorem dX6_probe_77 : decode cX6_probe 77 = .ok (.aload_n 0, 1) := by decide +kernel
theorem dX6_probe_78 : decode cX6_probe 78 = .ok (.getfield 101, 3) := by decide +kernel
theorem dX6_probe_81 : decode cX6_probe 81 = .ok (.ifCond .eq 7, 3) := by decide +kernel
theorem dX6_probe_84 : decode cX6_probe 84 = .ok (.iconst 1, 1) := by decide +kernel
theorem dX6_probe_85 : decode cX6_probe 85 = .ok (.goto 4, 3) := by decide +kernel
theorem dX6_probe_88 : decode cX6_probe 88 = .ok (.iconst 0, 1) := by decide +kernel
theorem dX6_probe_89 : decode cX6_probe 89 = .ok (.ireturn, 1) := by decide +kernel
set_option maxRecDepth 20000 in
theorem ggX6_reach_X6_badMember : GoodIn wsX6_reach wsX6_badMember := goodIn_r _ [6, 7, 8, 5, 9, 10, 11, 12, 13, 14, 15, 16, 17, 18, 19, 20, 21, 22, 23, 24, 89, 90, 91, 92, 93, 94, 95, 96, 97, 98, 99, 100, 101, 102, 103] (by decide +kernel) (by decide +kernel)
set_option maxRecDepth 20000 in
theorem gX6_reach_X6_badMember : GoodIn wsX6_reach (wsV RX6 163 RX6 yX6_badMember wsX6_badMember) := goodIn_app (goodIn_of _ (by decide +kernel)) ggX6_reach_X6_badMember
set_option maxRecDepth 20000 in
theorem ggX6_reach_X6_refused : GoodIn wsX6_reach wsX6_refused := goodIn_r _ [28, 29, 89, 90, 91, 92, 93, 94, 95, 96, 97, 98, 99, 100, 101, 102, 103] (by decide +kernel) (by decide +kernel)
set_option maxRecDepth 20000 in
theorem gX6_reach_X6_refused : GoodIn wsX6_reach (wsV RX6 39 RX6 yX6_refused wsX6_refused) := goodIn_app (goodIn_of _ (by decide +kernel)) ggX6_reach_X6_refused
set_option maxRecDepth 20000 in
theorem ggX6_reach_X6_keeps : GoodIn wsX6_reach wsX6_keeps := goodIn_r _ [33, 34, 21, 89, 90, 91, 92, 93, 94, 95, 96, 97, 98, 99, 100, 101, 102, 103] (by decide +kernel) (by decide +kernel)
set_option maxRecDepth 20000 in
theorem gX6_reach_X6_keeps : GoodIn wsX6_reach (wsV RX6 169 RX6 yX6_keeps wsX6_keeps) := goodIn_app (goodIn_of _ (by decide +kernel)) ggX6_reach_X6_keeps
set_option maxRecDepth 20000 in
theorem ggX6_reach_X6_looks : GoodIn wsX6_reach wsX6_looks := goodIn_r _ [38, 39, 40, 41, 21, 1, 17, 18, 19, 5, 20, 22, 23, 24, 42, 43, 44, 45, 46, 47, 48, 49, 50, 51, 52, 53, 54, 55, 56, 57, 58, 59, 60, 61, 62, 63, 64, 65, 66, 67, 68, 69, 70, 71, 72, 73, 74, 75, 76, 77, 78, 79, 80, 81, 82, 83, 84, 13, 14, 15, 16, 7, 8, 9, 10, 11, 12, 89, 90, 91, 92, 93, 94, 95, 96, 97, 98, 99, 100, 101, 102, 103] (by decide +kernel) (by decide +kernel)
set_option maxRecDepth 20000 in
theorem gX6_reach_X6_looks : GoodIn wsX6_reach (wsV RX6 148 RX6 yX6_looks wsX6_looks) := goodIn_app (goodIn_of _ (by decide +kernel)) ggX6_reach_X6_looks
set_option maxRecDepth 20000 in
theorem ggX6_reach_X6_takesBack : GoodIn wsX6_reach wsX6_takesBack := goodIn_r _ [88, 21, 34, 89, 90, 91, 92, 93, 94, 95, 96, 97, 98, 99, 100, 101, 102, 103] (by decide +kernel) (by decide +kernel)
set_option maxRecDepth 20000 in
theorem gX6_reach_X6_takesBack : GoodIn wsX6_reach (wsV RX6 172 RX6 yX6_takesBack wsX6_takesBack) := goodIn_app (goodIn_of _ (by decide +kernel)) ggX6_reach_X6_takesBack
theorem dX6_reach_0 : decode cX6_reach 0 = .ok (.aload_n 0, 1) := by decide +kernel
theorem dX6_reach_1 : decode cX6_reach 1 = .ok (.aload_n 0, 1) := by decide +kernel
theorem dX6_reach_2 : decode cX6_reach 2 = .ok (.iload_n 1, 1) := by decide +kernel
theorem dX6_reach_3 : decode cX6_reach 3 = .ok (.invokevirtual 163, 3) := by decide +kernel
theorem dX6_reach_6 : decode cX6_reach 6 = .ok (.invokevirtual 39, 3) := by decide +kernel
theorem dX6_reach_9 : decode cX6_reach 9 = .ok (.ifCond .eq 5, 3) := by decide +kernel
theorem dX6_reach_12 : decode cX6_reach 12 = .ok (.iconst 0, 1) := by decide +kernel
theorem dX6_reach_13 : decode cX6_reach 13 = .ok (.ireturn, 1) := by decide +kernel
theorem dX6_reach_14 : decode cX6_reach 14 = .ok (.aload_n 0, 1) := by decide +kernel
theorem dX6_reach_15 : decode cX6_reach 15 = .ok (.invokevirtual 169, 3) := by decide +kernel
theorem dX6_reach_18 : decode cX6_reach 18 = .ok (.iconst 0, 1) := by decide +kernel
theorem dX6_reach_19 : decode cX6_reach 19 = .ok (.istore_n 2, 1) := by decide +kernel
theorem dX6_reach_20 : decode cX6_reach 20 = .ok (.iconst 0, 1) := by decide +kernel
theorem dX6_reach_21 : decode cX6_reach 21 = .ok (.istore_n 3, 1) := by decide +kernel
theorem dX6_reach_22 : decode cX6_reach 22 = .ok (.iload_n 3, 1) := by decide +kernel
theorem dX6_reach_23 : decode cX6_reach 23 = .ok (.sipush 256, 3) := by decide +kernel
theorem dX6_reach_26 : decode cX6_reach 26 = .ok (.if_icmp .ge 36, 3) := by decide +kernel
theorem dX6_reach_29 : decode cX6_reach 29 = .ok (.aload_n 0, 1) := by decide +kernel
theorem dX6_reach_30 : decode cX6_reach 30 = .ok (.iload_n 1, 1) := by decide +kernel
theorem dX6_reach_31 : decode cX6_reach 31 = .ok (.iload_n 3, 1) := by decide +kernel
theorem dX6_reach_32 : decode cX6_reach 32 = .ok (.invokevirtual 148, 3) := by decide +kernel
theorem dX6_reach_35 : decode cX6_reach 35 = .ok (.istore 4, 2) := by decide +kernel
theorem dX6_reach_37 : decode cX6_reach 37 = .ok (.iload_n 2, 1) := by decide +kernel
theorem dX6_reach_38 : decode cX6_reach 38 = .ok (.aload_n 0, 1) := by decide +kernel
theorem dX6_reach_39 : decode cX6_reach 39 = .ok (.getfield 101, 3) := by decide +kernel
theorem dX6_reach_42 : decode cX6_reach 42 = .ok (.ifCond .eq 7, 3) := by decide +kernel
theorem dX6_reach_45 : decode cX6_reach 45 = .ok (.iconst 1, 1) := by decide +kernel
theorem dX6_reach_46 : decode cX6_reach 46 = .ok (.goto 4, 3) := by decide +kernel
theorem dX6_reach_49 : decode cX6_reach 49 = .ok (.iconst 0, 1) := by decide +kernel
theorem dX6_reach_50 : decode cX6_reach 50 = .ok (.iadd, 1) := by decide +kernel
theorem dX6_reach_51 : decode cX6_reach 51 = .ok (.istore_n 2, 1) := by decide +kernel
theorem dX6_reach_52 : decode cX6_reach 52 = .ok (.aload_n 0, 1) := by decide +kernel
theorem dX6_reach_53 : decode cX6_reach 53 = .ok (.invokevirtual 172, 3) := by decide +kernel
theorem dX6_reach_56 : decode cX6_reach 56 = .ok (.iinc 3 1, 3) := by decide +kernel
theorem dX6_reach_59 : decode cX6_reach 59 = .ok (.goto (-37), 3) := by decide +kernel
theorem dX6_reach_62 : decode cX6_reach 62 = .ok (.iload_n 2, 1) := by decide +kernel
theorem dX6_reach_63 : decode cX6_reach 63 = .ok (.ireturn, 1) := by decide +kernel
set_option maxRecDepth 20000 in
theorem ggX6_tablesWith_X6_of : GoodIn wsX6_tablesWith wsX6_of := goodIn_r _ [5] (by decide +kernel) (by decide +kernel)
set_option maxRecDepth 20000 in
theorem gX6_tablesWith_X6_of : GoodIn wsX6_tablesWith (va_wsS RX6 43 yX6_of wsX6_of) := goodIn_app (goodIn_of _ (by decide +kernel)) ggX6_tablesWith_X6_of
set_option maxRecDepth 20000 in
theorem ggX6_tablesWith_X6_bucketOf : GoodIn wsX6_tablesWith wsX6_bucketOf := goodIn_r _ [8] (by decide +kernel) (by decide +kernel)
set_option maxRecDepth 20000 in
theorem gX6_tablesWith_X6_bucketOf : GoodIn wsX6_tablesWith (va_wsS RX6 57 yX6_bucketOf wsX6_bucketOf) := goodIn_app (goodIn_of _ (by decide +kernel)) ggX6_tablesWith_X6_bucketOf
set_option maxRecDepth 20000 in
theorem ggX6_tablesWith_X6_placeIn : GoodIn wsX6_tablesWith wsX6_placeIn := goodIn_r _ [12, 1, 13, 14, 15, 16, 17, 18, 19, 20, 21, 22, 23, 24, 25, 26, 27] (by decide +kernel) (by decide +kernel)
set_option maxRecDepth 20000 in
theorem gX6_tablesWith_X6_placeIn : GoodIn wsX6_tablesWith (wsV RX6 61 RX6 yX6_placeIn wsX6_placeIn) := goodIn_app (goodIn_of _ (by decide +kernel)) ggX6_tablesWith_X6_placeIn
theorem dX6_tablesWith_0 : decode cX6_tablesWith 0 = .ok (.iconst 0, 1) := by decide +kernel
theorem dX6_tablesWith_1 : decode cX6_tablesWith 1 = .ok (.istore_n 2, 1) := by decide +kernel
theorem dX6_tablesWith_2 : decode cX6_tablesWith 2 = .ok (.iconst 0, 1) := by decide +kernel
theorem dX6_tablesWith_3 : decode cX6_tablesWith 3 = .ok (.istore_n 3, 1) := by decide +kernel
theorem dX6_tablesWith_4 : decode cX6_tablesWith 4 = .ok (.iload_n 3, 1) := by decide +kernel
theorem dX6_tablesWith_5 : decode cX6_tablesWith 5 = .ok (.bipush 24, 2) := by decide +kernel
theorem dX6_tablesWith_7 : decode cX6_tablesWith 7 = .ok (.if_icmp .ge 60, 3) := by decide +kernel
theorem dX6_tablesWith_10 : decode cX6_tablesWith 10 = .ok (.aload_n 0, 1) := by decide +kernel
theorem dX6_tablesWith_11 : decode cX6_tablesWith 11 = .ok (.getfield 7, 3) := by decide +kernel
theorem dX6_tablesWith_14 : decode cX6_tablesWith 14 = .ok (.iload_n 3, 1) := by decide +kernel
theorem dX6_tablesWith_15 : decode cX6_tablesWith 15 = .ok (.invokestatic 43, 3) := by decide +kernel
theorem dX6_tablesWith_18 : decode cX6_tablesWith 18 = .ok (.iaload, 1) := by decide +kernel
theorem dX6_tablesWith_19 : decode cX6_tablesWith 19 = .ok (.iconst 1, 1) := by decide +kernel
theorem dX6_tablesWith_20 : decode cX6_tablesWith 20 = .ok (.isub, 1) := by decide +kernel
theorem dX6_tablesWith_21 : decode cX6_tablesWith 21 = .ok (.istore 4, 2) := by decide +kernel
theorem dX6_tablesWith_23 : decode cX6_tablesWith 23 = .ok (.iload_n 2, 1) := by decide +kernel
theorem dX6_tablesWith_24 : decode cX6_tablesWith 24 = .ok (.iload 4, 2) := by decide +kernel
theorem dX6_tablesWith_26 : decode cX6_tablesWith 26 = .ok (.ifCond .lt 32, 3) := by decide +kernel
theorem dX6_tablesWith_29 : decode cX6_tablesWith 29 = .ok (.iload 4, 2) := by decide +kernel
theorem dX6_tablesWith_31 : decode cX6_tablesWith 31 = .ok (.iload_n 1, 1) := by decide +kernel
theorem dX6_tablesWith_32 : decode cX6_tablesWith 32 = .ok (.if_icmp .eq 26, 3) := by decide +kernel
theorem dX6_tablesWith_35 : decode cX6_tablesWith 35 = .ok (.aload_n 0, 1) := by decide +kernel
theorem dX6_tablesWith_36 : decode cX6_tablesWith 36 = .ok (.iload_n 3, 1) := by decide +kernel
theorem dX6_tablesWith_37 : decode cX6_tablesWith 37 = .ok (.invokestatic 43, 3) := by decide +kernel
theorem dX6_tablesWith_40 : decode cX6_tablesWith 40 = .ok (.iload 4, 2) := by decide +kernel
theorem dX6_tablesWith_42 : decode cX6_tablesWith 42 = .ok (.iload_n 1, 1) := by decide +kernel
theorem dX6_tablesWith_43 : decode cX6_tablesWith 43 = .ok (.invokestatic 57, 3) := by decide +kernel
theorem dX6_tablesWith_46 : decode cX6_tablesWith 46 = .ok (.iload_n 1, 1) := by decide +kernel
theorem dX6_tablesWith_47 : decode cX6_tablesWith 47 = .ok (.invokevirtual 61, 3) := by decide +kernel
theorem dX6_tablesWith_50 : decode cX6_tablesWith 50 = .ok (.iconst (-1), 1) := by decide +kernel
theorem dX6_tablesWith_51 : decode cX6_tablesWith 51 = .ok (.if_icmp .eq 7, 3) := by decide +kernel
theorem dX6_tablesWith_54 : decode cX6_tablesWith 54 = .ok (.iconst 1, 1) := by decide +kernel
theorem dX6_tablesWith_55 : decode cX6_tablesWith 55 = .ok (.goto 4, 3) := by decide +kernel
theorem dX6_tablesWith_58 : decode cX6_tablesWith 58 = .ok (.iconst 0, 1) := by decide +kernel
theorem dX6_tablesWith_59 : decode cX6_tablesWith 59 = .ok (.iadd, 1) := by decide +kernel
theorem dX6_tablesWith_60 : decode cX6_tablesWith 60 = .ok (.istore_n 2, 1) := by decide +kernel
theorem dX6_tablesWith_61 : decode cX6_tablesWith 61 = .ok (.iinc 3 1, 3) := by decide +kernel
theorem dX6_tablesWith_64 : decode cX6_tablesWith 64 = .ok (.goto (-60), 3) := by decide +kernel
theorem dX6_tablesWith_67 : decode cX6_tablesWith 67 = .ok (.iload_n 2, 1) := by decide +kernel
theorem dX6_tablesWith_68 : decode cX6_tablesWith 68 = .ok (.ireturn, 1) := by decide +kernel
set_option maxRecDepth 20000 in
theorem ggX6_tellMember_X6_placeOf : GoodIn wsX6_tellMember wsX6_placeOf := goodIn_r _ [6, 1, 7, 8, 5, 9, 25, 26, 27, 28, 29, 30, 31, 32, 33, 34, 35, 36, 37, 38, 39] (by decide +kernel) (by decide +kernel)
set_option maxRecDepth 20000 in
theorem gX6_tellMember_X6_placeOf : GoodIn wsX6_tellMember (wsV RX6 50 RX6 yX6_placeOf wsX6_placeOf) := goodIn_app (goodIn_of _ (by decide +kernel)) ggX6_tellMember_X6_placeOf
set_option maxRecDepth 20000 in
theorem ggX6_tellMember_X6_entries : GoodIn wsX6_tellMember wsX6_entries := goodIn_r _ [13, 1, 25, 26, 27, 28, 29, 30, 31, 32, 33, 34, 35, 36, 37, 38, 39] (by decide +kernel) (by decide +kernel)
set_option maxRecDepth 20000 in
theorem gX6_tellMember_X6_entries : GoodIn wsX6_tellMember (wsV RX6 151 RX6 yX6_entries wsX6_entries) := goodIn_app (goodIn_of _ (by decide +kernel)) ggX6_tellMember_X6_entries
set_option maxRecDepth 20000 in
theorem ggX6_tellMember_X6_tablesWith : GoodIn wsX6_tellMember wsX6_tablesWith := goodIn_r _ [17, 1, 7, 8, 5, 9, 18, 19, 20, 21, 22, 23, 24, 25, 26, 27, 28, 29, 30, 31, 32, 33, 34, 35, 36, 37, 38, 39] (by decide +kernel) (by decide +kernel)
set_option maxRecDepth 20000 in
theorem gX6_tellMember_X6_tablesWith : GoodIn wsX6_tellMember (wsV RX6 175 RX6 yX6_tablesWith wsX6_tablesWith) := goodIn_app (goodIn_of _ (by decide +kernel)) ggX6_tellMember_X6_tablesWith
theorem dX6_tellMember_0 : decode cX6_tellMember 0 = .ok (.aload_n 0, 1) := by decide +kernel
theorem dX6_tellMember_1 : decode cX6_tellMember 1 = .ok (.iload_n 1, 1) := by decide +kernel
theorem dX6_tellMember_2 : decode cX6_tellMember 2 = .ok (.invokevirtual 50, 3) := by decide +kernel
theorem dX6_tellMember_5 : decode cX6_tellMember 5 = .ok (.istore_n 3, 1) := by decide +kernel
theorem dX6_tellMember_6 : decode cX6_tellMember 6 = .ok (.iload_n 2, 1) := by decide +kernel
theorem dX6_tellMember_7 : decode cX6_tellMember 7 = .ok (.ifCond .eq 8, 3) := by decide +kernel
theorem dX6_tellMember_10 : decode cX6_tellMember 10 = .ok (.iload_n 3, 1) := by decide +kernel
theorem dX6_tellMember_11 : decode cX6_tellMember 11 = .ok (.iconst (-1), 1) := by decide +kernel
theorem dX6_tellMember_12 : decode cX6_tellMember 12 = .ok (.if_icmp .ne 22, 3) := by decide +kernel
theorem dX6_tellMember_15 : decode cX6_tellMember 15 = .ok (.iload_n 2, 1) := by decide +kernel
theorem dX6_tellMember_16 : decode cX6_tellMember 16 = .ok (.ifCond .ne 16, 3) := by decide +kernel
theorem dX6_tellMember_19 : decode cX6_tellMember 19 = .ok (.iload_n 3, 1) := by decide +kernel
theorem dX6_tellMember_20 : decode cX6_tellMember 20 = .ok (.iconst (-1), 1) := by decide +kernel
theorem dX6_tellMember_21 : decode cX6_tellMember 21 = .ok (.if_icmp .ne 7, 3) := by decide +kernel
theorem dX6_tellMember_24 : decode cX6_tellMember 24 = .ok (.iconst 0, 1) := by decide +kernel
theorem dX6_tellMember_25 : decode cX6_tellMember 25 = .ok (.goto 8, 3) := by decide +kernel
theorem dX6_tellMember_28 : decode cX6_tellMember 28 = .ok (.iconst 1, 1) := by decide +kernel
theorem dX6_tellMember_29 : decode cX6_tellMember 29 = .ok (.goto 4, 3) := by decide +kernel
theorem dX6_tellMember_32 : decode cX6_tellMember 32 = .ok (.iconst (-1), 1) := by decide +kernel
theorem dX6_tellMember_33 : decode cX6_tellMember 33 = .ok (.ireturn, 1) := by decide +kernel
theorem dX6_tellMember_34 : decode cX6_tellMember 34 = .ok (.iload_n 2, 1) := by decide +kernel
theorem dX6_tellMember_35 : decode cX6_tellMember 35 = .ok (.iconst 3, 1) := by decide +kernel
theorem dX6_tellMember_36 : decode cX6_tellMember 36 = .ok (.if_icmp .ge 14, 3) := by decide +kernel
theorem dX6_tellMember_39 : decode cX6_tellMember 39 = .ok (.aload_n 0, 1) := by decide +kernel
theorem dX6_tellMember_40 : decode cX6_tellMember 40 = .ok (.getfield 7, 3) := by decide +kernel
theorem dX6_tellMember_43 : decode cX6_tellMember 43 = .ok (.iload_n 3, 1) := by decide +kernel
theorem dX6_tellMember_44 : decode cX6_tellMember 44 = .ok (.iload_n 2, 1) := by decide +kernel
theorem dX6_tellMember_45 : decode cX6_tellMember 45 = .ok (.iadd, 1) := by decide +kernel
theorem dX6_tellMember_46 : decode cX6_tellMember 46 = .ok (.iaload, 1) := by decide +kernel
theorem dX6_tellMember_47 : decode cX6_tellMember 47 = .ok (.goto 21, 3) := by decide +kernel
theorem dX6_tellMember_50 : decode cX6_tellMember 50 = .ok (.iload_n 2, 1) := by decide +kernel
theorem dX6_tellMember_51 : decode cX6_tellMember 51 = .ok (.iconst 3, 1) := by decide +kernel
theorem dX6_tellMember_52 : decode cX6_tellMember 52 = .ok (.if_icmp .ne 11, 3) := by decide +kernel
theorem dX6_tellMember_55 : decode cX6_tellMember 55 = .ok (.aload_n 0, 1) := by decide +kernel
theorem dX6_tellMember_56 : decode cX6_tellMember 56 = .ok (.iload_n 3, 1) := by decide +kernel
theorem dX6_tellMember_57 : decode cX6_tellMember 57 = .ok (.invokevirtual 151, 3) := by decide +kernel
theorem dX6_tellMember_60 : decode cX6_tellMember 60 = .ok (.goto 8, 3) := by decide +kernel
theorem dX6_tellMember_63 : decode cX6_tellMember 63 = .ok (.aload_n 0, 1) := by decide +kernel
theorem dX6_tellMember_64 : decode cX6_tellMember 64 = .ok (.iload_n 1, 1) := by decide +kernel
theorem dX6_tellMember_65 : decode cX6_tellMember 65 = .ok (.invokevirtual 175, 3) := by decide +kernel
theorem dX6_tellMember_68 : decode cX6_tellMember 68 = .ok (.ireturn, 1) := by decide +kernel
set_option maxRecDepth 20000 in
theorem ggX6_member_X6_isId : GoodIn wsX6_member wsX6_isId := goodIn_r _ [4, 5, 6, 3, 7] (by decide +kernel) (by decide +kernel)
set_option maxRecDepth 20000 in
theorem gX6_member_X6_isId : GoodIn wsX6_member (va_wsS RX6 47 yX6_isId wsX6_isId) := goodIn_app (goodIn_of _ (by decide +kernel)) ggX6_member_X6_isId
set_option maxRecDepth 20000 in
theorem ggX6_member_X6_in : GoodIn wsX6_member wsX6_in := goodIn_r _ [7] (by decide +kernel) (by decide +kernel)
set_option maxRecDepth 20000 in
theorem gX6_member_X6_in : GoodIn wsX6_member (va_wsS RX6 32 yX6_in wsX6_in) := goodIn_app (goodIn_of _ (by decide +kernel)) ggX6_member_X6_in
set_option maxRecDepth 20000 in
theorem ggX6_member_X6_refused : GoodIn wsX6_member wsX6_refused := goodIn_r _ [11, 12, 40, 41, 42, 43, 44, 45, 46, 47, 48, 49, 50, 51, 52, 53, 54] (by decide +kernel) (by decide +kernel)
set_option maxRecDepth 20000 in
theorem gX6_member_X6_refused : GoodIn wsX6_member (wsV RX6 39 RX6 yX6_refused wsX6_refused) := goodIn_app (goodIn_of _ (by decide +kernel)) ggX6_member_X6_refused
set_option maxRecDepth 20000 in
theorem ggX6_member_X6_tellMember : GoodIn wsX6_member wsX6_tellMember := goodIn_r _ [16, 17, 18, 19, 20, 3, 21, 22, 23, 24, 25, 26, 27, 28, 29, 30, 31, 32, 33, 34, 35, 36, 37, 38, 39, 40, 41, 42, 43, 44, 45, 46, 47, 48, 49, 50, 51, 52, 53, 54] (by decide +kernel) (by decide +kernel)
set_option maxRecDepth 20000 in
theorem gX6_member_X6_tellMember : GoodIn wsX6_member (wsV RX6 178 RX6 yX6_tellMember wsX6_tellMember) := goodIn_app (goodIn_of _ (by decide +kernel)) ggX6_member_X6_tellMember
theorem dX6_member_0 : decode cX6_member 0 = .ok (.aload_n 0, 1) := by decide +kernel
theorem dX6_member_1 : decode cX6_member 1 = .ok (.iload_n 1, 1) := by decide +kernel
theorem dX6_member_2 : decode cX6_member 2 = .ok (.invokestatic 47, 3) := by decide +kernel
theorem dX6_member_5 : decode cX6_member 5 = .ok (.ifCond .eq 16, 3) := by decide +kernel
theorem dX6_member_8 : decode cX6_member 8 = .ok (.iload_n 2, 1) := by decide +kernel
theorem dX6_member_9 : decode cX6_member 9 = .ok (.iconst 0, 1) := by decide +kernel
theorem dX6_member_10 : decode cX6_member 10 = .ok (.iconst 4, 1) := by decide +kernel
theorem dX6_member_11 : decode cX6_member 11 = .ok (.invokestatic 32, 3) := by decide +kernel
theorem dX6_member_14 : decode cX6_member 14 = .ok (.ifCond .eq 7, 3) := by decide +kernel
theorem dX6_member_17 : decode cX6_member 17 = .ok (.iconst 0, 1) := by decide +kernel
theorem dX6_member_18 : decode cX6_member 18 = .ok (.goto 4, 3) := by decide +kernel
theorem dX6_member_21 : decode cX6_member 21 = .ok (.iconst 1, 1) := by decide +kernel
theorem dX6_member_22 : decode cX6_member 22 = .ok (.invokevirtual 39, 3) := by decide +kernel
theorem dX6_member_25 : decode cX6_member 25 = .ok (.ifCond .eq 7, 3) := by decide +kernel
theorem dX6_member_28 : decode cX6_member 28 = .ok (.iconst 0, 1) := by decide +kernel
theorem dX6_member_29 : decode cX6_member 29 = .ok (.goto 9, 3) := by decide +kernel
theorem dX6_member_32 : decode cX6_member 32 = .ok (.aload_n 0, 1) := by decide +kernel
theorem dX6_member_33 : decode cX6_member 33 = .ok (.iload_n 1, 1) := by decide +kernel
theorem dX6_member_34 : decode cX6_member 34 = .ok (.iload_n 2, 1) := by decide +kernel
theorem dX6_member_35 : decode cX6_member 35 = .ok (.invokevirtual 178, 3) := by decide +kernel
theorem dX6_member_38 : decode cX6_member 38 = .ok (.ireturn, 1) := by decide +kernel
set_option maxRecDepth 20000 in
theorem ggX6_memberAt_X6_refused : GoodIn wsX6_memberAt wsX6_refused := goodIn_r _ [5, 6, 25, 26, 27, 28, 29, 30, 31, 32, 33, 34, 35, 36, 37, 38, 39] (by decide +kernel) (by decide +kernel)
set_option maxRecDepth 20000 in
theorem gX6_memberAt_X6_refused : GoodIn wsX6_memberAt (wsV RX6 39 RX6 yX6_refused wsX6_refused) := goodIn_app (goodIn_of _ (by decide +kernel)) ggX6_memberAt_X6_refused
set_option maxRecDepth 20000 in
theorem ggX6_memberAt_X6_isMember : GoodIn wsX6_memberAt wsX6_isMember := goodIn_r _ [10, 11, 12, 4, 13, 14, 15, 16, 17, 18, 19, 20, 21, 22, 23, 24, 25, 26, 27, 28, 29, 30, 31, 32, 33, 34, 35, 36, 37, 38, 39] (by decide +kernel) (by decide +kernel)
set_option maxRecDepth 20000 in
theorem gX6_memberAt_X6_isMember : GoodIn wsX6_memberAt (wsV RX6 75 RX6 yX6_isMember wsX6_isMember) := goodIn_app (goodIn_of _ (by decide +kernel)) ggX6_memberAt_X6_isMember
theorem dX6_memberAt_0 : decode cX6_memberAt 0 = .ok (.aload_n 0, 1) := by decide +kernel
theorem dX6_memberAt_1 : decode cX6_memberAt 1 = .ok (.iload_n 1, 1) := by decide +kernel
theorem dX6_memberAt_2 : decode cX6_memberAt 2 = .ok (.ifCond .ge 7, 3) := by decide +kernel
theorem dX6_memberAt_5 : decode cX6_memberAt 5 = .ok (.iconst 1, 1) := by decide +kernel
theorem dX6_memberAt_6 : decode cX6_memberAt 6 = .ok (.goto 4, 3) := by decide +kernel
theorem dX6_memberAt_9 : decode cX6_memberAt 9 = .ok (.iconst 0, 1) := by decide +kernel
theorem dX6_memberAt_10 : decode cX6_memberAt 10 = .ok (.invokevirtual 39, 3) := by decide +kernel
theorem dX6_memberAt_13 : decode cX6_memberAt 13 = .ok (.ifCond .eq 5, 3) := by decide +kernel
theorem dX6_memberAt_16 : decode cX6_memberAt 16 = .ok (.iconst 0, 1) := by decide +kernel
theorem dX6_memberAt_17 : decode cX6_memberAt 17 = .ok (.ireturn, 1) := by decide +kernel
theorem dX6_memberAt_18 : decode cX6_memberAt 18 = .ok (.iload_n 1, 1) := by decide +kernel
theorem dX6_memberAt_19 : decode cX6_memberAt 19 = .ok (.istore_n 2, 1) := by decide +kernel
theorem dX6_memberAt_20 : decode cX6_memberAt 20 = .ok (.iconst 0, 1) := by decide +kernel
theorem dX6_memberAt_21 : decode cX6_memberAt 21 = .ok (.istore_n 3, 1) := by decide +kernel
theorem dX6_memberAt_22 : decode cX6_memberAt 22 = .ok (.iload_n 3, 1) := by decide +kernel
theorem dX6_memberAt_23 : decode cX6_memberAt 23 = .ok (.sipush 256, 3) := by decide +kernel
theorem dX6_memberAt_26 : decode cX6_memberAt 26 = .ok (.if_icmp .ge 26, 3) := by decide +kernel
theorem dX6_memberAt_29 : decode cX6_memberAt 29 = .ok (.aload_n 0, 1) := by decide +kernel
theorem dX6_memberAt_30 : decode cX6_memberAt 30 = .ok (.iload_n 3, 1) := by decide +kernel
theorem dX6_memberAt_31 : decode cX6_memberAt 31 = .ok (.invokevirtual 75, 3) := by decide +kernel
theorem dX6_memberAt_34 : decode cX6_memberAt 34 = .ok (.ifCond .eq 12, 3) := by decide +kernel
theorem dX6_memberAt_37 : decode cX6_memberAt 37 = .ok (.iload_n 2, 1) := by decide +kernel
theorem dX6_memberAt_38 : decode cX6_memberAt 38 = .ok (.ifCond .ne 5, 3) := by decide +kernel
theorem dX6_memberAt_41 : decode cX6_memberAt 41 = .ok (.iload_n 3, 1) := by decide +kernel
theorem dX6_memberAt_42 : decode cX6_memberAt 42 = .ok (.ireturn, 1) := by decide +kernel
theorem dX6_memberAt_43 : decode cX6_memberAt 43 = .ok (.iinc 2 (-1), 3) := by decide +kernel
theorem dX6_memberAt_46 : decode cX6_memberAt 46 = .ok (.iinc 3 1, 3) := by decide +kernel
theorem dX6_memberAt_49 : decode cX6_memberAt 49 = .ok (.goto (-27), 3) := by decide +kernel
theorem dX6_memberAt_52 : decode cX6_memberAt 52 = .ok (.iconst (-1), 1) := by decide +kernel
theorem dX6_memberAt_53 : decode cX6_memberAt 53 = .ok (.ireturn, 1) := by decide +kernel
set_option maxRecDepth 20000 in
theorem ggX6_entry_X6_in : GoodIn wsX6_entry wsX6_in := goodIn_r _ [5] (by decide +kernel) (by decide +kernel)
set_option maxRecDepth 20000 in
theorem gX6_entry_X6_in : GoodIn wsX6_entry (va_wsS RX6 32 yX6_in wsX6_in) := goodIn_app (goodIn_of _ (by decide +kernel)) ggX6_entry_X6_in
set_option maxRecDepth 20000 in
theorem ggX6_entry_X6_badMember : GoodIn wsX6_entry wsX6_badMember := goodIn_r _ [9, 10, 11, 4, 12, 2, 3, 5, 13, 14, 15, 16, 17, 18, 19, 20, 1, 21, 22, 23, 29, 30, 31, 32, 33, 34, 35, 36, 37, 38, 39, 40, 41, 42, 43] (by decide +kernel) (by decide +kernel)
set_option maxRecDepth 20000 in
theorem gX6_entry_X6_badMember : GoodIn wsX6_entry (wsV RX6 163 RX6 yX6_badMember wsX6_badMember) := goodIn_app (goodIn_of _ (by decide +kernel)) ggX6_entry_X6_badMember
set_option maxRecDepth 20000 in
theorem ggX6_entry_X6_refused : GoodIn wsX6_entry wsX6_refused := goodIn_r _ [27, 28, 29, 30, 31, 32, 33, 34, 35, 36, 37, 38, 39, 40, 41, 42, 43] (by decide +kernel) (by decide +kernel)
set_option maxRecDepth 20000 in
theorem gX6_entry_X6_refused : GoodIn wsX6_entry (wsV RX6 39 RX6 yX6_refused wsX6_refused) := goodIn_app (goodIn_of _ (by decide +kernel)) ggX6_entry_X6_refused
set_option maxRecDepth 20000 in
theorem ggX6_entry_X6_placeOf : GoodIn wsX6_entry wsX6_placeOf := goodIn_r _ [20, 1, 21, 22, 4, 23, 29, 30, 31, 32, 33, 34, 35, 36, 37, 38, 39, 40, 41, 42, 43] (by decide +kernel) (by decide +kernel)
set_option maxRecDepth 20000 in
theorem gX6_entry_X6_placeOf : GoodIn wsX6_entry (wsV RX6 50 RX6 yX6_placeOf wsX6_placeOf) := goodIn_app (goodIn_of _ (by decide +kernel)) ggX6_entry_X6_placeOf
theorem dX6_entry_0 : decode cX6_entry 0 = .ok (.aload_n 0, 1) := by decide +kernel
theorem dX6_entry_1 : decode cX6_entry 1 = .ok (.iload_n 2, 1) := by decide +kernel
theorem dX6_entry_2 : decode cX6_entry 2 = .ok (.iconst 0, 1) := by decide +kernel
theorem dX6_entry_3 : decode cX6_entry 3 = .ok (.bipush 7, 2) := by decide +kernel
theorem dX6_entry_5 : decode cX6_entry 5 = .ok (.invokestatic 32, 3) := by decide +kernel
theorem dX6_entry_8 : decode cX6_entry 8 = .ok (.ifCond .eq 25, 3) := by decide +kernel
theorem dX6_entry_11 : decode cX6_entry 11 = .ok (.iload_n 3, 1) := by decide +kernel
theorem dX6_entry_12 : decode cX6_entry 12 = .ok (.ifCond .lt 21, 3) := by decide +kernel
theorem dX6_entry_15 : decode cX6_entry 15 = .ok (.iload 4, 2) := by decide +kernel
theorem dX6_entry_17 : decode cX6_entry 17 = .ok (.iconst 0, 1) := by decide +kernel
theorem dX6_entry_18 : decode cX6_entry 18 = .ok (.iconst 1, 1) := by decide +kernel
theorem dX6_entry_19 : decode cX6_entry 19 = .ok (.invokestatic 32, 3) := by decide +kernel
theorem dX6_entry_22 : decode cX6_entry 22 = .ok (.ifCond .eq 11, 3) := by decide +kernel
theorem dX6_entry_25 : decode cX6_entry 25 = .ok (.aload_n 0, 1) := by decide +kernel
theorem dX6_entry_26 : decode cX6_entry 26 = .ok (.iload_n 1, 1) := by decide +kernel
theorem dX6_entry_27 : decode cX6_entry 27 = .ok (.invokevirtual 163, 3) := by decide +kernel
theorem dX6_entry_30 : decode cX6_entry 30 = .ok (.goto 4, 3) := by decide +kernel
theorem dX6_entry_33 : decode cX6_entry 33 = .ok (.iconst 1, 1) := by decide +kernel
theorem dX6_entry_34 : decode cX6_entry 34 = .ok (.invokevirtual 39, 3) := by decide +kernel
theorem dX6_entry_37 : decode cX6_entry 37 = .ok (.ifCond .eq 5, 3) := by decide +kernel
theorem dX6_entry_40 : decode cX6_entry 40 = .ok (.iconst 0, 1) := by decide +kernel
theorem dX6_entry_41 : decode cX6_entry 41 = .ok (.ireturn, 1) := by decide +kernel
theorem dX6_entry_42 : decode cX6_entry 42 = .ok (.aload_n 0, 1) := by decide +kernel
theorem dX6_entry_43 : decode cX6_entry 43 = .ok (.iload_n 1, 1) := by decide +kernel
theorem dX6_entry_44 : decode cX6_entry 44 = .ok (.invokevirtual 50, 3) := by decide +kernel
theorem dX6_entry_47 : decode cX6_entry 47 = .ok (.istore 5, 2) := by decide +kernel
theorem dX6_entry_49 : decode cX6_entry 49 = .ok (.iload_n 3, 1) := by decide +kernel
theorem dX6_entry_50 : decode cX6_entry 50 = .ok (.aload_n 0, 1) := by decide +kernel
theorem dX6_entry_51 : decode cX6_entry 51 = .ok (.getfield 7, 3) := by decide +kernel
theorem dX6_entry_54 : decode cX6_entry 54 = .ok (.iload 5, 2) := by decide +kernel
theorem dX6_entry_56 : decode cX6_entry 56 = .ok (.iconst 3, 1) := by decide +kernel
theorem dX6_entry_57 : decode cX6_entry 57 = .ok (.iadd, 1) := by decide +kernel
theorem dX6_entry_58 : decode cX6_entry 58 = .ok (.iload_n 2, 1) := by decide +kernel
theorem dX6_entry_59 : decode cX6_entry 59 = .ok (.iadd, 1) := by decide +kernel
theorem dX6_entry_60 : decode cX6_entry 60 = .ok (.iaload, 1) := by decide +kernel
theorem dX6_entry_61 : decode cX6_entry 61 = .ok (.if_icmp .lt 7, 3) := by decide +kernel
theorem dX6_entry_64 : decode cX6_entry 64 = .ok (.iconst (-1), 1) := by decide +kernel
theorem dX6_entry_65 : decode cX6_entry 65 = .ok (.goto 29, 3) := by decide +kernel
theorem dX6_entry_68 : decode cX6_entry 68 = .ok (.aload_n 0, 1) := by decide +kernel
theorem dX6_entry_69 : decode cX6_entry 69 = .ok (.getfield 7, 3) := by decide +kernel
theorem dX6_entry_72 : decode cX6_entry 72 = .ok (.iload 5, 2) := by decide +kernel
theorem dX6_entry_74 : decode cX6_entry 74 = .ok (.iload 4, 2) := by decide +kernel
theorem dX6_entry_76 : decode cX6_entry 76 = .ok (.ifCond .ne 8, 3) := by decide +kernel
theorem dX6_entry_79 : decode cX6_entry 79 = .ok (.bipush 11, 2) := by decide +kernel
theorem dX6_entry_81 : decode cX6_entry 81 = .ok (.goto 5, 3) := by decide +kernel
theorem dX6_entry_84 : decode cX6_entry 84 = .ok (.bipush 43, 2) := by decide +kernel
theorem dX6_entry_86 : decode cX6_entry 86 = .ok (.iadd, 1) := by decide +kernel
theorem dX6_entry_87 : decode cX6_entry 87 = .ok (.iconst 4, 1) := by decide +kernel
theorem dX6_entry_88 : decode cX6_entry 88 = .ok (.iload_n 2, 1) := by decide +kernel
theorem dX6_entry_89 : decode cX6_entry 89 = .ok (.imul, 1) := by decide +kernel
theorem dX6_entry_90 : decode cX6_entry 90 = .ok (.iadd, 1) := by decide +kernel
theorem dX6_entry_91 : decode cX6_entry 91 = .ok (.iload_n 3, 1) := by decide +kernel
theorem dX6_entry_92 : decode cX6_entry 92 = .ok (.iadd, 1) := by decide +kernel
theorem dX6_entry_93 : decode cX6_entry 93 = .ok (.iaload, 1) := by decide +kernel
theorem dX6_entry_94 : decode cX6_entry 94 = .ok (.ireturn, 1) := by decide +kernel
set_option maxRecDepth 20000 in
theorem ggX6_share_X6_in : GoodIn wsX6_share wsX6_in := goodIn_r _ [4] (by decide +kernel) (by decide +kernel)
set_option maxRecDepth 20000 in
theorem gX6_share_X6_in : GoodIn wsX6_share (va_wsS RX6 32 yX6_in wsX6_in) := goodIn_app (goodIn_of _ (by decide +kernel)) ggX6_share_X6_in
set_option maxRecDepth 20000 in
theorem ggX6_share_X6_badMember : GoodIn wsX6_share wsX6_badMember := goodIn_r _ [8, 9, 10, 3, 11, 1, 2, 4, 12, 13, 14, 15, 16, 17, 18, 19, 20, 21, 22, 23, 41, 42, 43, 44, 45, 46, 47, 48, 49, 50, 51, 52, 53, 54, 55] (by decide +kernel) (by decide +kernel)
set_option maxRecDepth 20000 in
theorem gX6_share_X6_badMember : GoodIn wsX6_share (wsV RX6 163 RX6 yX6_badMember wsX6_badMember) := goodIn_app (goodIn_of _ (by decide +kernel)) ggX6_share_X6_badMember
set_option maxRecDepth 20000 in
theorem ggX6_share_X6_refused : GoodIn wsX6_share wsX6_refused := goodIn_r _ [27, 28, 41, 42, 43, 44, 45, 46, 47, 48, 49, 50, 51, 52, 53, 54, 55] (by decide +kernel) (by decide +kernel)
set_option maxRecDepth 20000 in
theorem gX6_share_X6_refused : GoodIn wsX6_share (wsV RX6 39 RX6 yX6_refused wsX6_refused) := goodIn_app (goodIn_of _ (by decide +kernel)) ggX6_share_X6_refused
set_option maxRecDepth 20000 in
theorem ggX6_share_X6_placeOf : GoodIn wsX6_share wsX6_placeOf := goodIn_r _ [19, 20, 21, 22, 3, 23, 41, 42, 43, 44, 45, 46, 47, 48, 49, 50, 51, 52, 53, 54, 55] (by decide +kernel) (by decide +kernel)
set_option maxRecDepth 20000 in
theorem gX6_share_X6_placeOf : GoodIn wsX6_share (wsV RX6 50 RX6 yX6_placeOf wsX6_placeOf) := goodIn_app (goodIn_of _ (by decide +kernel)) ggX6_share_X6_placeOf
set_option maxRecDepth 20000 in
theorem ggX6_share_X6_entries : GoodIn wsX6_share wsX6_entries := goodIn_r _ [32, 20, 41, 42, 43, 44, 45, 46, 47, 48, 49, 50, 51, 52, 53, 54, 55] (by decide +kernel) (by decide +kernel)
set_option maxRecDepth 20000 in
theorem gX6_share_X6_entries : GoodIn wsX6_share (wsV RX6 151 RX6 yX6_entries wsX6_entries) := goodIn_app (goodIn_of _ (by decide +kernel)) ggX6_share_X6_entries
set_option maxRecDepth 20000 in
theorem ggX6_share_X6_inTable : GoodIn wsX6_share wsX6_inTable := goodIn_r _ [36, 37, 38, 39, 3, 40, 20, 41, 42, 43, 44, 45, 46, 47, 48, 49, 50, 51, 52, 53, 54, 55] (by decide +kernel) (by decide +kernel)
set_option maxRecDepth 20000 in
theorem gX6_share_X6_inTable : GoodIn wsX6_share (wsV RX6 72 RX6 yX6_inTable wsX6_inTable) := goodIn_app (goodIn_of _ (by decide +kernel)) ggX6_share_X6_inTable
theorem dX6_share_0 : decode cX6_share 0 = .ok (.aload_n 0, 1) := by decide +kernel
theorem dX6_share_1 : decode cX6_share 1 = .ok (.iload_n 2, 1) := by decide +kernel
theorem dX6_share_2 : decode cX6_share 2 = .ok (.iconst 0, 1) := by decide +kernel
theorem dX6_share_3 : decode cX6_share 3 = .ok (.bipush 7, 2) := by decide +kernel
theorem dX6_share_5 : decode cX6_share 5 = .ok (.invokestatic 32, 3) := by decide +kernel
theorem dX6_share_8 : decode cX6_share 8 = .ok (.ifCond .eq 11, 3) := by decide +kernel
theorem dX6_share_11 : decode cX6_share 11 = .ok (.aload_n 0, 1) := by decide +kernel
theorem dX6_share_12 : decode cX6_share 12 = .ok (.iload_n 1, 1) := by decide +kernel
theorem dX6_share_13 : decode cX6_share 13 = .ok (.invokevirtual 163, 3) := by decide +kernel
theorem dX6_share_16 : decode cX6_share 16 = .ok (.goto 4, 3) := by decide +kernel
theorem dX6_share_19 : decode cX6_share 19 = .ok (.iconst 1, 1) := by decide +kernel
theorem dX6_share_20 : decode cX6_share 20 = .ok (.invokevirtual 39, 3) := by decide +kernel
theorem dX6_share_23 : decode cX6_share 23 = .ok (.ifCond .eq 5, 3) := by decide +kernel
theorem dX6_share_26 : decode cX6_share 26 = .ok (.iconst 0, 1) := by decide +kernel
theorem dX6_share_27 : decode cX6_share 27 = .ok (.ireturn, 1) := by decide +kernel
theorem dX6_share_28 : decode cX6_share 28 = .ok (.aload_n 0, 1) := by decide +kernel
theorem dX6_share_29 : decode cX6_share 29 = .ok (.iload_n 1, 1) := by decide +kernel
theorem dX6_share_30 : decode cX6_share 30 = .ok (.invokevirtual 50, 3) := by decide +kernel
theorem dX6_share_33 : decode cX6_share 33 = .ok (.istore_n 3, 1) := by decide +kernel
theorem dX6_share_34 : decode cX6_share 34 = .ok (.aload_n 0, 1) := by decide +kernel
theorem dX6_share_35 : decode cX6_share 35 = .ok (.iload_n 3, 1) := by decide +kernel
theorem dX6_share_36 : decode cX6_share 36 = .ok (.invokevirtual 151, 3) := by decide +kernel
theorem dX6_share_39 : decode cX6_share 39 = .ok (.ifCond .ne 7, 3) := by decide +kernel
theorem dX6_share_42 : decode cX6_share 42 = .ok (.iconst 0, 1) := by decide +kernel
theorem dX6_share_43 : decode cX6_share 43 = .ok (.goto 19, 3) := by decide +kernel
theorem dX6_share_46 : decode cX6_share 46 = .ok (.sipush 1000, 3) := by decide +kernel
theorem dX6_share_49 : decode cX6_share 49 = .ok (.aload_n 0, 1) := by decide +kernel
theorem dX6_share_50 : decode cX6_share 50 = .ok (.iload_n 3, 1) := by decide +kernel
theorem dX6_share_51 : decode cX6_share 51 = .ok (.iload_n 2, 1) := by decide +kernel
theorem dX6_share_52 : decode cX6_share 52 = .ok (.invokevirtual 72, 3) := by decide +kernel
theorem dX6_share_55 : decode cX6_share 55 = .ok (.imul, 1) := by decide +kernel
theorem dX6_share_56 : decode cX6_share 56 = .ok (.aload_n 0, 1) := by decide +kernel
theorem dX6_share_57 : decode cX6_share 57 = .ok (.iload_n 3, 1) := by decide +kernel
theorem dX6_share_58 : decode cX6_share 58 = .ok (.invokevirtual 151, 3) := by decide +kernel
theorem dX6_share_61 : decode cX6_share 61 = .ok (.idiv, 1) := by decide +kernel
theorem dX6_share_62 : decode cX6_share 62 = .ok (.ireturn, 1) := by decide +kernel
set_option maxRecDepth 20000 in
theorem ggX6_largest_X6_of : GoodIn wsX6_largest wsX6_of := goodIn_r _ [5] (by decide +kernel) (by decide +kernel)
set_option maxRecDepth 20000 in
theorem gX6_largest_X6_of : GoodIn wsX6_largest (va_wsS RX6 43 yX6_of wsX6_of) := goodIn_app (goodIn_of _ (by decide +kernel)) ggX6_largest_X6_of
theorem dX6_largest_0 : decode cX6_largest 0 = .ok (.iconst 0, 1) := by decide +kernel
theorem dX6_largest_1 : decode cX6_largest 1 = .ok (.istore_n 1, 1) := by decide +kernel
theorem dX6_largest_2 : decode cX6_largest 2 = .ok (.iconst 0, 1) := by decide +kernel
theorem dX6_largest_3 : decode cX6_largest 3 = .ok (.istore_n 2, 1) := by decide +kernel
theorem dX6_largest_4 : decode cX6_largest 4 = .ok (.iload_n 2, 1) := by decide +kernel
theorem dX6_largest_5 : decode cX6_largest 5 = .ok (.bipush 8, 2) := by decide +kernel
theorem dX6_largest_7 : decode cX6_largest 7 = .ok (.if_icmp .ge 75, 3) := by decide +kernel
theorem dX6_largest_10 : decode cX6_largest 10 = .ok (.iconst 0, 1) := by decide +kernel
theorem dX6_largest_11 : decode cX6_largest 11 = .ok (.istore_n 3, 1) := by decide +kernel
theorem dX6_largest_12 : decode cX6_largest 12 = .ok (.iconst 0, 1) := by decide +kernel
theorem dX6_largest_13 : decode cX6_largest 13 = .ok (.istore 4, 2) := by decide +kernel
theorem dX6_largest_15 : decode cX6_largest 15 = .ok (.iload 4, 2) := by decide +kernel
theorem dX6_largest_17 : decode cX6_largest 17 = .ok (.bipush 24, 2) := by decide +kernel
theorem dX6_largest_19 : decode cX6_largest 19 = .ok (.if_icmp .ge 46, 3) := by decide +kernel
theorem dX6_largest_22 : decode cX6_largest 22 = .ok (.iload_n 3, 1) := by decide +kernel
theorem dX6_largest_23 : decode cX6_largest 23 = .ok (.aload_n 0, 1) := by decide +kernel
theorem dX6_largest_24 : decode cX6_largest 24 = .ok (.getfield 7, 3) := by decide +kernel
theorem dX6_largest_27 : decode cX6_largest 27 = .ok (.iload 4, 2) := by decide +kernel
theorem dX6_largest_29 : decode cX6_largest 29 = .ok (.invokestatic 43, 3) := by decide +kernel
theorem dX6_largest_32 : decode cX6_largest 32 = .ok (.iaload, 1) := by decide +kernel
theorem dX6_largest_33 : decode cX6_largest 33 = .ok (.ifCond .le 23, 3) := by decide +kernel
theorem dX6_largest_36 : decode cX6_largest 36 = .ok (.aload_n 0, 1) := by decide +kernel
theorem dX6_largest_37 : decode cX6_largest 37 = .ok (.getfield 7, 3) := by decide +kernel
theorem dX6_largest_40 : decode cX6_largest 40 = .ok (.iload 4, 2) := by decide +kernel
theorem dX6_largest_42 : decode cX6_largest 42 = .ok (.invokestatic 43, 3) := by decide +kernel
theorem dX6_largest_45 : decode cX6_largest 45 = .ok (.iconst 1, 1) := by decide +kernel
theorem dX6_largest_46 : decode cX6_largest 46 = .ok (.iadd, 1) := by decide +kernel
theorem dX6_largest_47 : decode cX6_largest 47 = .ok (.iaload, 1) := by decide +kernel
theorem dX6_largest_48 : decode cX6_largest 48 = .ok (.iload_n 2, 1) := by decide +kernel
theorem dX6_largest_49 : decode cX6_largest 49 = .ok (.if_icmp .ne 7, 3) := by decide +kernel
theorem dX6_largest_52 : decode cX6_largest 52 = .ok (.iconst 1, 1) := by decide +kernel
theorem dX6_largest_53 : decode cX6_largest 53 = .ok (.goto 4, 3) := by decide +kernel
theorem dX6_largest_56 : decode cX6_largest 56 = .ok (.iconst 0, 1) := by decide +kernel
theorem dX6_largest_57 : decode cX6_largest 57 = .ok (.iadd, 1) := by decide +kernel
theorem dX6_largest_58 : decode cX6_largest 58 = .ok (.istore_n 3, 1) := by decide +kernel
theorem dX6_largest_59 : decode cX6_largest 59 = .ok (.iinc 4 1, 3) := by decide +kernel
theorem dX6_largest_62 : decode cX6_largest 62 = .ok (.goto (-47), 3) := by decide +kernel
theorem dX6_largest_65 : decode cX6_largest 65 = .ok (.iload_n 3, 1) := by decide +kernel
theorem dX6_largest_66 : decode cX6_largest 66 = .ok (.iload_n 1, 1) := by decide +kernel
theorem dX6_largest_67 : decode cX6_largest 67 = .ok (.if_icmp .le 7, 3) := by decide +kernel
theorem dX6_largest_70 : decode cX6_largest 70 = .ok (.iload_n 3, 1) := by decide +kernel
theorem dX6_largest_71 : decode cX6_largest 71 = .ok (.goto 4, 3) := by decide +kernel
theorem dX6_largest_74 : decode cX6_largest 74 = .ok (.iload_n 1, 1) := by decide +kernel
theorem dX6_largest_75 : decode cX6_largest 75 = .ok (.istore_n 1, 1) := by decide +kernel
theorem dX6_largest_76 : decode cX6_largest 76 = .ok (.iinc 2 1, 3) := by decide +kernel
theorem dX6_largest_79 : decode cX6_largest 79 = .ok (.goto (-75), 3) := by decide +kernel
theorem dX6_largest_82 : decode cX6_largest 82 = .ok (.iload_n 1, 1) := by decide +kernel
theorem dX6_largest_83 : decode cX6_largest 83 = .ok (.ireturn, 1) := by decide +kernel
set_option maxRecDepth 20000 in
theorem ggX6_tellOverlay_X6_memberMany : GoodIn wsX6_tellOverlay wsX6_memberMany := goodIn_r _ [6, 1, 7, 8, 5, 9, 22, 23, 24, 25, 26, 27, 28, 29, 30, 31, 32, 33, 34, 35, 36] (by decide +kernel) (by decide +kernel)
set_option maxRecDepth 20000 in
theorem gX6_tellOverlay_X6_memberMany : GoodIn wsX6_tellOverlay (wsV RX6 142 RX6 yX6_memberMany wsX6_memberMany) := goodIn_app (goodIn_of _ (by decide +kernel)) ggX6_tellOverlay_X6_memberMany
set_option maxRecDepth 20000 in
theorem ggX6_tellOverlay_X6_epochNow : GoodIn wsX6_tellOverlay wsX6_epochNow := goodIn_r _ [13, 1, 22, 23, 24, 25, 26, 27, 28, 29, 30, 31, 32, 33, 34, 35, 36] (by decide +kernel) (by decide +kernel)
set_option maxRecDepth 20000 in
theorem gX6_tellOverlay_X6_epochNow : GoodIn wsX6_tellOverlay (wsV RX6 114 RX6 yX6_epochNow wsX6_epochNow) := goodIn_app (goodIn_of _ (by decide +kernel)) ggX6_tellOverlay_X6_epochNow
set_option maxRecDepth 20000 in
theorem ggX6_tellOverlay_X6_difficulty : GoodIn wsX6_tellOverlay wsX6_difficulty := goodIn_r _ [17, 1, 22, 23, 24, 25, 26, 27, 28, 29, 30, 31, 32, 33, 34, 35, 36] (by decide +kernel) (by decide +kernel)
set_option maxRecDepth 20000 in
theorem gX6_tellOverlay_X6_difficulty : GoodIn wsX6_tellOverlay (wsV RX6 109 RX6 yX6_difficulty wsX6_difficulty) := goodIn_app (goodIn_of _ (by decide +kernel)) ggX6_tellOverlay_X6_difficulty
set_option maxRecDepth 20000 in
theorem ggX6_tellOverlay_X6_largest : GoodIn wsX6_tellOverlay wsX6_largest := goodIn_r _ [21, 1, 7, 8, 5, 9, 22, 23, 24, 25, 26, 27, 28, 29, 30, 31, 32, 33, 34, 35, 36] (by decide +kernel) (by decide +kernel)
set_option maxRecDepth 20000 in
theorem gX6_tellOverlay_X6_largest : GoodIn wsX6_tellOverlay (wsV RX6 181 RX6 yX6_largest wsX6_largest) := goodIn_app (goodIn_of _ (by decide +kernel)) ggX6_tellOverlay_X6_largest
theorem dX6_tellOverlay_0 : decode cX6_tellOverlay 0 = .ok (.iload_n 1, 1) := by decide +kernel
theorem dX6_tellOverlay_1 : decode cX6_tellOverlay 1 = .ok (.tableswitch 98 0 7 #[47, 52, 59, 64, 69, 77, 84, 91], 47) := by decide +kernel
theorem dX6_tellOverlay_48 : decode cX6_tellOverlay 48 = .ok (.aload_n 0, 1) := by decide +kernel
theorem dX6_tellOverlay_49 : decode cX6_tellOverlay 49 = .ok (.invokevirtual 142, 3) := by decide +kernel
theorem dX6_tellOverlay_52 : decode cX6_tellOverlay 52 = .ok (.ireturn, 1) := by decide +kernel
theorem dX6_tellOverlay_53 : decode cX6_tellOverlay 53 = .ok (.aload_n 0, 1) := by decide +kernel
theorem dX6_tellOverlay_54 : decode cX6_tellOverlay 54 = .ok (.getfield 7, 3) := by decide +kernel
theorem dX6_tellOverlay_57 : decode cX6_tellOverlay 57 = .ok (.iconst 5, 1) := by decide +kernel
theorem dX6_tellOverlay_58 : decode cX6_tellOverlay 58 = .ok (.iaload, 1) := by decide +kernel
theorem dX6_tellOverlay_59 : decode cX6_tellOverlay 59 = .ok (.ireturn, 1) := by decide +kernel
theorem dX6_tellOverlay_60 : decode cX6_tellOverlay 60 = .ok (.aload_n 0, 1) := by decide +kernel
theorem dX6_tellOverlay_61 : decode cX6_tellOverlay 61 = .ok (.invokevirtual 114, 3) := by decide +kernel
theorem dX6_tellOverlay_64 : decode cX6_tellOverlay 64 = .ok (.ireturn, 1) := by decide +kernel
theorem dX6_tellOverlay_65 : decode cX6_tellOverlay 65 = .ok (.aload_n 0, 1) := by decide +kernel
theorem dX6_tellOverlay_66 : decode cX6_tellOverlay 66 = .ok (.invokevirtual 109, 3) := by decide +kernel
theorem dX6_tellOverlay_69 : decode cX6_tellOverlay 69 = .ok (.ireturn, 1) := by decide +kernel
theorem dX6_tellOverlay_70 : decode cX6_tellOverlay 70 = .ok (.aload_n 0, 1) := by decide +kernel
theorem dX6_tellOverlay_71 : decode cX6_tellOverlay 71 = .ok (.getfield 7, 3) := by decide +kernel
theorem dX6_tellOverlay_74 : decode cX6_tellOverlay 74 = .ok (.bipush 6, 2) := by decide +kernel
theorem dX6_tellOverlay_76 : decode cX6_tellOverlay 76 = .ok (.iaload, 1) := by decide +kernel
theorem dX6_tellOverlay_77 : decode cX6_tellOverlay 77 = .ok (.ireturn, 1) := by decide +kernel
theorem dX6_tellOverlay_78 : decode cX6_tellOverlay 78 = .ok (.aload_n 0, 1) := by decide +kernel
theorem dX6_tellOverlay_79 : decode cX6_tellOverlay 79 = .ok (.getfield 7, 3) := by decide +kernel
theorem dX6_tellOverlay_82 : decode cX6_tellOverlay 82 = .ok (.iconst 3, 1) := by decide +kernel
theorem dX6_tellOverlay_83 : decode cX6_tellOverlay 83 = .ok (.iaload, 1) := by decide +kernel
theorem dX6_tellOverlay_84 : decode cX6_tellOverlay 84 = .ok (.ireturn, 1) := by decide +kernel
theorem dX6_tellOverlay_85 : decode cX6_tellOverlay 85 = .ok (.aload_n 0, 1) := by decide +kernel
theorem dX6_tellOverlay_86 : decode cX6_tellOverlay 86 = .ok (.getfield 7, 3) := by decide +kernel
theorem dX6_tellOverlay_89 : decode cX6_tellOverlay 89 = .ok (.iconst 4, 1) := by decide +kernel
theorem dX6_tellOverlay_90 : decode cX6_tellOverlay 90 = .ok (.iaload, 1) := by decide +kernel
theorem dX6_tellOverlay_91 : decode cX6_tellOverlay 91 = .ok (.ireturn, 1) := by decide +kernel
theorem dX6_tellOverlay_92 : decode cX6_tellOverlay 92 = .ok (.aload_n 0, 1) := by decide +kernel
theorem dX6_tellOverlay_93 : decode cX6_tellOverlay 93 = .ok (.getfield 7, 3) := by decide +kernel
theorem dX6_tellOverlay_96 : decode cX6_tellOverlay 96 = .ok (.iconst 1, 1) := by decide +kernel
theorem dX6_tellOverlay_97 : decode cX6_tellOverlay 97 = .ok (.iaload, 1) := by decide +kernel
theorem dX6_tellOverlay_98 : decode cX6_tellOverlay 98 = .ok (.ireturn, 1) := by decide +kernel
theorem dX6_tellOverlay_99 : decode cX6_tellOverlay 99 = .ok (.aload_n 0, 1) := by decide +kernel
theorem dX6_tellOverlay_100 : decode cX6_tellOverlay 100 = .ok (.invokevirtual 181, 3) := by decide +kernel
theorem dX6_tellOverlay_103 : decode cX6_tellOverlay 103 = .ok (.ireturn, 1) := by decide +kernel
set_option maxRecDepth 20000 in
theorem ggX6_overlay_X6_in : GoodIn wsX6_overlay wsX6_in := goodIn_r _ [4] (by decide +kernel) (by decide +kernel)
set_option maxRecDepth 20000 in
theorem gX6_overlay_X6_in : GoodIn wsX6_overlay (va_wsS RX6 32 yX6_in wsX6_in) := goodIn_app (goodIn_of _ (by decide +kernel)) ggX6_overlay_X6_in
set_option maxRecDepth 20000 in
theorem ggX6_overlay_X6_refused : GoodIn wsX6_overlay wsX6_refused := goodIn_r _ [8, 9, 34, 35, 36, 37, 38, 39, 40, 41, 42, 43, 44, 45, 46, 47, 48] (by decide +kernel) (by decide +kernel)
set_option maxRecDepth 20000 in
theorem gX6_overlay_X6_refused : GoodIn wsX6_overlay (wsV RX6 39 RX6 yX6_refused wsX6_refused) := goodIn_app (goodIn_of _ (by decide +kernel)) ggX6_overlay_X6_refused
set_option maxRecDepth 20000 in
theorem ggX6_overlay_X6_tellOverlay : GoodIn wsX6_overlay wsX6_tellOverlay := goodIn_r _ [13, 14, 15, 16, 17, 3, 18, 19, 20, 21, 22, 23, 24, 25, 26, 27, 28, 29, 30, 31, 32, 33, 34, 35, 36, 37, 38, 39, 40, 41, 42, 43, 44, 45, 46, 47, 48] (by decide +kernel) (by decide +kernel)
set_option maxRecDepth 20000 in
theorem gX6_overlay_X6_tellOverlay : GoodIn wsX6_overlay (wsV RX6 184 RX6 yX6_tellOverlay wsX6_tellOverlay) := goodIn_app (goodIn_of _ (by decide +kernel)) ggX6_overlay_X6_tellOverlay
theorem dX6_overlay_0 : decode cX6_overlay 0 = .ok (.aload_n 0, 1) := by decide +kernel
theorem dX6_overlay_1 : decode cX6_overlay 1 = .ok (.iload_n 1, 1) := by decide +kernel
theorem dX6_overlay_2 : decode cX6_overlay 2 = .ok (.iconst 0, 1) := by decide +kernel
theorem dX6_overlay_3 : decode cX6_overlay 3 = .ok (.bipush 8, 2) := by decide +kernel
theorem dX6_overlay_5 : decode cX6_overlay 5 = .ok (.invokestatic 32, 3) := by decide +kernel
theorem dX6_overlay_8 : decode cX6_overlay 8 = .ok (.ifCond .eq 7, 3) := by decide +kernel
theorem dX6_overlay_11 : decode cX6_overlay 11 = .ok (.iconst 0, 1) := by decide +kernel
theorem dX6_overlay_12 : decode cX6_overlay 12 = .ok (.goto 4, 3) := by decide +kernel
theorem dX6_overlay_15 : decode cX6_overlay 15 = .ok (.iconst 1, 1) := by decide +kernel
theorem dX6_overlay_16 : decode cX6_overlay 16 = .ok (.invokevirtual 39, 3) := by decide +kernel
theorem dX6_overlay_19 : decode cX6_overlay 19 = .ok (.ifCond .eq 7, 3) := by decide +kernel
theorem dX6_overlay_22 : decode cX6_overlay 22 = .ok (.iconst 0, 1) := by decide +kernel
theorem dX6_overlay_23 : decode cX6_overlay 23 = .ok (.goto 8, 3) := by decide +kernel
theorem dX6_overlay_26 : decode cX6_overlay 26 = .ok (.aload_n 0, 1) := by decide +kernel
theorem dX6_overlay_27 : decode cX6_overlay 27 = .ok (.iload_n 1, 1) := by decide +kernel
theorem dX6_overlay_28 : decode cX6_overlay 28 = .ok (.invokevirtual 184, 3) := by decide +kernel
theorem dX6_overlay_31 : decode cX6_overlay 31 = .ok (.ireturn, 1) := by decide +kernel
set_option maxRecDepth 20000 in
theorem ggX6_count_X6_in : GoodIn wsX6_count wsX6_in := goodIn_r _ [5] (by decide +kernel) (by decide +kernel)
set_option maxRecDepth 20000 in
theorem gX6_count_X6_in : GoodIn wsX6_count (va_wsS RX6 32 yX6_in wsX6_in) := goodIn_app (goodIn_of _ (by decide +kernel)) ggX6_count_X6_in
set_option maxRecDepth 20000 in
theorem ggX6_count_X6_refused : GoodIn wsX6_count wsX6_refused := goodIn_r _ [9, 10, 11, 12, 13, 14, 15, 16, 17, 18, 19, 20, 21, 22, 23, 24, 25] (by decide +kernel) (by decide +kernel)
set_option maxRecDepth 20000 in
theorem gX6_count_X6_refused : GoodIn wsX6_count (wsV RX6 39 RX6 yX6_refused wsX6_refused) := goodIn_app (goodIn_of _ (by decide +kernel)) ggX6_count_X6_refused
theorem dX6_count_0 : decode cX6_count 0 = .ok (.aload_n 0, 1) := by decide +kernel
theorem dX6_count_1 : decode cX6_count 1 = .ok (.iload_n 1, 1) := by decide +kernel
theorem dX6_count_2 : decode cX6_count 2 = .ok (.iconst 0, 1) := by decide +kernel
theorem dX6_count_3 : decode cX6_count 3 = .ok (.bipush 8, 2) := by decide +kernel
theorem dX6_count_5 : decode cX6_count 5 = .ok (.invokestatic 32, 3) := by decide +kernel
theorem dX6_count_8 : decode cX6_count 8 = .ok (.ifCond .eq 7, 3) := by decide +kernel
theorem dX6_count_11 : decode cX6_count 11 = .ok (.iconst 0, 1) := by decide +kernel
theorem dX6_count_12 : decode cX6_count 12 = .ok (.goto 4, 3) := by decide +kernel
theorem dX6_count_15 : decode cX6_count 15 = .ok (.iconst 1, 1) := by decide +kernel
theorem dX6_count_16 : decode cX6_count 16 = .ok (.invokevirtual 39, 3) := by decide +kernel
theorem dX6_count_19 : decode cX6_count 19 = .ok (.ifCond .eq 7, 3) := by decide +kernel
theorem dX6_count_22 : decode cX6_count 22 = .ok (.iconst 0, 1) := by decide +kernel
theorem dX6_count_23 : decode cX6_count 23 = .ok (.goto 12, 3) := by decide +kernel
theorem dX6_count_26 : decode cX6_count 26 = .ok (.aload_n 0, 1) := by decide +kernel
theorem dX6_count_27 : decode cX6_count 27 = .ok (.getfield 7, 3) := by decide +kernel
theorem dX6_count_30 : decode cX6_count 30 = .ok (.bipush 7, 2) := by decide +kernel
theorem dX6_count_32 : decode cX6_count 32 = .ok (.iload_n 1, 1) := by decide +kernel
theorem dX6_count_33 : decode cX6_count 33 = .ok (.iadd, 1) := by decide +kernel
theorem dX6_count_34 : decode cX6_count 34 = .ok (.iaload, 1) := by decide +kernel
theorem dX6_count_35 : decode cX6_count 35 = .ok (.ireturn, 1) := by decide +kernel
set_option maxRecDepth 20000 in
theorem ggX6_type_X6_in : GoodIn wsX6_type wsX6_in := goodIn_r _ [6] (by decide +kernel) (by decide +kernel)
set_option maxRecDepth 20000 in
theorem gX6_type_X6_in : GoodIn wsX6_type (va_wsS RX6 32 yX6_in wsX6_in) := goodIn_app (goodIn_of _ (by decide +kernel)) ggX6_type_X6_in
set_option maxRecDepth 20000 in
theorem ggX6_type_X6_refused : GoodIn wsX6_type wsX6_refused := goodIn_r _ [10, 11, 12, 13, 14, 15, 16, 17, 18, 19, 20, 21, 22, 23, 24, 25, 26] (by decide +kernel) (by decide +kernel)
set_option maxRecDepth 20000 in
theorem gX6_type_X6_refused : GoodIn wsX6_type (wsV RX6 39 RX6 yX6_refused wsX6_refused) := goodIn_app (goodIn_of _ (by decide +kernel)) ggX6_type_X6_refused
theorem dX6_type_0 : decode cX6_type 0 = .ok (.aload_n 0, 1) := by decide +kernel
theorem dX6_type_1 : decode cX6_type 1 = .ok (.iload_n 1, 1) := by decide +kernel
theorem dX6_type_2 : decode cX6_type 2 = .ok (.iconst 0, 1) := by decide +kernel
theorem dX6_type_3 : decode cX6_type 3 = .ok (.bipush 127, 2) := by decide +kernel
theorem dX6_type_5 : decode cX6_type 5 = .ok (.invokestatic 32, 3) := by decide +kernel
theorem dX6_type_8 : decode cX6_type 8 = .ok (.ifCond .ne 7, 3) := by decide +kernel
theorem dX6_type_11 : decode cX6_type 11 = .ok (.iconst 1, 1) := by decide +kernel
theorem dX6_type_12 : decode cX6_type 12 = .ok (.goto 17, 3) := by decide +kernel
theorem dX6_type_15 : decode cX6_type 15 = .ok (.aload_n 0, 1) := by decide +kernel
theorem dX6_type_16 : decode cX6_type 16 = .ok (.getfield 187, 3) := by decide +kernel
theorem dX6_type_19 : decode cX6_type 19 = .ok (.bipush 120, 2) := by decide +kernel
theorem dX6_type_21 : decode cX6_type 21 = .ok (.if_icmp .ne 7, 3) := by decide +kernel
theorem dX6_type_24 : decode cX6_type 24 = .ok (.iconst 2, 1) := by decide +kernel
theorem dX6_type_25 : decode cX6_type 25 = .ok (.goto 4, 3) := by decide +kernel
theorem dX6_type_28 : decode cX6_type 28 = .ok (.iconst 0, 1) := by decide +kernel
theorem dX6_type_29 : decode cX6_type 29 = .ok (.invokevirtual 39, 3) := by decide +kernel
theorem dX6_type_32 : decode cX6_type 32 = .ok (.ifCond .eq 5, 3) := by decide +kernel
theorem dX6_type_35 : decode cX6_type 35 = .ok (.iconst 0, 1) := by decide +kernel
theorem dX6_type_36 : decode cX6_type 36 = .ok (.ireturn, 1) := by decide +kernel
theorem dX6_type_37 : decode cX6_type 37 = .ok (.aload_n 0, 1) := by decide +kernel
theorem dX6_type_38 : decode cX6_type 38 = .ok (.getfield 19, 3) := by decide +kernel
theorem dX6_type_41 : decode cX6_type 41 = .ok (.aload_n 0, 1) := by decide +kernel
theorem dX6_type_42 : decode cX6_type 42 = .ok (.getfield 187, 3) := by decide +kernel
theorem dX6_type_45 : decode cX6_type 45 = .ok (.iload_n 1, 1) := by decide +kernel
theorem dX6_type_46 : decode cX6_type 46 = .ok (.iastore, 1) := by decide +kernel
theorem dX6_type_47 : decode cX6_type 47 = .ok (.aload_n 0, 1) := by decide +kernel
theorem dX6_type_48 : decode cX6_type 48 = .ok (.dup, 1) := by decide +kernel
theorem dX6_type_49 : decode cX6_type 49 = .ok (.getfield 187, 3) := by decide +kernel
theorem dX6_type_52 : decode cX6_type 52 = .ok (.iconst 1, 1) := by decide +kernel
theorem dX6_type_53 : decode cX6_type 53 = .ok (.iadd, 1) := by decide +kernel
theorem dX6_type_54 : decode cX6_type 54 = .ok (.putfield 187, 3) := by decide +kernel
theorem dX6_type_57 : decode cX6_type 57 = .ok (.aload_n 0, 1) := by decide +kernel
theorem dX6_type_58 : decode cX6_type 58 = .ok (.getfield 187, 3) := by decide +kernel
theorem dX6_type_61 : decode cX6_type 61 = .ok (.ireturn, 1) := by decide +kernel
theorem dX6_clearScript_0 : decode cX6_clearScript 0 = .ok (.aload_n 0, 1) := by decide +kernel
theorem dX6_clearScript_1 : decode cX6_clearScript 1 = .ok (.iconst 0, 1) := by decide +kernel
theorem dX6_clearScript_2 : decode cX6_clearScript 2 = .ok (.putfield 28, 3) := by decide +kernel
theorem dX6_clearScript_5 : decode cX6_clearScript 5 = .ok (.aload_n 0, 1) := by decide +kernel
theorem dX6_clearScript_6 : decode cX6_clearScript 6 = .ok (.getfield 187, 3) := by decide +kernel
theorem dX6_clearScript_9 : decode cX6_clearScript 9 = .ok (.istore_n 1, 1) := by decide +kernel
theorem dX6_clearScript_10 : decode cX6_clearScript 10 = .ok (.aload_n 0, 1) := by decide +kernel
theorem dX6_clearScript_11 : decode cX6_clearScript 11 = .ok (.iconst 0, 1) := by decide +kernel
theorem dX6_clearScript_12 : decode cX6_clearScript 12 = .ok (.putfield 187, 3) := by decide +kernel
theorem dX6_clearScript_15 : decode cX6_clearScript 15 = .ok (.iload_n 1, 1) := by decide +kernel
theorem dX6_clearScript_16 : decode cX6_clearScript 16 = .ok (.ireturn, 1) := by decide +kernel
set_option maxRecDepth 20000 in
theorem ggX6_isAt_X6_in : GoodIn wsX6_isAt wsX6_in := goodIn_r _ [7] (by decide +kernel) (by decide +kernel)
set_option maxRecDepth 20000 in
theorem gX6_isAt_X6_in : GoodIn wsX6_isAt (va_wsS RX6 32 yX6_in wsX6_in) := goodIn_app (goodIn_of _ (by decide +kernel)) ggX6_isAt_X6_in
theorem dX6_isAt_0 : decode cX6_isAt 0 = .ok (.aload_n 0, 1) := by decide +kernel
theorem dX6_isAt_1 : decode cX6_isAt 1 = .ok (.getfield 190, 3) := by decide +kernel
theorem dX6_isAt_4 : decode cX6_isAt 4 = .ok (.aload_n 0, 1) := by decide +kernel
theorem dX6_isAt_5 : decode cX6_isAt 5 = .ok (.getfield 187, 3) := by decide +kernel
theorem dX6_isAt_8 : decode cX6_isAt 8 = .ok (.if_icmp .ge 24, 3) := by decide +kernel
theorem dX6_isAt_11 : decode cX6_isAt 11 = .ok (.aload_n 0, 1) := by decide +kernel
theorem dX6_isAt_12 : decode cX6_isAt 12 = .ok (.getfield 19, 3) := by decide +kernel
theorem dX6_isAt_15 : decode cX6_isAt 15 = .ok (.aload_n 0, 1) := by decide +kernel
theorem dX6_isAt_16 : decode cX6_isAt 16 = .ok (.getfield 190, 3) := by decide +kernel
theorem dX6_isAt_19 : decode cX6_isAt 19 = .ok (.iaload, 1) := by decide +kernel
theorem dX6_isAt_20 : decode cX6_isAt 20 = .ok (.iload_n 1, 1) := by decide +kernel
theorem dX6_isAt_21 : decode cX6_isAt 21 = .ok (.iload_n 2, 1) := by decide +kernel
theorem dX6_isAt_22 : decode cX6_isAt 22 = .ok (.invokestatic 32, 3) := by decide +kernel
theorem dX6_isAt_25 : decode cX6_isAt 25 = .ok (.ifCond .eq 7, 3) := by decide +kernel
theorem dX6_isAt_28 : decode cX6_isAt 28 = .ok (.iconst 1, 1) := by decide +kernel
theorem dX6_isAt_29 : decode cX6_isAt 29 = .ok (.goto 4, 3) := by decide +kernel
theorem dX6_isAt_32 : decode cX6_isAt 32 = .ok (.iconst 0, 1) := by decide +kernel
theorem dX6_isAt_33 : decode cX6_isAt 33 = .ok (.ireturn, 1) := by decide +kernel
set_option maxRecDepth 20000 in
theorem ggX6_skips_X6_isAt : GoodIn wsX6_skips wsX6_isAt := goodIn_r _ [6, 1, 7, 8, 9, 10, 5, 11, 12, 13, 14, 15, 16, 17, 18, 19, 20, 21, 22, 23, 24, 25, 26] (by decide +kernel) (by decide +kernel)
set_option maxRecDepth 20000 in
theorem gX6_skips_X6_isAt : GoodIn wsX6_skips (wsV RX6 193 RX6 yX6_isAt wsX6_isAt) := goodIn_app (goodIn_of _ (by decide +kernel)) ggX6_skips_X6_isAt
theorem dX6_skips_0 : decode cX6_skips 0 = .ok (.aload_n 0, 1) := by decide +kernel
theorem dX6_skips_1 : decode cX6_skips 1 = .ok (.bipush 32, 2) := by decide +kernel
theorem dX6_skips_3 : decode cX6_skips 3 = .ok (.bipush 32, 2) := by decide +kernel
theorem dX6_skips_5 : decode cX6_skips 5 = .ok (.invokevirtual 193, 3) := by decide +kernel
theorem dX6_skips_8 : decode cX6_skips 8 = .ok (.istore_n 1, 1) := by decide +kernel
theorem dX6_skips_9 : decode cX6_skips 9 = .ok (.aload_n 0, 1) := by decide +kernel
theorem dX6_skips_10 : decode cX6_skips 10 = .ok (.bipush 32, 2) := by decide +kernel
theorem dX6_skips_12 : decode cX6_skips 12 = .ok (.bipush 32, 2) := by decide +kernel
theorem dX6_skips_14 : decode cX6_skips 14 = .ok (.invokevirtual 193, 3) := by decide +kernel
theorem dX6_skips_17 : decode cX6_skips 17 = .ok (.ifCond .eq 16, 3) := by decide +kernel
theorem dX6_skips_20 : decode cX6_skips 20 = .ok (.aload_n 0, 1) := by decide +kernel
theorem dX6_skips_21 : decode cX6_skips 21 = .ok (.dup, 1) := by decide +kernel
theorem dX6_skips_22 : decode cX6_skips 22 = .ok (.getfield 190, 3) := by decide +kernel
theorem dX6_skips_25 : decode cX6_skips 25 = .ok (.iconst 1, 1) := by decide +kernel
theorem dX6_skips_26 : decode cX6_skips 26 = .ok (.iadd, 1) := by decide +kernel
theorem dX6_skips_27 : decode cX6_skips 27 = .ok (.putfield 190, 3) := by decide +kernel
theorem dX6_skips_30 : decode cX6_skips 30 = .ok (.goto (-21), 3) := by decide +kernel
theorem dX6_skips_33 : decode cX6_skips 33 = .ok (.iload_n 1, 1) := by decide +kernel
theorem dX6_skips_34 : decode cX6_skips 34 = .ok (.ireturn, 1) := by decide +kernel
theorem dX6_spells_0 : decode cX6_spells 0 = .ok (.aload_n 0, 1) := by decide +kernel
theorem dX6_spells_1 : decode cX6_spells 1 = .ok (.getfield 190, 3) := by decide +kernel
theorem dX6_spells_4 : decode cX6_spells 4 = .ok (.iload_n 1, 1) := by decide +kernel
theorem dX6_spells_5 : decode cX6_spells 5 = .ok (.isub, 1) := by decide +kernel
theorem dX6_spells_6 : decode cX6_spells 6 = .ok (.iload_n 2, 1) := by decide +kernel
theorem dX6_spells_7 : decode cX6_spells 7 = .ok (.if_icmp .ne 56, 3) := by decide +kernel
theorem dX6_spells_10 : decode cX6_spells 10 = .ok (.aload_n 0, 1) := by decide +kernel
theorem dX6_spells_11 : decode cX6_spells 11 = .ok (.getfield 19, 3) := by decide +kernel
theorem dX6_spells_14 : decode cX6_spells 14 = .ok (.iload_n 1, 1) := by decide +kernel
theorem dX6_spells_15 : decode cX6_spells 15 = .ok (.iaload, 1) := by decide +kernel
theorem dX6_spells_16 : decode cX6_spells 16 = .ok (.iload_n 3, 1) := by decide +kernel
theorem dX6_spells_17 : decode cX6_spells 17 = .ok (.if_icmp .ne 46, 3) := by decide +kernel
theorem dX6_spells_20 : decode cX6_spells 20 = .ok (.aload_n 0, 1) := by decide +kernel
theorem dX6_spells_21 : decode cX6_spells 21 = .ok (.getfield 19, 3) := by decide +kernel
theorem dX6_spells_24 : decode cX6_spells 24 = .ok (.iload_n 1, 1) := by decide +kernel
theorem dX6_spells_25 : decode cX6_spells 25 = .ok (.iconst 1, 1) := by decide +kernel
theorem dX6_spells_26 : decode cX6_spells 26 = .ok (.iadd, 1) := by decide +kernel
theorem dX6_spells_27 : decode cX6_spells 27 = .ok (.iaload, 1) := by decide +kernel
theorem dX6_spells_28 : decode cX6_spells 28 = .ok (.iload 4, 2) := by decide +kernel
theorem dX6_spells_30 : decode cX6_spells 30 = .ok (.if_icmp .ne 33, 3) := by decide +kernel
theorem dX6_spells_33 : decode cX6_spells 33 = .ok (.aload_n 0, 1) := by decide +kernel
theorem dX6_spells_34 : decode cX6_spells 34 = .ok (.getfield 19, 3) := by decide +kernel
theorem dX6_spells_37 : decode cX6_spells 37 = .ok (.iload_n 1, 1) := by decide +kernel
theorem dX6_spells_38 : decode cX6_spells 38 = .ok (.iconst 2, 1) := by decide +kernel
theorem dX6_spells_39 : decode cX6_spells 39 = .ok (.iadd, 1) := by decide +kernel
theorem dX6_spells_40 : decode cX6_spells 40 = .ok (.iaload, 1) := by decide +kernel
theorem dX6_spells_41 : decode cX6_spells 41 = .ok (.iload 5, 2) := by decide +kernel
theorem dX6_spells_43 : decode cX6_spells 43 = .ok (.if_icmp .ne 20, 3) := by decide +kernel
theorem dX6_spells_46 : decode cX6_spells 46 = .ok (.aload_n 0, 1) := by decide +kernel
theorem dX6_spells_47 : decode cX6_spells 47 = .ok (.getfield 19, 3) := by decide +kernel
theorem dX6_spells_50 : decode cX6_spells 50 = .ok (.iload_n 1, 1) := by decide +kernel
theorem dX6_spells_51 : decode cX6_spells 51 = .ok (.iconst 3, 1) := by decide +kernel
theorem dX6_spells_52 : decode cX6_spells 52 = .ok (.iadd, 1) := by decide +kernel
theorem dX6_spells_53 : decode cX6_spells 53 = .ok (.iaload, 1) := by decide +kernel
theorem dX6_spells_54 : decode cX6_spells 54 = .ok (.iload 6, 2) := by decide +kernel
theorem dX6_spells_56 : decode cX6_spells 56 = .ok (.if_icmp .ne 7, 3) := by decide +kernel
theorem dX6_spells_59 : decode cX6_spells 59 = .ok (.iconst 1, 1) := by decide +kernel
theorem dX6_spells_60 : decode cX6_spells 60 = .ok (.goto 4, 3) := by decide +kernel
theorem dX6_spells_63 : decode cX6_spells 63 = .ok (.iconst 0, 1) := by decide +kernel
theorem dX6_spells_64 : decode cX6_spells 64 = .ok (.istore 8, 2) := by decide +kernel
theorem dX6_spells_66 : decode cX6_spells 66 = .ok (.iload 8, 2) := by decide +kernel
theorem dX6_spells_68 : decode cX6_spells 68 = .ok (.ifCond .eq 25, 3) := by decide +kernel
theorem dX6_spells_71 : decode cX6_spells 71 = .ok (.iload_n 2, 1) := by decide +kernel
theorem dX6_spells_72 : decode cX6_spells 72 = .ok (.iconst 4, 1) := by decide +kernel
theorem dX6_spells_73 : decode cX6_spells 73 = .ok (.if_icmp .eq 16, 3) := by decide +kernel
theorem dX6_spells_76 : decode cX6_spells 76 = .ok (.aload_n 0, 1) := by decide +kernel
theorem dX6_spells_77 : decode cX6_spells 77 = .ok (.getfield 19, 3) := by decide +kernel
theorem dX6_spells_80 : decode cX6_spells 80 = .ok (.iload_n 1, 1) := by decide +kernel
theorem dX6_spells_81 : decode cX6_spells 81 = .ok (.iconst 4, 1) := by decide +kernel
theorem dX6_spells_82 : decode cX6_spells 82 = .ok (.iadd, 1) := by decide +kernel
theorem dX6_spells_83 : decode cX6_spells 83 = .ok (.iaload, 1) := by decide +kernel
theorem dX6_spells_84 : decode cX6_spells 84 = .ok (.iload 7, 2) := by decide +kernel
theorem dX6_spells_86 : decode cX6_spells 86 = .ok (.if_icmp .ne 7, 3) := by decide +kernel
theorem dX6_spells_89 : decode cX6_spells 89 = .ok (.iconst 1, 1) := by decide +kernel
theorem dX6_spells_90 : decode cX6_spells 90 = .ok (.goto 4, 3) := by decide +kernel
theorem dX6_spells_93 : decode cX6_spells 93 = .ok (.iconst 0, 1) := by decide +kernel
theorem dX6_spells_94 : decode cX6_spells 94 = .ok (.ireturn, 1) := by decide +kernel
set_option maxRecDepth 20000 in
theorem ggX6_readsNumber_X6_skips : GoodIn wsX6_readsNumber wsX6_skips := goodIn_r _ [7, 2, 8, 9, 10, 6, 11, 12, 1, 13, 14, 15, 16, 17, 18, 19, 20, 21, 22, 23, 24, 25, 26, 27, 28, 29, 30] (by decide +kernel) (by decide +kernel)
set_option maxRecDepth 20000 in
theorem gX6_readsNumber_X6_skips : GoodIn wsX6_readsNumber (wsV RX6 197 RX6 yX6_skips wsX6_skips) := goodIn_app (goodIn_of _ (by decide +kernel)) ggX6_readsNumber_X6_skips
set_option maxRecDepth 20000 in
theorem ggX6_readsNumber_X6_isAt : GoodIn wsX6_readsNumber wsX6_isAt := goodIn_r _ [11, 2, 12, 1, 13, 14, 6, 15, 16, 17, 18, 19, 20, 21, 22, 23, 24, 25, 26, 27, 28, 29, 30] (by decide +kernel) (by decide +kernel)
set_option maxRecDepth 20000 in
theorem gX6_readsNumber_X6_isAt : GoodIn wsX6_readsNumber (wsV RX6 193 RX6 yX6_isAt wsX6_isAt) := goodIn_app (goodIn_of _ (by decide +kernel)) ggX6_readsNumber_X6_isAt
theorem dX6_readsNumber_0 : decode cX6_readsNumber 0 = .ok (.aload_n 0, 1) := by decide +kernel
theorem dX6_readsNumber_1 : decode cX6_readsNumber 1 = .ok (.invokevirtual 197, 3) := by decide +kernel
theorem dX6_readsNumber_4 : decode cX6_readsNumber 4 = .ok (.ifCond .eq 14, 3) := by decide +kernel
theorem dX6_readsNumber_7 : decode cX6_readsNumber 7 = .ok (.aload_n 0, 1) := by decide +kernel
theorem dX6_readsNumber_8 : decode cX6_readsNumber 8 = .ok (.bipush 48, 2) := by decide +kernel
theorem dX6_readsNumber_10 : decode cX6_readsNumber 10 = .ok (.bipush 57, 2) := by decide +kernel
theorem dX6_readsNumber_12 : decode cX6_readsNumber 12 = .ok (.invokevirtual 193, 3) := by decide +kernel
theorem dX6_readsNumber_15 : decode cX6_readsNumber 15 = .ok (.ifCond .ne 5, 3) := by decide +kernel
theorem dX6_readsNumber_18 : decode cX6_readsNumber 18 = .ok (.iconst (-1), 1) := by decide +kernel
theorem dX6_readsNumber_19 : decode cX6_readsNumber 19 = .ok (.ireturn, 1) := by decide +kernel
theorem dX6_readsNumber_20 : decode cX6_readsNumber 20 = .ok (.iconst 0, 1) := by decide +kernel
theorem dX6_readsNumber_21 : decode cX6_readsNumber 21 = .ok (.istore_n 1, 1) := by decide +kernel
theorem dX6_readsNumber_22 : decode cX6_readsNumber 22 = .ok (.iconst 0, 1) := by decide +kernel
theorem dX6_readsNumber_23 : decode cX6_readsNumber 23 = .ok (.istore_n 2, 1) := by decide +kernel
theorem dX6_readsNumber_24 : decode cX6_readsNumber 24 = .ok (.iload_n 2, 1) := by decide +kernel
theorem dX6_readsNumber_25 : decode cX6_readsNumber 25 = .ok (.iconst 5, 1) := by decide +kernel
theorem dX6_readsNumber_26 : decode cX6_readsNumber 26 = .ok (.if_icmp .ge 48, 3) := by decide +kernel
theorem dX6_readsNumber_29 : decode cX6_readsNumber 29 = .ok (.aload_n 0, 1) := by decide +kernel
theorem dX6_readsNumber_30 : decode cX6_readsNumber 30 = .ok (.bipush 48, 2) := by decide +kernel
theorem dX6_readsNumber_32 : decode cX6_readsNumber 32 = .ok (.bipush 57, 2) := by decide +kernel
theorem dX6_readsNumber_34 : decode cX6_readsNumber 34 = .ok (.invokevirtual 193, 3) := by decide +kernel
theorem dX6_readsNumber_37 : decode cX6_readsNumber 37 = .ok (.ifCond .eq 37, 3) := by decide +kernel
theorem dX6_readsNumber_40 : decode cX6_readsNumber 40 = .ok (.bipush 10, 2) := by decide +kernel
theorem dX6_readsNumber_42 : decode cX6_readsNumber 42 = .ok (.iload_n 1, 1) := by decide +kernel
theorem dX6_readsNumber_43 : decode cX6_readsNumber 43 = .ok (.imul, 1) := by decide +kernel
theorem dX6_readsNumber_44 : decode cX6_readsNumber 44 = .ok (.aload_n 0, 1) := by decide +kernel
theorem dX6_readsNumber_45 : decode cX6_readsNumber 45 = .ok (.getfield 19, 3) := by decide +kernel
theorem dX6_readsNumber_48 : decode cX6_readsNumber 48 = .ok (.aload_n 0, 1) := by decide +kernel
theorem dX6_readsNumber_49 : decode cX6_readsNumber 49 = .ok (.getfield 190, 3) := by decide +kernel
theorem dX6_readsNumber_52 : decode cX6_readsNumber 52 = .ok (.iaload, 1) := by decide +kernel
theorem dX6_readsNumber_53 : decode cX6_readsNumber 53 = .ok (.iadd, 1) := by decide +kernel
theorem dX6_readsNumber_54 : decode cX6_readsNumber 54 = .ok (.bipush 48, 2) := by decide +kernel
theorem dX6_readsNumber_56 : decode cX6_readsNumber 56 = .ok (.isub, 1) := by decide +kernel
theorem dX6_readsNumber_57 : decode cX6_readsNumber 57 = .ok (.istore_n 1, 1) := by decide +kernel
theorem dX6_readsNumber_58 : decode cX6_readsNumber 58 = .ok (.aload_n 0, 1) := by decide +kernel
theorem dX6_readsNumber_59 : decode cX6_readsNumber 59 = .ok (.dup, 1) := by decide +kernel
theorem dX6_readsNumber_60 : decode cX6_readsNumber 60 = .ok (.getfield 190, 3) := by decide +kernel
theorem dX6_readsNumber_63 : decode cX6_readsNumber 63 = .ok (.iconst 1, 1) := by decide +kernel
theorem dX6_readsNumber_64 : decode cX6_readsNumber 64 = .ok (.iadd, 1) := by decide +kernel
theorem dX6_readsNumber_65 : decode cX6_readsNumber 65 = .ok (.putfield 190, 3) := by decide +kernel
theorem dX6_readsNumber_68 : decode cX6_readsNumber 68 = .ok (.iinc 2 1, 3) := by decide +kernel
theorem dX6_readsNumber_71 : decode cX6_readsNumber 71 = .ok (.goto (-47), 3) := by decide +kernel
theorem dX6_readsNumber_74 : decode cX6_readsNumber 74 = .ok (.iload_n 1, 1) := by decide +kernel
theorem dX6_readsNumber_75 : decode cX6_readsNumber 75 = .ok (.ireturn, 1) := by decide +kernel
set_option maxRecDepth 20000 in
theorem ggX6_reads_X6_isAt : GoodIn wsX6_reads wsX6_isAt := goodIn_r _ [8, 1, 9, 10, 11, 12, 7, 13, 26, 27, 28, 29, 30, 31, 32, 33, 34, 35, 36, 37, 38, 39, 40] (by decide +kernel) (by decide +kernel)
set_option maxRecDepth 20000 in
theorem gX6_reads_X6_isAt : GoodIn wsX6_reads (wsV RX6 193 RX6 yX6_isAt wsX6_isAt) := goodIn_app (goodIn_of _ (by decide +kernel)) ggX6_reads_X6_isAt
set_option maxRecDepth 20000 in
theorem ggX6_reads_X6_spells : GoodIn wsX6_reads wsX6_spells := goodIn_r _ [17, 1, 10, 26, 27, 28, 29, 30, 31, 32, 33, 34, 35, 36, 37, 38, 39, 40] (by decide +kernel) (by decide +kernel)
set_option maxRecDepth 20000 in
theorem gX6_reads_X6_spells : GoodIn wsX6_reads (wsV RX6 201 RX6 yX6_spells wsX6_spells) := goodIn_app (goodIn_of _ (by decide +kernel)) ggX6_reads_X6_spells
set_option maxRecDepth 20000 in
theorem ggX6_reads_X6_readsNumber : GoodIn wsX6_reads wsX6_readsNumber := goodIn_r _ [21, 10, 1, 22, 23, 24, 7, 25, 4, 5, 6, 8, 9, 11, 12, 13, 26, 27, 28, 29, 30, 31, 32, 33, 34, 35, 36, 37, 38, 39, 40] (by decide +kernel) (by decide +kernel)
set_option maxRecDepth 20000 in
theorem gX6_reads_X6_readsNumber : GoodIn wsX6_reads (wsV RX6 208 RX6 yX6_readsNumber wsX6_readsNumber) := goodIn_app (goodIn_of _ (by decide +kernel)) ggX6_reads_X6_readsNumber
set_option maxRecDepth 20000 in
theorem ggX6_reads_X6_skips : GoodIn wsX6_reads wsX6_skips := goodIn_r _ [25, 1, 4, 5, 6, 7, 8, 9, 10, 11, 12, 13, 26, 27, 28, 29, 30, 31, 32, 33, 34, 35, 36, 37, 38, 39, 40] (by decide +kernel) (by decide +kernel)
set_option maxRecDepth 20000 in
theorem gX6_reads_X6_skips : GoodIn wsX6_reads (wsV RX6 197 RX6 yX6_skips wsX6_skips) := goodIn_app (goodIn_of _ (by decide +kernel)) ggX6_reads_X6_skips
theorem dX6_reads_0 : decode cX6_reads 0 = .ok (.aload_n 0, 1) := by decide +kernel
theorem dX6_reads_1 : decode cX6_reads 1 = .ok (.getfield 190, 3) := by decide +kernel
theorem dX6_reads_4 : decode cX6_reads 4 = .ok (.istore_n 1, 1) := by decide +kernel
theorem dX6_reads_5 : decode cX6_reads 5 = .ok (.aload_n 0, 1) := by decide +kernel
theorem dX6_reads_6 : decode cX6_reads 6 = .ok (.bipush 97, 2) := by decide +kernel
theorem dX6_reads_8 : decode cX6_reads 8 = .ok (.bipush 122, 2) := by decide +kernel
theorem dX6_reads_10 : decode cX6_reads 10 = .ok (.invokevirtual 193, 3) := by decide +kernel
theorem dX6_reads_13 : decode cX6_reads 13 = .ok (.ifCond .eq 16, 3) := by decide +kernel
theorem dX6_reads_16 : decode cX6_reads 16 = .ok (.aload_n 0, 1) := by decide +kernel
theorem dX6_reads_17 : decode cX6_reads 17 = .ok (.dup, 1) := by decide +kernel
theorem dX6_reads_18 : decode cX6_reads 18 = .ok (.getfield 190, 3) := by decide +kernel
theorem dX6_reads_21 : decode cX6_reads 21 = .ok (.iconst 1, 1) := by decide +kernel
theorem dX6_reads_22 : decode cX6_reads 22 = .ok (.iadd, 1) := by decide +kernel
theorem dX6_reads_23 : decode cX6_reads 23 = .ok (.putfield 190, 3) := by decide +kernel
theorem dX6_reads_26 : decode cX6_reads 26 = .ok (.goto (-21), 3) := by decide +kernel
theorem dX6_reads_29 : decode cX6_reads 29 = .ok (.aload_n 0, 1) := by decide +kernel
theorem dX6_reads_30 : decode cX6_reads 30 = .ok (.iload_n 1, 1) := by decide +kernel
theorem dX6_reads_31 : decode cX6_reads 31 = .ok (.iconst 4, 1) := by decide +kernel
theorem dX6_reads_32 : decode cX6_reads 32 = .ok (.bipush 116, 2) := by decide +kernel
theorem dX6_reads_34 : decode cX6_reads 34 = .ok (.bipush 105, 2) := by decide +kernel
theorem dX6_reads_36 : decode cX6_reads 36 = .ok (.bipush 99, 2) := by decide +kernel
theorem dX6_reads_38 : decode cX6_reads 38 = .ok (.bipush 107, 2) := by decide +kernel
theorem dX6_reads_40 : decode cX6_reads 40 = .ok (.iconst 0, 1) := by decide +kernel
theorem dX6_reads_41 : decode cX6_reads 41 = .ok (.invokevirtual 201, 3) := by decide +kernel
theorem dX6_reads_44 : decode cX6_reads 44 = .ok (.istore_n 2, 1) := by decide +kernel
theorem dX6_reads_45 : decode cX6_reads 45 = .ok (.aload_n 0, 1) := by decide +kernel
theorem dX6_reads_46 : decode cX6_reads 46 = .ok (.aload_n 0, 1) := by decide +kernel
theorem dX6_reads_47 : decode cX6_reads 47 = .ok (.iload_n 1, 1) := by decide +kernel
theorem dX6_reads_48 : decode cX6_reads 48 = .ok (.iconst 4, 1) := by decide +kernel
theorem dX6_reads_49 : decode cX6_reads 49 = .ok (.bipush 106, 2) := by decide +kernel
theorem dX6_reads_51 : decode cX6_reads 51 = .ok (.bipush 111, 2) := by decide +kernel
theorem dX6_reads_53 : decode cX6_reads 53 = .ok (.bipush 105, 2) := by decide +kernel
theorem dX6_reads_55 : decode cX6_reads 55 = .ok (.bipush 110, 2) := by decide +kernel
theorem dX6_reads_57 : decode cX6_reads 57 = .ok (.iconst 0, 1) := by decide +kernel
theorem dX6_reads_58 : decode cX6_reads 58 = .ok (.invokevirtual 201, 3) := by decide +kernel
theorem dX6_reads_61 : decode cX6_reads 61 = .ok (.ifCond .eq 7, 3) := by decide +kernel
theorem dX6_reads_64 : decode cX6_reads 64 = .ok (.iconst 1, 1) := by decide +kernel
theorem dX6_reads_65 : decode cX6_reads 65 = .ok (.goto 57, 3) := by decide +kernel
theorem dX6_reads_68 : decode cX6_reads 68 = .ok (.aload_n 0, 1) := by decide +kernel
theorem dX6_reads_69 : decode cX6_reads 69 = .ok (.iload_n 1, 1) := by decide +kernel
theorem dX6_reads_70 : decode cX6_reads 70 = .ok (.iconst 5, 1) := by decide +kernel
theorem dX6_reads_71 : decode cX6_reads 71 = .ok (.bipush 108, 2) := by decide +kernel
theorem dX6_reads_73 : decode cX6_reads 73 = .ok (.bipush 101, 2) := by decide +kernel
theorem dX6_reads_75 : decode cX6_reads 75 = .ok (.bipush 97, 2) := by decide +kernel
theorem dX6_reads_77 : decode cX6_reads 77 = .ok (.bipush 118, 2) := by decide +kernel
theorem dX6_reads_79 : decode cX6_reads 79 = .ok (.bipush 101, 2) := by decide +kernel
theorem dX6_reads_81 : decode cX6_reads 81 = .ok (.invokevirtual 201, 3) := by decide +kernel
theorem dX6_reads_84 : decode cX6_reads 84 = .ok (.ifCond .eq 7, 3) := by decide +kernel
theorem dX6_reads_87 : decode cX6_reads 87 = .ok (.iconst 2, 1) := by decide +kernel
theorem dX6_reads_88 : decode cX6_reads 88 = .ok (.goto 34, 3) := by decide +kernel
theorem dX6_reads_91 : decode cX6_reads 91 = .ok (.aload_n 0, 1) := by decide +kernel
theorem dX6_reads_92 : decode cX6_reads 92 = .ok (.iload_n 1, 1) := by decide +kernel
theorem dX6_reads_93 : decode cX6_reads 93 = .ok (.iconst 4, 1) := by decide +kernel
theorem dX6_reads_94 : decode cX6_reads 94 = .ok (.bipush 108, 2) := by decide +kernel
theorem dX6_reads_96 : decode cX6_reads 96 = .ok (.bipush 111, 2) := by decide +kernel
theorem dX6_reads_98 : decode cX6_reads 98 = .ok (.bipush 111, 2) := by decide +kernel
theorem dX6_reads_100 : decode cX6_reads 100 = .ok (.bipush 107, 2) := by decide +kernel
theorem dX6_reads_102 : decode cX6_reads 102 = .ok (.iconst 0, 1) := by decide +kernel
theorem dX6_reads_103 : decode cX6_reads 103 = .ok (.invokevirtual 201, 3) := by decide +kernel
theorem dX6_reads_106 : decode cX6_reads 106 = .ok (.ifCond .eq 7, 3) := by decide +kernel
theorem dX6_reads_109 : decode cX6_reads 109 = .ok (.iconst 3, 1) := by decide +kernel
theorem dX6_reads_110 : decode cX6_reads 110 = .ok (.goto 12, 3) := by decide +kernel
theorem dX6_reads_113 : decode cX6_reads 113 = .ok (.iload_n 2, 1) := by decide +kernel
theorem dX6_reads_114 : decode cX6_reads 114 = .ok (.ifCond .eq 7, 3) := by decide +kernel
theorem dX6_reads_117 : decode cX6_reads 117 = .ok (.iconst 4, 1) := by decide +kernel
theorem dX6_reads_118 : decode cX6_reads 118 = .ok (.goto 4, 3) := by decide +kernel
theorem dX6_reads_121 : decode cX6_reads 121 = .ok (.iconst 0, 1) := by decide +kernel
theorem dX6_reads_122 : decode cX6_reads 122 = .ok (.putfield 205, 3) := by decide +kernel
theorem dX6_reads_125 : decode cX6_reads 125 = .ok (.aload_n 0, 1) := by decide +kernel
theorem dX6_reads_126 : decode cX6_reads 126 = .ok (.getfield 205, 3) := by decide +kernel
theorem dX6_reads_129 : decode cX6_reads 129 = .ok (.ifCond .ne 10, 3) := by decide +kernel
theorem dX6_reads_132 : decode cX6_reads 132 = .ok (.aload_n 0, 1) := by decide +kernel
theorem dX6_reads_133 : decode cX6_reads 133 = .ok (.iload_n 1, 1) := by decide +kernel
theorem dX6_reads_134 : decode cX6_reads 134 = .ok (.putfield 190, 3) := by decide +kernel
theorem dX6_reads_137 : decode cX6_reads 137 = .ok (.iconst 0, 1) := by decide +kernel
theorem dX6_reads_138 : decode cX6_reads 138 = .ok (.ireturn, 1) := by decide +kernel
theorem dX6_reads_139 : decode cX6_reads 139 = .ok (.aload_n 0, 1) := by decide +kernel
theorem dX6_reads_140 : decode cX6_reads 140 = .ok (.getfield 205, 3) := by decide +kernel
theorem dX6_reads_143 : decode cX6_reads 143 = .ok (.iconst 1, 1) := by decide +kernel
theorem dX6_reads_144 : decode cX6_reads 144 = .ok (.if_icmp .ne 7, 3) := by decide +kernel
theorem dX6_reads_147 : decode cX6_reads 147 = .ok (.iconst 3, 1) := by decide +kernel
theorem dX6_reads_148 : decode cX6_reads 148 = .ok (.goto 16, 3) := by decide +kernel
theorem dX6_reads_151 : decode cX6_reads 151 = .ok (.aload_n 0, 1) := by decide +kernel
theorem dX6_reads_152 : decode cX6_reads 152 = .ok (.getfield 205, 3) := by decide +kernel
theorem dX6_reads_155 : decode cX6_reads 155 = .ok (.iconst 3, 1) := by decide +kernel
theorem dX6_reads_156 : decode cX6_reads 156 = .ok (.if_icmp .ne 7, 3) := by decide +kernel
theorem dX6_reads_159 : decode cX6_reads 159 = .ok (.iconst 2, 1) := by decide +kernel
theorem dX6_reads_160 : decode cX6_reads 160 = .ok (.goto 4, 3) := by decide +kernel
theorem dX6_reads_163 : decode cX6_reads 163 = .ok (.iconst 1, 1) := by decide +kernel
theorem dX6_reads_164 : decode cX6_reads 164 = .ok (.istore_n 3, 1) := by decide +kernel
theorem dX6_reads_165 : decode cX6_reads 165 = .ok (.iconst 0, 1) := by decide +kernel
theorem dX6_reads_166 : decode cX6_reads 166 = .ok (.istore 4, 2) := by decide +kernel
theorem dX6_reads_168 : decode cX6_reads 168 = .ok (.iload 4, 2) := by decide +kernel
theorem dX6_reads_170 : decode cX6_reads 170 = .ok (.iload_n 3, 1) := by decide +kernel
theorem dX6_reads_171 : decode cX6_reads 171 = .ok (.if_icmp .ge 33, 3) := by decide +kernel
theorem dX6_reads_174 : decode cX6_reads 174 = .ok (.aload_n 0, 1) := by decide +kernel
theorem dX6_reads_175 : decode cX6_reads 175 = .ok (.getfield 25, 3) := by decide +kernel
theorem dX6_reads_178 : decode cX6_reads 178 = .ok (.iload 4, 2) := by decide +kernel
theorem dX6_reads_180 : decode cX6_reads 180 = .ok (.aload_n 0, 1) := by decide +kernel
theorem dX6_reads_181 : decode cX6_reads 181 = .ok (.invokevirtual 208, 3) := by decide +kernel
theorem dX6_reads_184 : decode cX6_reads 184 = .ok (.iastore, 1) := by decide +kernel
theorem dX6_reads_185 : decode cX6_reads 185 = .ok (.aload_n 0, 1) := by decide +kernel
theorem dX6_reads_186 : decode cX6_reads 186 = .ok (.getfield 25, 3) := by decide +kernel
theorem dX6_reads_189 : decode cX6_reads 189 = .ok (.iload 4, 2) := by decide +kernel
theorem dX6_reads_191 : decode cX6_reads 191 = .ok (.iaload, 1) := by decide +kernel
theorem dX6_reads_192 : decode cX6_reads 192 = .ok (.iconst (-1), 1) := by decide +kernel
theorem dX6_reads_193 : decode cX6_reads 193 = .ok (.if_icmp .ne 5, 3) := by decide +kernel
theorem dX6_reads_196 : decode cX6_reads 196 = .ok (.iconst 0, 1) := by decide +kernel
theorem dX6_reads_197 : decode cX6_reads 197 = .ok (.ireturn, 1) := by decide +kernel
theorem dX6_reads_198 : decode cX6_reads 198 = .ok (.iinc 4 1, 3) := by decide +kernel
theorem dX6_reads_201 : decode cX6_reads 201 = .ok (.goto (-33), 3) := by decide +kernel
theorem dX6_reads_204 : decode cX6_reads 204 = .ok (.aload_n 0, 1) := by decide +kernel
theorem dX6_reads_205 : decode cX6_reads 205 = .ok (.invokevirtual 197, 3) := by decide +kernel
theorem dX6_reads_208 : decode cX6_reads 208 = .ok (.istore 4, 2) := by decide +kernel
theorem dX6_reads_210 : decode cX6_reads 210 = .ok (.aload_n 0, 1) := by decide +kernel
theorem dX6_reads_211 : decode cX6_reads 211 = .ok (.bipush 59, 2) := by decide +kernel
theorem dX6_reads_213 : decode cX6_reads 213 = .ok (.bipush 59, 2) := by decide +kernel
theorem dX6_reads_215 : decode cX6_reads 215 = .ok (.invokevirtual 193, 3) := by decide +kernel
theorem dX6_reads_218 : decode cX6_reads 218 = .ok (.istore 5, 2) := by decide +kernel
theorem dX6_reads_220 : decode cX6_reads 220 = .ok (.aload_n 0, 1) := by decide +kernel
theorem dX6_reads_221 : decode cX6_reads 221 = .ok (.dup, 1) := by decide +kernel
theorem dX6_reads_222 : decode cX6_reads 222 = .ok (.getfield 190, 3) := by decide +kernel
theorem dX6_reads_225 : decode cX6_reads 225 = .ok (.iload 5, 2) := by decide +kernel
theorem dX6_reads_227 : decode cX6_reads 227 = .ok (.ifCond .eq 7, 3) := by decide +kernel
theorem dX6_reads_230 : decode cX6_reads 230 = .ok (.iconst 1, 1) := by decide +kernel
theorem dX6_reads_231 : decode cX6_reads 231 = .ok (.goto 4, 3) := by decide +kernel
theorem dX6_reads_234 : decode cX6_reads 234 = .ok (.iconst 0, 1) := by decide +kernel
theorem dX6_reads_235 : decode cX6_reads 235 = .ok (.iadd, 1) := by decide +kernel
theorem dX6_reads_236 : decode cX6_reads 236 = .ok (.putfield 190, 3) := by decide +kernel
theorem dX6_reads_239 : decode cX6_reads 239 = .ok (.iload 5, 2) := by decide +kernel
theorem dX6_reads_241 : decode cX6_reads 241 = .ok (.ireturn, 1) := by decide +kernel
set_option maxRecDepth 20000 in
theorem ggX6_does_X6_memberMany : GoodIn wsX6_does wsX6_memberMany := goodIn_r _ [7, 8, 9, 10, 6, 11, 140, 141, 142, 143, 144, 145, 146, 147, 148, 149, 150, 151, 152, 153, 154] (by decide +kernel) (by decide +kernel)
set_option maxRecDepth 20000 in
theorem gX6_does_X6_memberMany : GoodIn wsX6_does (wsV RX6 142 RX6 yX6_memberMany wsX6_memberMany) := goodIn_app (goodIn_of _ (by decide +kernel)) ggX6_does_X6_memberMany
set_option maxRecDepth 20000 in
theorem ggX6_does_X6_badAdmission : GoodIn wsX6_does wsX6_badAdmission := goodIn_r _ [15, 16, 17, 18, 6, 19, 20, 21, 22, 23, 24, 25, 26, 27, 28, 29, 30, 31, 32, 33, 8, 9, 10, 11, 3, 4, 5, 7, 34, 35, 36, 37, 38, 39, 40, 41, 42, 43, 44, 45, 46, 47, 48, 49, 50, 51, 52, 53, 54, 55, 56, 57, 140, 141, 142, 143, 144, 145, 146, 147, 148, 149, 150, 151, 152, 153, 154] (by decide +kernel) (by decide +kernel)
set_option maxRecDepth 20000 in
theorem gX6_does_X6_badAdmission : GoodIn wsX6_does (wsV RX6 160 RX6 yX6_badAdmission wsX6_badAdmission) := goodIn_app (goodIn_of _ (by decide +kernel)) ggX6_does_X6_badAdmission
set_option maxRecDepth 20000 in
theorem ggX6_does_X6_joins : GoodIn wsX6_does wsX6_joins := goodIn_r _ [61, 8, 9, 10, 6, 11, 62, 63, 64, 65, 30, 31, 32, 33, 66, 67, 68, 69, 70, 71, 72, 73, 74, 75, 76, 77, 78, 79, 80, 81, 82, 83, 84, 85, 86, 87, 88, 26, 27, 28, 29, 20, 21, 22, 23, 24, 25, 89, 90, 91, 92, 93, 94, 95, 96, 97, 98, 99, 100, 101, 102, 103, 104, 105, 106, 107, 108, 109, 110, 111, 112, 113, 114, 115, 116, 140, 141, 142, 143, 144, 145, 146, 147, 148, 149, 150, 151, 152, 153, 154] (by decide +kernel) (by decide +kernel)
set_option maxRecDepth 20000 in
theorem gX6_does_X6_joins : GoodIn wsX6_does (wsV RX6 157 RX6 yX6_joins wsX6_joins) := goodIn_app (goodIn_of _ (by decide +kernel)) ggX6_does_X6_joins
set_option maxRecDepth 20000 in
theorem ggX6_does_X6_badMember : GoodIn wsX6_does wsX6_badMember := goodIn_r _ [120, 20, 21, 6, 22, 23, 24, 25, 26, 27, 28, 29, 30, 31, 32, 33, 8, 9, 10, 11, 140, 141, 142, 143, 144, 145, 146, 147, 148, 149, 150, 151, 152, 153, 154] (by decide +kernel) (by decide +kernel)
set_option maxRecDepth 20000 in
theorem gX6_does_X6_badMember : GoodIn wsX6_does (wsV RX6 163 RX6 yX6_badMember wsX6_badMember) := goodIn_app (goodIn_of _ (by decide +kernel)) ggX6_does_X6_badMember
set_option maxRecDepth 20000 in
theorem ggX6_does_X6_placeOf : GoodIn wsX6_does wsX6_placeOf := goodIn_r _ [33, 8, 9, 10, 6, 11, 140, 141, 142, 143, 144, 145, 146, 147, 148, 149, 150, 151, 152, 153, 154] (by decide +kernel) (by decide +kernel)
set_option maxRecDepth 20000 in
theorem gX6_does_X6_placeOf : GoodIn wsX6_does (wsV RX6 50 RX6 yX6_placeOf wsX6_placeOf) := goodIn_app (goodIn_of _ (by decide +kernel)) ggX6_does_X6_placeOf
set_option maxRecDepth 20000 in
theorem ggX6_does_X6_ends : GoodIn wsX6_does wsX6_ends := goodIn_r _ [124, 8, 140, 141, 142, 143, 144, 145, 146, 147, 148, 149, 150, 151, 152, 153, 154] (by decide +kernel) (by decide +kernel)
set_option maxRecDepth 20000 in
theorem gX6_does_X6_ends : GoodIn wsX6_does (wsV RX6 133 RX6 yX6_ends wsX6_ends) := goodIn_app (goodIn_of _ (by decide +kernel)) ggX6_does_X6_ends
set_option maxRecDepth 20000 in
theorem ggX6_does_X6_badLook : GoodIn wsX6_does wsX6_badLook := goodIn_r _ [128, 20, 21, 6, 22, 23, 24, 25, 26, 27, 28, 29, 30, 31, 32, 33, 8, 9, 10, 11, 140, 141, 142, 143, 144, 145, 146, 147, 148, 149, 150, 151, 152, 153, 154] (by decide +kernel) (by decide +kernel)
set_option maxRecDepth 20000 in
theorem gX6_does_X6_badLook : GoodIn wsX6_does (wsV RX6 166 RX6 yX6_badLook wsX6_badLook) := goodIn_app (goodIn_of _ (by decide +kernel)) ggX6_does_X6_badLook
set_option maxRecDepth 20000 in
theorem ggX6_does_X6_looks : GoodIn wsX6_does wsX6_looks := goodIn_r _ [92, 93, 94, 95, 8, 96, 30, 31, 32, 6, 33, 9, 10, 11, 97, 98, 99, 100, 66, 67, 68, 69, 70, 71, 72, 101, 102, 103, 104, 105, 106, 107, 108, 109, 110, 111, 112, 73, 74, 75, 76, 62, 63, 64, 65, 77, 78, 79, 80, 81, 82, 83, 84, 85, 86, 87, 88, 26, 27, 28, 29, 20, 21, 22, 23, 24, 25, 140, 141, 142, 143, 144, 145, 146, 147, 148, 149, 150, 151, 152, 153, 154] (by decide +kernel) (by decide +kernel)
set_option maxRecDepth 20000 in
theorem gX6_does_X6_looks : GoodIn wsX6_does (wsV RX6 148 RX6 yX6_looks wsX6_looks) := goodIn_app (goodIn_of _ (by decide +kernel)) ggX6_does_X6_looks
set_option maxRecDepth 20000 in
theorem ggX6_does_X6_areTicks : GoodIn wsX6_does wsX6_areTicks := goodIn_r _ [131, 23, 24, 6, 25] (by decide +kernel) (by decide +kernel)
set_option maxRecDepth 20000 in
theorem gX6_does_X6_areTicks : GoodIn wsX6_does (va_wsS RX6 136 yX6_areTicks wsX6_areTicks) := goodIn_app (goodIn_of _ (by decide +kernel)) ggX6_does_X6_areTicks
set_option maxRecDepth 20000 in
theorem ggX6_does_X6_passes : GoodIn wsX6_does wsX6_passes := goodIn_r _ [135, 8, 47, 48, 49, 6, 50, 136, 137, 138, 139, 9, 10, 11, 121, 122, 123, 124, 140, 141, 142, 143, 144, 145, 146, 147, 148, 149, 150, 151, 152, 153, 154] (by decide +kernel) (by decide +kernel)
set_option maxRecDepth 20000 in
theorem gX6_does_X6_passes : GoodIn wsX6_does (wsV RX6 139 RX6 yX6_passes wsX6_passes) := goodIn_app (goodIn_of _ (by decide +kernel)) ggX6_does_X6_passes
theorem dX6_does_0 : decode cX6_does 0 = .ok (.aload_n 0, 1) := by decide +kernel
theorem dX6_does_1 : decode cX6_does 1 = .ok (.getfield 25, 3) := by decide +kernel
theorem dX6_does_4 : decode cX6_does 4 = .ok (.iconst 0, 1) := by decide +kernel
theorem dX6_does_5 : decode cX6_does 5 = .ok (.iaload, 1) := by decide +kernel
theorem dX6_does_6 : decode cX6_does 6 = .ok (.istore_n 1, 1) := by decide +kernel
theorem dX6_does_7 : decode cX6_does 7 = .ok (.iconst 0, 1) := by decide +kernel
theorem dX6_does_8 : decode cX6_does 8 = .ok (.istore_n 2, 1) := by decide +kernel
theorem dX6_does_9 : decode cX6_does 9 = .ok (.aload_n 0, 1) := by decide +kernel
theorem dX6_does_10 : decode cX6_does 10 = .ok (.getfield 205, 3) := by decide +kernel
theorem dX6_does_13 : decode cX6_does 13 = .ok (.tableswitch 128 1 3 #[27, 77, 98], 27) := by decide +kernel
theorem dX6_does_40 : decode cX6_does 40 = .ok (.aload_n 0, 1) := by decide +kernel
theorem dX6_does_41 : decode cX6_does 41 = .ok (.invokevirtual 142, 3) := by decide +kernel
theorem dX6_does_44 : decode cX6_does 44 = .ok (.ifCond .ne 7, 3) := by decide +kernel
theorem dX6_does_47 : decode cX6_does 47 = .ok (.iconst (-1), 1) := by decide +kernel
theorem dX6_does_48 : decode cX6_does 48 = .ok (.goto 9, 3) := by decide +kernel
theorem dX6_does_51 : decode cX6_does 51 = .ok (.aload_n 0, 1) := by decide +kernel
theorem dX6_does_52 : decode cX6_does 52 = .ok (.getfield 25, 3) := by decide +kernel
theorem dX6_does_55 : decode cX6_does 55 = .ok (.iconst 2, 1) := by decide +kernel
theorem dX6_does_56 : decode cX6_does 56 = .ok (.iaload, 1) := by decide +kernel
theorem dX6_does_57 : decode cX6_does 57 = .ok (.istore_n 3, 1) := by decide +kernel
theorem dX6_does_58 : decode cX6_does 58 = .ok (.aload_n 0, 1) := by decide +kernel
theorem dX6_does_59 : decode cX6_does 59 = .ok (.iload_n 1, 1) := by decide +kernel
theorem dX6_does_60 : decode cX6_does 60 = .ok (.aload_n 0, 1) := by decide +kernel
theorem dX6_does_61 : decode cX6_does 61 = .ok (.getfield 25, 3) := by decide +kernel
theorem dX6_does_64 : decode cX6_does 64 = .ok (.iconst 1, 1) := by decide +kernel
theorem dX6_does_65 : decode cX6_does 65 = .ok (.iaload, 1) := by decide +kernel
theorem dX6_does_66 : decode cX6_does 66 = .ok (.iload_n 3, 1) := by decide +kernel
theorem dX6_does_67 : decode cX6_does 67 = .ok (.invokevirtual 160, 3) := by decide +kernel
theorem dX6_does_70 : decode cX6_does 70 = .ok (.ifCond .le 5, 3) := by decide +kernel
theorem dX6_does_73 : decode cX6_does 73 = .ok (.iconst 0, 1) := by decide +kernel
theorem dX6_does_74 : decode cX6_does 74 = .ok (.ireturn, 1) := by decide +kernel
theorem dX6_does_75 : decode cX6_does 75 = .ok (.aload_n 0, 1) := by decide +kernel
theorem dX6_does_76 : decode cX6_does 76 = .ok (.iload_n 1, 1) := by decide +kernel
theorem dX6_does_77 : decode cX6_does 77 = .ok (.aload_n 0, 1) := by decide +kernel
theorem dX6_does_78 : decode cX6_does 78 = .ok (.getfield 25, 3) := by decide +kernel
theorem dX6_does_81 : decode cX6_does 81 = .ok (.iconst 1, 1) := by decide +kernel
theorem dX6_does_82 : decode cX6_does 82 = .ok (.iaload, 1) := by decide +kernel
theorem dX6_does_83 : decode cX6_does 83 = .ok (.iload_n 3, 1) := by decide +kernel
theorem dX6_does_84 : decode cX6_does 84 = .ok (.invokevirtual 157, 3) := by decide +kernel
theorem dX6_does_87 : decode cX6_does 87 = .ok (.istore_n 2, 1) := by decide +kernel
theorem dX6_does_88 : decode cX6_does 88 = .ok (.iconst 1, 1) := by decide +kernel
theorem dX6_does_89 : decode cX6_does 89 = .ok (.ireturn, 1) := by decide +kernel
theorem dX6_does_90 : decode cX6_does 90 = .ok (.aload_n 0, 1) := by decide +kernel
theorem dX6_does_91 : decode cX6_does 91 = .ok (.iload_n 1, 1) := by decide +kernel
theorem dX6_does_92 : decode cX6_does 92 = .ok (.invokevirtual 163, 3) := by decide +kernel
theorem dX6_does_95 : decode cX6_does 95 = .ok (.ifCond .le 5, 3) := by decide +kernel
theorem dX6_does_98 : decode cX6_does 98 = .ok (.iconst 0, 1) := by decide +kernel
theorem dX6_does_99 : decode cX6_does 99 = .ok (.ireturn, 1) := by decide +kernel
theorem dX6_does_100 : decode cX6_does 100 = .ok (.aload_n 0, 1) := by decide +kernel
theorem dX6_does_101 : decode cX6_does 101 = .ok (.aload_n 0, 1) := by decide +kernel
theorem dX6_does_102 : decode cX6_does 102 = .ok (.iload_n 1, 1) := by decide +kernel
theorem dX6_does_103 : decode cX6_does 103 = .ok (.invokevirtual 50, 3) := by decide +kernel
theorem dX6_does_106 : decode cX6_does 106 = .ok (.invokevirtual 133, 3) := by decide +kernel
theorem dX6_does_109 : decode cX6_does 109 = .ok (.iconst 1, 1) := by decide +kernel
theorem dX6_does_110 : decode cX6_does 110 = .ok (.ireturn, 1) := by decide +kernel
theorem dX6_does_111 : decode cX6_does 111 = .ok (.aload_n 0, 1) := by decide +kernel
theorem dX6_does_112 : decode cX6_does 112 = .ok (.iload_n 1, 1) := by decide +kernel
theorem dX6_does_113 : decode cX6_does 113 = .ok (.aload_n 0, 1) := by decide +kernel
theorem dX6_does_114 : decode cX6_does 114 = .ok (.getfield 25, 3) := by decide +kernel
theorem dX6_does_117 : decode cX6_does 117 = .ok (.iconst 1, 1) := by decide +kernel
theorem dX6_does_118 : decode cX6_does 118 = .ok (.iaload, 1) := by decide +kernel
theorem dX6_does_119 : decode cX6_does 119 = .ok (.invokevirtual 166, 3) := by decide +kernel
theorem dX6_does_122 : decode cX6_does 122 = .ok (.ifCond .le 5, 3) := by decide +kernel
theorem dX6_does_125 : decode cX6_does 125 = .ok (.iconst 0, 1) := by decide +kernel
theorem dX6_does_126 : decode cX6_does 126 = .ok (.ireturn, 1) := by decide +kernel
theorem dX6_does_127 : decode cX6_does 127 = .ok (.aload_n 0, 1) := by decide +kernel
theorem dX6_does_128 : decode cX6_does 128 = .ok (.iload_n 1, 1) := by decide +kernel
theorem dX6_does_129 : decode cX6_does 129 = .ok (.aload_n 0, 1) := by decide +kernel
theorem dX6_does_130 : decode cX6_does 130 = .ok (.getfield 25, 3) := by decide +kernel
theorem dX6_does_133 : decode cX6_does 133 = .ok (.iconst 1, 1) := by decide +kernel
theorem dX6_does_134 : decode cX6_does 134 = .ok (.iaload, 1) := by decide +kernel
theorem dX6_does_135 : decode cX6_does 135 = .ok (.invokevirtual 148, 3) := by decide +kernel
theorem dX6_does_138 : decode cX6_does 138 = .ok (.istore_n 2, 1) := by decide +kernel
theorem dX6_does_139 : decode cX6_does 139 = .ok (.iconst 1, 1) := by decide +kernel
theorem dX6_does_140 : decode cX6_does 140 = .ok (.ireturn, 1) := by decide +kernel
theorem dX6_does_141 : decode cX6_does 141 = .ok (.iload_n 1, 1) := by decide +kernel
theorem dX6_does_142 : decode cX6_does 142 = .ok (.invokestatic 136, 3) := by decide +kernel
theorem dX6_does_145 : decode cX6_does 145 = .ok (.ifCond .ne 5, 3) := by decide +kernel
theorem dX6_does_148 : decode cX6_does 148 = .ok (.iconst 0, 1) := by decide +kernel
theorem dX6_does_149 : decode cX6_does 149 = .ok (.ireturn, 1) := by decide +kernel
theorem dX6_does_150 : decode cX6_does 150 = .ok (.aload_n 0, 1) := by decide +kernel
theorem dX6_does_151 : decode cX6_does 151 = .ok (.iload_n 1, 1) := by decide +kernel
theorem dX6_does_152 : decode cX6_does 152 = .ok (.invokevirtual 139, 3) := by decide +kernel
theorem dX6_does_155 : decode cX6_does 155 = .ok (.istore_n 2, 1) := by decide +kernel
theorem dX6_does_156 : decode cX6_does 156 = .ok (.iconst 1, 1) := by decide +kernel
theorem dX6_does_157 : decode cX6_does 157 = .ok (.ireturn, 1) := by decide +kernel
set_option maxRecDepth 20000 in
theorem ggX6_run_X6_skips : GoodIn wsX6_run wsX6_skips := goodIn_r _ [8, 2, 9, 10, 11, 7, 12, 3, 13, 14, 15, 16, 174, 175, 176, 177, 178, 179, 180, 181, 182, 183, 184, 185, 186, 187, 188] (by decide +kernel) (by decide +kernel)
set_option maxRecDepth 20000 in
theorem gX6_run_X6_skips : GoodIn wsX6_run (wsV RX6 197 RX6 yX6_skips wsX6_skips) := goodIn_app (goodIn_of _ (by decide +kernel)) ggX6_run_X6_skips
set_option maxRecDepth 20000 in
theorem ggX6_run_X6_reads : GoodIn wsX6_run wsX6_reads := goodIn_r _ [20, 2, 21, 22, 9, 10, 11, 7, 12, 3, 13, 14, 15, 16, 23, 24, 25, 26, 27, 28, 29, 30, 4, 5, 6, 8, 174, 175, 176, 177, 178, 179, 180, 181, 182, 183, 184, 185, 186, 187, 188] (by decide +kernel) (by decide +kernel)
set_option maxRecDepth 20000 in
theorem gX6_run_X6_reads : GoodIn wsX6_run (wsV RX6 211 RX6 yX6_reads wsX6_reads) := goodIn_app (goodIn_of _ (by decide +kernel)) ggX6_run_X6_reads
set_option maxRecDepth 20000 in
theorem ggX6_run_X6_saves : GoodIn wsX6_run wsX6_saves := goodIn_r _ [34, 35, 36, 37, 174, 175, 176, 177, 178, 179, 180, 181, 182, 183, 184, 185, 186, 187, 188] (by decide +kernel) (by decide +kernel)
set_option maxRecDepth 20000 in
theorem gX6_run_X6_saves : GoodIn wsX6_run (wsV RX6 127 RX6 yX6_saves wsX6_saves) := goodIn_app (goodIn_of _ (by decide +kernel)) ggX6_run_X6_saves
set_option maxRecDepth 20000 in
theorem ggX6_run_X6_does : GoodIn wsX6_run wsX6_does := goodIn_r _ [41, 22, 21, 42, 43, 44, 7, 45, 37, 46, 47, 48, 49, 50, 51, 52, 53, 54, 55, 56, 57, 58, 59, 14, 15, 16, 60, 61, 62, 63, 64, 65, 66, 67, 68, 69, 70, 71, 72, 73, 74, 75, 76, 77, 78, 79, 80, 81, 82, 83, 84, 85, 86, 87, 88, 89, 90, 91, 92, 93, 94, 95, 96, 97, 98, 99, 100, 101, 102, 103, 104, 105, 106, 107, 108, 109, 110, 111, 112, 113, 114, 115, 116, 117, 118, 119, 120, 121, 122, 123, 124, 125, 126, 127, 128, 129, 130, 131, 132, 133, 134, 135, 136, 137, 138, 139, 140, 141, 142, 143, 144, 145, 146, 147, 148, 149, 150, 151, 152, 153, 154, 155, 156, 157, 158, 159, 160, 161, 162, 163, 164, 165, 166, 167, 168, 169, 170, 171, 172, 173, 174, 175, 176, 177, 178, 179, 180, 181, 182, 183, 184, 185, 186, 187, 188] (by decide +kernel) (by decide +kernel)
set_option maxRecDepth 20000 in
theorem gX6_run_X6_does : GoodIn wsX6_run (wsV RX6 214 RX6 yX6_does wsX6_does) := goodIn_app (goodIn_of _ (by decide +kernel)) ggX6_run_X6_does
theorem dX6_run_0 : decode cX6_run 0 = .ok (.aload_n 0, 1) := by decide +kernel
theorem dX6_run_1 : decode cX6_run 1 = .ok (.iconst 0, 1) := by decide +kernel
theorem dX6_run_2 : decode cX6_run 2 = .ok (.putfield 28, 3) := by decide +kernel
theorem dX6_run_5 : decode cX6_run 5 = .ok (.aload_n 0, 1) := by decide +kernel
theorem dX6_run_6 : decode cX6_run 6 = .ok (.iconst 0, 1) := by decide +kernel
theorem dX6_run_7 : decode cX6_run 7 = .ok (.putfield 190, 3) := by decide +kernel
theorem dX6_run_10 : decode cX6_run 10 = .ok (.aload_n 0, 1) := by decide +kernel
theorem dX6_run_11 : decode cX6_run 11 = .ok (.invokevirtual 197, 3) := by decide +kernel
theorem dX6_run_14 : decode cX6_run 14 = .ok (.istore_n 1, 1) := by decide +kernel
theorem dX6_run_15 : decode cX6_run 15 = .ok (.aload_n 0, 1) := by decide +kernel
theorem dX6_run_16 : decode cX6_run 16 = .ok (.getfield 190, 3) := by decide +kernel
theorem dX6_run_19 : decode cX6_run 19 = .ok (.aload_n 0, 1) := by decide +kernel
theorem dX6_run_20 : decode cX6_run 20 = .ok (.getfield 187, 3) := by decide +kernel
theorem dX6_run_23 : decode cX6_run 23 = .ok (.if_icmp .ge 26, 3) := by decide +kernel
theorem dX6_run_26 : decode cX6_run 26 = .ok (.aload_n 0, 1) := by decide +kernel
theorem dX6_run_27 : decode cX6_run 27 = .ok (.invokevirtual 211, 3) := by decide +kernel
theorem dX6_run_30 : decode cX6_run 30 = .ok (.ifCond .ne 11, 3) := by decide +kernel
theorem dX6_run_33 : decode cX6_run 33 = .ok (.bipush (-10), 2) := by decide +kernel
theorem dX6_run_35 : decode cX6_run 35 = .ok (.aload_n 0, 1) := by decide +kernel
theorem dX6_run_36 : decode cX6_run 36 = .ok (.getfield 190, 3) := by decide +kernel
theorem dX6_run_39 : decode cX6_run 39 = .ok (.isub, 1) := by decide +kernel
theorem dX6_run_40 : decode cX6_run 40 = .ok (.ireturn, 1) := by decide +kernel
theorem dX6_run_41 : decode cX6_run 41 = .ok (.aload_n 0, 1) := by decide +kernel
theorem dX6_run_42 : decode cX6_run 42 = .ok (.invokevirtual 197, 3) := by decide +kernel
theorem dX6_run_45 : decode cX6_run 45 = .ok (.istore_n 1, 1) := by decide +kernel
theorem dX6_run_46 : decode cX6_run 46 = .ok (.goto (-31), 3) := by decide +kernel
theorem dX6_run_49 : decode cX6_run 49 = .ok (.aload_n 0, 1) := by decide +kernel
theorem dX6_run_50 : decode cX6_run 50 = .ok (.invokevirtual 127, 3) := by decide +kernel
theorem dX6_run_53 : decode cX6_run 53 = .ok (.aload_n 0, 1) := by decide +kernel
theorem dX6_run_54 : decode cX6_run 54 = .ok (.iconst 0, 1) := by decide +kernel
theorem dX6_run_55 : decode cX6_run 55 = .ok (.putfield 190, 3) := by decide +kernel
theorem dX6_run_58 : decode cX6_run 58 = .ok (.iconst 0, 1) := by decide +kernel
theorem dX6_run_59 : decode cX6_run 59 = .ok (.istore_n 2, 1) := by decide +kernel
theorem dX6_run_60 : decode cX6_run 60 = .ok (.iconst 1, 1) := by decide +kernel
theorem dX6_run_61 : decode cX6_run 61 = .ok (.istore_n 3, 1) := by decide +kernel
theorem dX6_run_62 : decode cX6_run 62 = .ok (.aload_n 0, 1) := by decide +kernel
theorem dX6_run_63 : decode cX6_run 63 = .ok (.invokevirtual 197, 3) := by decide +kernel
theorem dX6_run_66 : decode cX6_run 66 = .ok (.istore_n 1, 1) := by decide +kernel
theorem dX6_run_67 : decode cX6_run 67 = .ok (.aload_n 0, 1) := by decide +kernel
theorem dX6_run_68 : decode cX6_run 68 = .ok (.getfield 190, 3) := by decide +kernel
theorem dX6_run_71 : decode cX6_run 71 = .ok (.aload_n 0, 1) := by decide +kernel
theorem dX6_run_72 : decode cX6_run 72 = .ok (.getfield 187, 3) := by decide +kernel
theorem dX6_run_75 : decode cX6_run 75 = .ok (.if_icmp .ge 47, 3) := by decide +kernel
theorem dX6_run_78 : decode cX6_run 78 = .ok (.iload_n 3, 1) := by decide +kernel
theorem dX6_run_79 : decode cX6_run 79 = .ok (.ifCond .eq 43, 3) := by decide +kernel
theorem dX6_run_82 : decode cX6_run 82 = .ok (.aload_n 0, 1) := by decide +kernel
theorem dX6_run_83 : decode cX6_run 83 = .ok (.invokevirtual 211, 3) := by decide +kernel
theorem dX6_run_86 : decode cX6_run 86 = .ok (.ifCond .eq 14, 3) := by decide +kernel
theorem dX6_run_89 : decode cX6_run 89 = .ok (.aload_n 0, 1) := by decide +kernel
theorem dX6_run_90 : decode cX6_run 90 = .ok (.invokevirtual 214, 3) := by decide +kernel
theorem dX6_run_93 : decode cX6_run 93 = .ok (.ifCond .eq 7, 3) := by decide +kernel
theorem dX6_run_96 : decode cX6_run 96 = .ok (.iconst 1, 1) := by decide +kernel
theorem dX6_run_97 : decode cX6_run 97 = .ok (.goto 4, 3) := by decide +kernel
theorem dX6_run_100 : decode cX6_run 100 = .ok (.iconst 0, 1) := by decide +kernel
theorem dX6_run_101 : decode cX6_run 101 = .ok (.istore_n 3, 1) := by decide +kernel
theorem dX6_run_102 : decode cX6_run 102 = .ok (.iload_n 2, 1) := by decide +kernel
theorem dX6_run_103 : decode cX6_run 103 = .ok (.iload_n 3, 1) := by decide +kernel
theorem dX6_run_104 : decode cX6_run 104 = .ok (.ifCond .eq 7, 3) := by decide +kernel
theorem dX6_run_107 : decode cX6_run 107 = .ok (.iconst 1, 1) := by decide +kernel
theorem dX6_run_108 : decode cX6_run 108 = .ok (.goto 4, 3) := by decide +kernel
theorem dX6_run_111 : decode cX6_run 111 = .ok (.iconst 0, 1) := by decide +kernel
theorem dX6_run_112 : decode cX6_run 112 = .ok (.iadd, 1) := by decide +kernel
theorem dX6_run_113 : decode cX6_run 113 = .ok (.istore_n 2, 1) := by decide +kernel
theorem dX6_run_114 : decode cX6_run 114 = .ok (.aload_n 0, 1) := by decide +kernel
theorem dX6_run_115 : decode cX6_run 115 = .ok (.invokevirtual 197, 3) := by decide +kernel
theorem dX6_run_118 : decode cX6_run 118 = .ok (.istore_n 1, 1) := by decide +kernel
theorem dX6_run_119 : decode cX6_run 119 = .ok (.goto (-52), 3) := by decide +kernel
theorem dX6_run_122 : decode cX6_run 122 = .ok (.iload_n 2, 1) := by decide +kernel
theorem dX6_run_123 : decode cX6_run 123 = .ok (.ireturn, 1) := by decide +kernel
theorem dX6_mix_0 : decode cX6_mix 0 = .ok (.aload_n 0, 1) := by decide +kernel
theorem dX6_mix_1 : decode cX6_mix 1 = .ok (.ldc2_w 217, 3) := by decide +kernel
theorem dX6_mix_4 : decode cX6_mix 4 = .ok (.aload_n 0, 1) := by decide +kernel
theorem dX6_mix_5 : decode cX6_mix 5 = .ok (.getfield 219, 3) := by decide +kernel
theorem dX6_mix_8 : decode cX6_mix 8 = .ok (.lmul, 1) := by decide +kernel
theorem dX6_mix_9 : decode cX6_mix 9 = .ok (.iload_n 1, 1) := by decide +kernel
theorem dX6_mix_10 : decode cX6_mix 10 = .ok (.i2l, 1) := by decide +kernel
theorem dX6_mix_11 : decode cX6_mix 11 = .ok (.ladd, 1) := by decide +kernel
theorem dX6_mix_12 : decode cX6_mix 12 = .ok (.putfield 219, 3) := by decide +kernel
theorem dX6_mix_15 : decode cX6_mix 15 = .ok (.return_, 1) := by decide +kernel
set_option maxRecDepth 20000 in
theorem ggX6_mixMember_X6_placeOf : GoodIn wsX6_mixMember wsX6_placeOf := goodIn_r _ [6, 1, 7, 8, 5, 9, 35, 36, 37, 38, 39, 40, 41, 42, 43, 44, 45, 46, 47, 48, 49] (by decide +kernel) (by decide +kernel)
set_option maxRecDepth 20000 in
theorem gX6_mixMember_X6_placeOf : GoodIn wsX6_mixMember (wsV RX6 50 RX6 yX6_placeOf wsX6_placeOf) := goodIn_app (goodIn_of _ (by decide +kernel)) ggX6_mixMember_X6_placeOf
set_option maxRecDepth 20000 in
theorem ggX6_mixMember_X6_mix : GoodIn wsX6_mixMember wsX6_mix := goodIn_r _ [13, 14, 15, 35, 36, 37, 38, 39, 40, 41, 42, 43, 44, 45, 46, 47, 48, 49] (by decide +kernel) (by decide +kernel)
set_option maxRecDepth 20000 in
theorem gX6_mixMember_X6_mix : GoodIn wsX6_mixMember (wsV RX6 223 RX6 yX6_mix wsX6_mix) := goodIn_app (goodIn_of _ (by decide +kernel)) ggX6_mixMember_X6_mix
set_option maxRecDepth 20000 in
theorem ggX6_mixMember_X6_tellMember : GoodIn wsX6_mixMember wsX6_tellMember := goodIn_r _ [19, 1, 2, 3, 4, 5, 6, 7, 8, 9, 20, 21, 22, 23, 24, 25, 26, 27, 28, 29, 30, 31, 32, 33, 34, 35, 36, 37, 38, 39, 40, 41, 42, 43, 44, 45, 46, 47, 48, 49] (by decide +kernel) (by decide +kernel)
set_option maxRecDepth 20000 in
theorem gX6_mixMember_X6_tellMember : GoodIn wsX6_mixMember (wsV RX6 178 RX6 yX6_tellMember wsX6_tellMember) := goodIn_app (goodIn_of _ (by decide +kernel)) ggX6_mixMember_X6_tellMember
theorem dX6_mixMember_0 : decode cX6_mixMember 0 = .ok (.aload_n 0, 1) := by decide +kernel
theorem dX6_mixMember_1 : decode cX6_mixMember 1 = .ok (.iload_n 1, 1) := by decide +kernel
theorem dX6_mixMember_2 : decode cX6_mixMember 2 = .ok (.invokevirtual 50, 3) := by decide +kernel
theorem dX6_mixMember_5 : decode cX6_mixMember 5 = .ok (.istore_n 2, 1) := by decide +kernel
theorem dX6_mixMember_6 : decode cX6_mixMember 6 = .ok (.aload_n 0, 1) := by decide +kernel
theorem dX6_mixMember_7 : decode cX6_mixMember 7 = .ok (.iload_n 1, 1) := by decide +kernel
theorem dX6_mixMember_8 : decode cX6_mixMember 8 = .ok (.invokevirtual 223, 3) := by decide +kernel
theorem dX6_mixMember_11 : decode cX6_mixMember 11 = .ok (.iconst 1, 1) := by decide +kernel
theorem dX6_mixMember_12 : decode cX6_mixMember 12 = .ok (.istore_n 3, 1) := by decide +kernel
theorem dX6_mixMember_13 : decode cX6_mixMember 13 = .ok (.iload_n 3, 1) := by decide +kernel
theorem dX6_mixMember_14 : decode cX6_mixMember 14 = .ok (.iconst 5, 1) := by decide +kernel
theorem dX6_mixMember_15 : decode cX6_mixMember 15 = .ok (.if_icmp .ge 19, 3) := by decide +kernel
theorem dX6_mixMember_18 : decode cX6_mixMember 18 = .ok (.aload_n 0, 1) := by decide +kernel
theorem dX6_mixMember_19 : decode cX6_mixMember 19 = .ok (.aload_n 0, 1) := by decide +kernel
theorem dX6_mixMember_20 : decode cX6_mixMember 20 = .ok (.iload_n 1, 1) := by decide +kernel
theorem dX6_mixMember_21 : decode cX6_mixMember 21 = .ok (.iload_n 3, 1) := by decide +kernel
theorem dX6_mixMember_22 : decode cX6_mixMember 22 = .ok (.invokevirtual 178, 3) := by decide +kernel
theorem dX6_mixMember_25 : decode cX6_mixMember 25 = .ok (.invokevirtual 223, 3) := by decide +kernel
theorem dX6_mixMember_28 : decode cX6_mixMember 28 = .ok (.iinc 3 1, 3) := by decide +kernel
theorem dX6_mixMember_31 : decode cX6_mixMember 31 = .ok (.goto (-18), 3) := by decide +kernel
theorem dX6_mixMember_34 : decode cX6_mixMember 34 = .ok (.iconst 0, 1) := by decide +kernel
theorem dX6_mixMember_35 : decode cX6_mixMember 35 = .ok (.istore_n 3, 1) := by decide +kernel
theorem dX6_mixMember_36 : decode cX6_mixMember 36 = .ok (.iload_n 3, 1) := by decide +kernel
theorem dX6_mixMember_37 : decode cX6_mixMember 37 = .ok (.bipush 8, 2) := by decide +kernel
theorem dX6_mixMember_39 : decode cX6_mixMember 39 = .ok (.if_icmp .ge 85, 3) := by decide +kernel
theorem dX6_mixMember_42 : decode cX6_mixMember 42 = .ok (.aload_n 0, 1) := by decide +kernel
theorem dX6_mixMember_43 : decode cX6_mixMember 43 = .ok (.aload_n 0, 1) := by decide +kernel
theorem dX6_mixMember_44 : decode cX6_mixMember 44 = .ok (.getfield 7, 3) := by decide +kernel
theorem dX6_mixMember_47 : decode cX6_mixMember 47 = .ok (.iload_n 2, 1) := by decide +kernel
theorem dX6_mixMember_48 : decode cX6_mixMember 48 = .ok (.iconst 3, 1) := by decide +kernel
theorem dX6_mixMember_49 : decode cX6_mixMember 49 = .ok (.iadd, 1) := by decide +kernel
theorem dX6_mixMember_50 : decode cX6_mixMember 50 = .ok (.iload_n 3, 1) := by decide +kernel
theorem dX6_mixMember_51 : decode cX6_mixMember 51 = .ok (.iadd, 1) := by decide +kernel
theorem dX6_mixMember_52 : decode cX6_mixMember 52 = .ok (.iaload, 1) := by decide +kernel
theorem dX6_mixMember_53 : decode cX6_mixMember 53 = .ok (.invokevirtual 223, 3) := by decide +kernel
theorem dX6_mixMember_56 : decode cX6_mixMember 56 = .ok (.iconst 4, 1) := by decide +kernel
theorem dX6_mixMember_57 : decode cX6_mixMember 57 = .ok (.iload_n 3, 1) := by decide +kernel
theorem dX6_mixMember_58 : decode cX6_mixMember 58 = .ok (.imul, 1) := by decide +kernel
theorem dX6_mixMember_59 : decode cX6_mixMember 59 = .ok (.istore 4, 2) := by decide +kernel
theorem dX6_mixMember_61 : decode cX6_mixMember 61 = .ok (.iload 4, 2) := by decide +kernel
theorem dX6_mixMember_63 : decode cX6_mixMember 63 = .ok (.iconst 4, 1) := by decide +kernel
theorem dX6_mixMember_64 : decode cX6_mixMember 64 = .ok (.iload_n 3, 1) := by decide +kernel
theorem dX6_mixMember_65 : decode cX6_mixMember 65 = .ok (.imul, 1) := by decide +kernel
theorem dX6_mixMember_66 : decode cX6_mixMember 66 = .ok (.aload_n 0, 1) := by decide +kernel
theorem dX6_mixMember_67 : decode cX6_mixMember 67 = .ok (.getfield 7, 3) := by decide +kernel
theorem dX6_mixMember_70 : decode cX6_mixMember 70 = .ok (.iload_n 2, 1) := by decide +kernel
theorem dX6_mixMember_71 : decode cX6_mixMember 71 = .ok (.iconst 3, 1) := by decide +kernel
theorem dX6_mixMember_72 : decode cX6_mixMember 72 = .ok (.iadd, 1) := by decide +kernel
theorem dX6_mixMember_73 : decode cX6_mixMember 73 = .ok (.iload_n 3, 1) := by decide +kernel
theorem dX6_mixMember_74 : decode cX6_mixMember 74 = .ok (.iadd, 1) := by decide +kernel
theorem dX6_mixMember_75 : decode cX6_mixMember 75 = .ok (.iaload, 1) := by decide +kernel
theorem dX6_mixMember_76 : decode cX6_mixMember 76 = .ok (.iadd, 1) := by decide +kernel
theorem dX6_mixMember_77 : decode cX6_mixMember 77 = .ok (.if_icmp .ge 41, 3) := by decide +kernel
theorem dX6_mixMember_80 : decode cX6_mixMember 80 = .ok (.aload_n 0, 1) := by decide +kernel
theorem dX6_mixMember_81 : decode cX6_mixMember 81 = .ok (.aload_n 0, 1) := by decide +kernel
theorem dX6_mixMember_82 : decode cX6_mixMember 82 = .ok (.getfield 7, 3) := by decide +kernel
theorem dX6_mixMember_85 : decode cX6_mixMember 85 = .ok (.iload_n 2, 1) := by decide +kernel
theorem dX6_mixMember_86 : decode cX6_mixMember 86 = .ok (.bipush 11, 2) := by decide +kernel
theorem dX6_mixMember_88 : decode cX6_mixMember 88 = .ok (.iadd, 1) := by decide +kernel
theorem dX6_mixMember_89 : decode cX6_mixMember 89 = .ok (.iload 4, 2) := by decide +kernel
theorem dX6_mixMember_91 : decode cX6_mixMember 91 = .ok (.iadd, 1) := by decide +kernel
theorem dX6_mixMember_92 : decode cX6_mixMember 92 = .ok (.iaload, 1) := by decide +kernel
theorem dX6_mixMember_93 : decode cX6_mixMember 93 = .ok (.invokevirtual 223, 3) := by decide +kernel
theorem dX6_mixMember_96 : decode cX6_mixMember 96 = .ok (.aload_n 0, 1) := by decide +kernel
theorem dX6_mixMember_97 : decode cX6_mixMember 97 = .ok (.aload_n 0, 1) := by decide +kernel
theorem dX6_mixMember_98 : decode cX6_mixMember 98 = .ok (.getfield 7, 3) := by decide +kernel
theorem dX6_mixMember_101 : decode cX6_mixMember 101 = .ok (.iload_n 2, 1) := by decide +kernel
theorem dX6_mixMember_102 : decode cX6_mixMember 102 = .ok (.bipush 43, 2) := by decide +kernel
theorem dX6_mixMember_104 : decode cX6_mixMember 104 = .ok (.iadd, 1) := by decide +kernel
theorem dX6_mixMember_105 : decode cX6_mixMember 105 = .ok (.iload 4, 2) := by decide +kernel
theorem dX6_mixMember_107 : decode cX6_mixMember 107 = .ok (.iadd, 1) := by decide +kernel
theorem dX6_mixMember_108 : decode cX6_mixMember 108 = .ok (.iaload, 1) := by decide +kernel
theorem dX6_mixMember_109 : decode cX6_mixMember 109 = .ok (.invokevirtual 223, 3) := by decide +kernel
theorem dX6_mixMember_112 : decode cX6_mixMember 112 = .ok (.iinc 4 1, 3) := by decide +kernel
theorem dX6_mixMember_115 : decode cX6_mixMember 115 = .ok (.goto (-54), 3) := by decide +kernel
theorem dX6_mixMember_118 : decode cX6_mixMember 118 = .ok (.iinc 3 1, 3) := by decide +kernel
theorem dX6_mixMember_121 : decode cX6_mixMember 121 = .ok (.goto (-85), 3) := by decide +kernel
theorem dX6_mixMember_124 : decode cX6_mixMember 124 = .ok (.return_, 1) := by decide +kernel
set_option maxRecDepth 20000 in
theorem ggX6_digest_X6_mix : GoodIn wsX6_digest wsX6_mix := goodIn_r _ [11, 12, 3, 73, 74, 75, 76, 77, 78, 79, 80, 81, 82, 83, 84, 85, 86, 87] (by decide +kernel) (by decide +kernel)
set_option maxRecDepth 20000 in
theorem gX6_digest_X6_mix : GoodIn wsX6_digest (wsV RX6 223 RX6 yX6_mix wsX6_mix) := goodIn_app (goodIn_of _ (by decide +kernel)) ggX6_digest_X6_mix
set_option maxRecDepth 20000 in
theorem ggX6_digest_X6_tellOverlay : GoodIn wsX6_digest wsX6_tellOverlay := goodIn_r _ [16, 6, 17, 18, 19, 10, 20, 21, 22, 23, 24, 25, 26, 27, 28, 29, 30, 31, 32, 33, 34, 35, 73, 74, 75, 76, 77, 78, 79, 80, 81, 82, 83, 84, 85, 86, 87] (by decide +kernel) (by decide +kernel)
set_option maxRecDepth 20000 in
theorem gX6_digest_X6_tellOverlay : GoodIn wsX6_digest (wsV RX6 184 RX6 yX6_tellOverlay wsX6_tellOverlay) := goodIn_app (goodIn_of _ (by decide +kernel)) ggX6_digest_X6_tellOverlay
set_option maxRecDepth 20000 in
theorem ggX6_digest_X6_isMember : GoodIn wsX6_digest wsX6_isMember := goodIn_r _ [39, 40, 41, 10, 42, 43, 44, 45, 46, 47, 48, 49, 6, 21, 22, 23, 73, 74, 75, 76, 77, 78, 79, 80, 81, 82, 83, 84, 85, 86, 87] (by decide +kernel) (by decide +kernel)
set_option maxRecDepth 20000 in
theorem gX6_digest_X6_isMember : GoodIn wsX6_digest (wsV RX6 75 RX6 yX6_isMember wsX6_isMember) := goodIn_app (goodIn_of _ (by decide +kernel)) ggX6_digest_X6_isMember
set_option maxRecDepth 20000 in
theorem ggX6_digest_X6_mixMember : GoodIn wsX6_digest wsX6_mixMember := goodIn_r _ [53, 6, 46, 47, 48, 10, 49, 21, 22, 23, 7, 8, 9, 11, 12, 3, 54, 55, 56, 57, 58, 59, 60, 61, 62, 63, 64, 65, 66, 67, 68, 69, 70, 71, 72, 73, 74, 75, 76, 77, 78, 79, 80, 81, 82, 83, 84, 85, 86, 87] (by decide +kernel) (by decide +kernel)
set_option maxRecDepth 20000 in
theorem gX6_digest_X6_mixMember : GoodIn wsX6_digest (wsV RX6 228 RX6 yX6_mixMember wsX6_mixMember) := goodIn_app (goodIn_of _ (by decide +kernel)) ggX6_digest_X6_mixMember
theorem dX6_digest_0 : decode cX6_digest 0 = .ok (.aload_n 0, 1) := by decide +kernel
theorem dX6_digest_1 : decode cX6_digest 1 = .ok (.iconst 0, 1) := by decide +kernel
theorem dX6_digest_2 : decode cX6_digest 2 = .ok (.putfield 28, 3) := by decide +kernel
theorem dX6_digest_5 : decode cX6_digest 5 = .ok (.aload_n 0, 1) := by decide +kernel
theorem dX6_digest_6 : decode cX6_digest 6 = .ok (.ldc2_w 226, 3) := by decide +kernel
theorem dX6_digest_9 : decode cX6_digest 9 = .ok (.putfield 219, 3) := by decide +kernel
theorem dX6_digest_12 : decode cX6_digest 12 = .ok (.aload_n 0, 1) := by decide +kernel
theorem dX6_digest_13 : decode cX6_digest 13 = .ok (.aload_n 0, 1) := by decide +kernel
theorem dX6_digest_14 : decode cX6_digest 14 = .ok (.getfield 36, 3) := by decide +kernel
theorem dX6_digest_17 : decode cX6_digest 17 = .ok (.invokevirtual 223, 3) := by decide +kernel
theorem dX6_digest_20 : decode cX6_digest 20 = .ok (.aload_n 0, 1) := by decide +kernel
theorem dX6_digest_21 : decode cX6_digest 21 = .ok (.aload_n 0, 1) := by decide +kernel
theorem dX6_digest_22 : decode cX6_digest 22 = .ok (.getfield 187, 3) := by decide +kernel
theorem dX6_digest_25 : decode cX6_digest 25 = .ok (.invokevirtual 223, 3) := by decide +kernel
theorem dX6_digest_28 : decode cX6_digest 28 = .ok (.iconst 0, 1) := by decide +kernel
theorem dX6_digest_29 : decode cX6_digest 29 = .ok (.istore_n 1, 1) := by decide +kernel
theorem dX6_digest_30 : decode cX6_digest 30 = .ok (.iload_n 1, 1) := by decide +kernel
theorem dX6_digest_31 : decode cX6_digest 31 = .ok (.bipush 9, 2) := by decide +kernel
theorem dX6_digest_33 : decode cX6_digest 33 = .ok (.if_icmp .ge 18, 3) := by decide +kernel
theorem dX6_digest_36 : decode cX6_digest 36 = .ok (.aload_n 0, 1) := by decide +kernel
theorem dX6_digest_37 : decode cX6_digest 37 = .ok (.aload_n 0, 1) := by decide +kernel
theorem dX6_digest_38 : decode cX6_digest 38 = .ok (.iload_n 1, 1) := by decide +kernel
theorem dX6_digest_39 : decode cX6_digest 39 = .ok (.invokevirtual 184, 3) := by decide +kernel
theorem dX6_digest_42 : decode cX6_digest 42 = .ok (.invokevirtual 223, 3) := by decide +kernel
theorem dX6_digest_45 : decode cX6_digest 45 = .ok (.iinc 1 1, 3) := by decide +kernel
theorem dX6_digest_48 : decode cX6_digest 48 = .ok (.goto (-18), 3) := by decide +kernel
theorem dX6_digest_51 : decode cX6_digest 51 = .ok (.iconst 0, 1) := by decide +kernel
theorem dX6_digest_52 : decode cX6_digest 52 = .ok (.istore_n 1, 1) := by decide +kernel
theorem dX6_digest_53 : decode cX6_digest 53 = .ok (.iload_n 1, 1) := by decide +kernel
theorem dX6_digest_54 : decode cX6_digest 54 = .ok (.bipush 9, 2) := by decide +kernel
theorem dX6_digest_56 : decode cX6_digest 56 = .ok (.if_icmp .ge 22, 3) := by decide +kernel
theorem dX6_digest_59 : decode cX6_digest 59 = .ok (.aload_n 0, 1) := by decide +kernel
theorem dX6_digest_60 : decode cX6_digest 60 = .ok (.aload_n 0, 1) := by decide +kernel
theorem dX6_digest_61 : decode cX6_digest 61 = .ok (.getfield 7, 3) := by decide +kernel
theorem dX6_digest_64 : decode cX6_digest 64 = .ok (.bipush 7, 2) := by decide +kernel
theorem dX6_digest_66 : decode cX6_digest 66 = .ok (.iload_n 1, 1) := by decide +kernel
theorem dX6_digest_67 : decode cX6_digest 67 = .ok (.iadd, 1) := by decide +kernel
theorem dX6_digest_68 : decode cX6_digest 68 = .ok (.iaload, 1) := by decide +kernel
theorem dX6_digest_69 : decode cX6_digest 69 = .ok (.invokevirtual 223, 3) := by decide +kernel
theorem dX6_digest_72 : decode cX6_digest 72 = .ok (.iinc 1 1, 3) := by decide +kernel
theorem dX6_digest_75 : decode cX6_digest 75 = .ok (.goto (-22), 3) := by decide +kernel
theorem dX6_digest_78 : decode cX6_digest 78 = .ok (.iconst 0, 1) := by decide +kernel
theorem dX6_digest_79 : decode cX6_digest 79 = .ok (.istore_n 1, 1) := by decide +kernel
theorem dX6_digest_80 : decode cX6_digest 80 = .ok (.iload_n 1, 1) := by decide +kernel
theorem dX6_digest_81 : decode cX6_digest 81 = .ok (.sipush 256, 3) := by decide +kernel
theorem dX6_digest_84 : decode cX6_digest 84 = .ok (.if_icmp .ge 22, 3) := by decide +kernel
theorem dX6_digest_87 : decode cX6_digest 87 = .ok (.aload_n 0, 1) := by decide +kernel
theorem dX6_digest_88 : decode cX6_digest 88 = .ok (.iload_n 1, 1) := by decide +kernel
theorem dX6_digest_89 : decode cX6_digest 89 = .ok (.invokevirtual 75, 3) := by decide +kernel
theorem dX6_digest_92 : decode cX6_digest 92 = .ok (.ifCond .eq 8, 3) := by decide +kernel
theorem dX6_digest_95 : decode cX6_digest 95 = .ok (.aload_n 0, 1) := by decide +kernel
theorem dX6_digest_96 : decode cX6_digest 96 = .ok (.iload_n 1, 1) := by decide +kernel
theorem dX6_digest_97 : decode cX6_digest 97 = .ok (.invokevirtual 228, 3) := by decide +kernel
theorem dX6_digest_100 : decode cX6_digest 100 = .ok (.iinc 1 1, 3) := by decide +kernel
theorem dX6_digest_103 : decode cX6_digest 103 = .ok (.goto (-23), 3) := by decide +kernel
theorem dX6_digest_106 : decode cX6_digest 106 = .ok (.aload_n 0, 1) := by decide +kernel
theorem dX6_digest_107 : decode cX6_digest 107 = .ok (.getfield 219, 3) := by decide +kernel
theorem dX6_digest_110 : decode cX6_digest 110 = .ok (.lreturn, 1) := by decide +kernel
theorem dJ6_numberOfLeadingZeros_0f7a4_0 : decode cJ6_numberOfLeadingZeros_0f7a4 0 = .ok (.iload_n 0, 1) := by decide +kernel
theorem dJ6_numberOfLeadingZeros_0f7a4_1 : decode cJ6_numberOfLeadingZeros_0f7a4 1 = .ok (.ifCond .gt 14, 3) := by decide +kernel
theorem dJ6_numberOfLeadingZeros_0f7a4_4 : decode cJ6_numberOfLeadingZeros_0f7a4 4 = .ok (.iload_n 0, 1) := by decide +kernel
theorem dJ6_numberOfLeadingZeros_0f7a4_5 : decode cJ6_numberOfLeadingZeros_0f7a4 5 = .ok (.ifCond .ne 8, 3) := by decide +kernel
theorem dJ6_numberOfLeadingZeros_0f7a4_8 : decode cJ6_numberOfLeadingZeros_0f7a4 8 = .ok (.bipush 32, 2) := by decide +kernel
theorem dJ6_numberOfLeadingZeros_0f7a4_10 : decode cJ6_numberOfLeadingZeros_0f7a4 10 = .ok (.goto 4, 3) := by decide +kernel
theorem dJ6_numberOfLeadingZeros_0f7a4_13 : decode cJ6_numberOfLeadingZeros_0f7a4 13 = .ok (.iconst 0, 1) := by decide +kernel
theorem dJ6_numberOfLeadingZeros_0f7a4_14 : decode cJ6_numberOfLeadingZeros_0f7a4 14 = .ok (.ireturn, 1) := by decide +kernel
theorem dJ6_numberOfLeadingZeros_0f7a4_15 : decode cJ6_numberOfLeadingZeros_0f7a4 15 = .ok (.bipush 31, 2) := by decide +kernel
theorem dJ6_numberOfLeadingZeros_0f7a4_17 : decode cJ6_numberOfLeadingZeros_0f7a4 17 = .ok (.istore_n 1, 1) := by decide +kernel
theorem dJ6_numberOfLeadingZeros_0f7a4_18 : decode cJ6_numberOfLeadingZeros_0f7a4 18 = .ok (.iload_n 0, 1) := by decide +kernel
theorem dJ6_numberOfLeadingZeros_0f7a4_19 : decode cJ6_numberOfLeadingZeros_0f7a4 19 = .ok (.ldc_w 264, 3) := by decide +kernel
theorem dJ6_numberOfLeadingZeros_0f7a4_22 : decode cJ6_numberOfLeadingZeros_0f7a4 22 = .ok (.if_icmp .lt 11, 3) := by decide +kernel
theorem dJ6_numberOfLeadingZeros_0f7a4_25 : decode cJ6_numberOfLeadingZeros_0f7a4 25 = .ok (.iinc 1 (-16), 3) := by decide +kernel
theorem dJ6_numberOfLeadingZeros_0f7a4_28 : decode cJ6_numberOfLeadingZeros_0f7a4 28 = .ok (.iload_n 0, 1) := by decide +kernel
theorem dJ6_numberOfLeadingZeros_0f7a4_29 : decode cJ6_numberOfLeadingZeros_0f7a4 29 = .ok (.bipush 16, 2) := by decide +kernel
theorem dJ6_numberOfLeadingZeros_0f7a4_31 : decode cJ6_numberOfLeadingZeros_0f7a4 31 = .ok (.iushr, 1) := by decide +kernel
theorem dJ6_numberOfLeadingZeros_0f7a4_32 : decode cJ6_numberOfLeadingZeros_0f7a4 32 = .ok (.istore_n 0, 1) := by decide +kernel
theorem dJ6_numberOfLeadingZeros_0f7a4_33 : decode cJ6_numberOfLeadingZeros_0f7a4 33 = .ok (.iload_n 0, 1) := by decide +kernel
theorem dJ6_numberOfLeadingZeros_0f7a4_34 : decode cJ6_numberOfLeadingZeros_0f7a4 34 = .ok (.sipush 256, 3) := by decide +kernel
theorem dJ6_numberOfLeadingZeros_0f7a4_37 : decode cJ6_numberOfLeadingZeros_0f7a4 37 = .ok (.if_icmp .lt 11, 3) := by decide +kernel
theorem dJ6_numberOfLeadingZeros_0f7a4_40 : decode cJ6_numberOfLeadingZeros_0f7a4 40 = .ok (.iinc 1 (-8), 3) := by decide +kernel
theorem dJ6_numberOfLeadingZeros_0f7a4_43 : decode cJ6_numberOfLeadingZeros_0f7a4 43 = .ok (.iload_n 0, 1) := by decide +kernel
theorem dJ6_numberOfLeadingZeros_0f7a4_44 : decode cJ6_numberOfLeadingZeros_0f7a4 44 = .ok (.bipush 8, 2) := by decide +kernel
theorem dJ6_numberOfLeadingZeros_0f7a4_46 : decode cJ6_numberOfLeadingZeros_0f7a4 46 = .ok (.iushr, 1) := by decide +kernel
theorem dJ6_numberOfLeadingZeros_0f7a4_47 : decode cJ6_numberOfLeadingZeros_0f7a4 47 = .ok (.istore_n 0, 1) := by decide +kernel
theorem dJ6_numberOfLeadingZeros_0f7a4_48 : decode cJ6_numberOfLeadingZeros_0f7a4 48 = .ok (.iload_n 0, 1) := by decide +kernel
theorem dJ6_numberOfLeadingZeros_0f7a4_49 : decode cJ6_numberOfLeadingZeros_0f7a4 49 = .ok (.bipush 16, 2) := by decide +kernel
theorem dJ6_numberOfLeadingZeros_0f7a4_51 : decode cJ6_numberOfLeadingZeros_0f7a4 51 = .ok (.if_icmp .lt 10, 3) := by decide +kernel
theorem dJ6_numberOfLeadingZeros_0f7a4_54 : decode cJ6_numberOfLeadingZeros_0f7a4 54 = .ok (.iinc 1 (-4), 3) := by decide +kernel
theorem dJ6_numberOfLeadingZeros_0f7a4_57 : decode cJ6_numberOfLeadingZeros_0f7a4 57 = .ok (.iload_n 0, 1) := by decide +kernel
theorem dJ6_numberOfLeadingZeros_0f7a4_58 : decode cJ6_numberOfLeadingZeros_0f7a4 58 = .ok (.iconst 4, 1) := by decide +kernel
theorem dJ6_numberOfLeadingZeros_0f7a4_59 : decode cJ6_numberOfLeadingZeros_0f7a4 59 = .ok (.iushr, 1) := by decide +kernel
theorem dJ6_numberOfLeadingZeros_0f7a4_60 : decode cJ6_numberOfLeadingZeros_0f7a4 60 = .ok (.istore_n 0, 1) := by decide +kernel
theorem dJ6_numberOfLeadingZeros_0f7a4_61 : decode cJ6_numberOfLeadingZeros_0f7a4 61 = .ok (.iload_n 0, 1) := by decide +kernel
theorem dJ6_numberOfLeadingZeros_0f7a4_62 : decode cJ6_numberOfLeadingZeros_0f7a4 62 = .ok (.iconst 4, 1) := by decide +kernel
theorem dJ6_numberOfLeadingZeros_0f7a4_63 : decode cJ6_numberOfLeadingZeros_0f7a4 63 = .ok (.if_icmp .lt 10, 3) := by decide +kernel
theorem dJ6_numberOfLeadingZeros_0f7a4_66 : decode cJ6_numberOfLeadingZeros_0f7a4 66 = .ok (.iinc 1 (-2), 3) := by decide +kernel
theorem dJ6_numberOfLeadingZeros_0f7a4_69 : decode cJ6_numberOfLeadingZeros_0f7a4 69 = .ok (.iload_n 0, 1) := by decide +kernel
theorem dJ6_numberOfLeadingZeros_0f7a4_70 : decode cJ6_numberOfLeadingZeros_0f7a4 70 = .ok (.iconst 2, 1) := by decide +kernel
theorem dJ6_numberOfLeadingZeros_0f7a4_71 : decode cJ6_numberOfLeadingZeros_0f7a4 71 = .ok (.iushr, 1) := by decide +kernel
theorem dJ6_numberOfLeadingZeros_0f7a4_72 : decode cJ6_numberOfLeadingZeros_0f7a4 72 = .ok (.istore_n 0, 1) := by decide +kernel
theorem dJ6_numberOfLeadingZeros_0f7a4_73 : decode cJ6_numberOfLeadingZeros_0f7a4 73 = .ok (.iload_n 1, 1) := by decide +kernel
theorem dJ6_numberOfLeadingZeros_0f7a4_74 : decode cJ6_numberOfLeadingZeros_0f7a4 74 = .ok (.iload_n 0, 1) := by decide +kernel
theorem dJ6_numberOfLeadingZeros_0f7a4_75 : decode cJ6_numberOfLeadingZeros_0f7a4 75 = .ok (.iconst 1, 1) := by decide +kernel
theorem dJ6_numberOfLeadingZeros_0f7a4_76 : decode cJ6_numberOfLeadingZeros_0f7a4 76 = .ok (.iushr, 1) := by decide +kernel
theorem dJ6_numberOfLeadingZeros_0f7a4_77 : decode cJ6_numberOfLeadingZeros_0f7a4 77 = .ok (.isub, 1) := by decide +kernel
theorem dJ6_numberOfLeadingZeros_0f7a4_78 : decode cJ6_numberOfLeadingZeros_0f7a4 78 = .ok (.ireturn, 1) := by decide +kernel
theorem dJ9_floorDiv_7cf53_0 : decode cJ9_floorDiv_7cf53 0 = .ok (.iload_n 0, 1) := by decide +kernel
theorem dJ9_floorDiv_7cf53_1 : decode cJ9_floorDiv_7cf53 1 = .ok (.iload_n 1, 1) := by decide +kernel
theorem dJ9_floorDiv_7cf53_2 : decode cJ9_floorDiv_7cf53 2 = .ok (.idiv, 1) := by decide +kernel
theorem dJ9_floorDiv_7cf53_3 : decode cJ9_floorDiv_7cf53 3 = .ok (.istore_n 2, 1) := by decide +kernel
theorem dJ9_floorDiv_7cf53_4 : decode cJ9_floorDiv_7cf53 4 = .ok (.iload_n 0, 1) := by decide +kernel
theorem dJ9_floorDiv_7cf53_5 : decode cJ9_floorDiv_7cf53 5 = .ok (.iload_n 1, 1) := by decide +kernel
theorem dJ9_floorDiv_7cf53_6 : decode cJ9_floorDiv_7cf53 6 = .ok (.ixor, 1) := by decide +kernel
theorem dJ9_floorDiv_7cf53_7 : decode cJ9_floorDiv_7cf53 7 = .ok (.ifCond .ge 14, 3) := by decide +kernel
theorem dJ9_floorDiv_7cf53_10 : decode cJ9_floorDiv_7cf53 10 = .ok (.iload_n 2, 1) := by decide +kernel
theorem dJ9_floorDiv_7cf53_11 : decode cJ9_floorDiv_7cf53 11 = .ok (.iload_n 1, 1) := by decide +kernel
theorem dJ9_floorDiv_7cf53_12 : decode cJ9_floorDiv_7cf53 12 = .ok (.imul, 1) := by decide +kernel
theorem dJ9_floorDiv_7cf53_13 : decode cJ9_floorDiv_7cf53 13 = .ok (.iload_n 0, 1) := by decide +kernel
theorem dJ9_floorDiv_7cf53_14 : decode cJ9_floorDiv_7cf53 14 = .ok (.if_icmp .eq 7, 3) := by decide +kernel
theorem dJ9_floorDiv_7cf53_17 : decode cJ9_floorDiv_7cf53 17 = .ok (.iload_n 2, 1) := by decide +kernel
theorem dJ9_floorDiv_7cf53_18 : decode cJ9_floorDiv_7cf53 18 = .ok (.iconst 1, 1) := by decide +kernel
theorem dJ9_floorDiv_7cf53_19 : decode cJ9_floorDiv_7cf53 19 = .ok (.isub, 1) := by decide +kernel
theorem dJ9_floorDiv_7cf53_20 : decode cJ9_floorDiv_7cf53 20 = .ok (.ireturn, 1) := by decide +kernel
theorem dJ9_floorDiv_7cf53_21 : decode cJ9_floorDiv_7cf53 21 = .ok (.iload_n 2, 1) := by decide +kernel
theorem dJ9_floorDiv_7cf53_22 : decode cJ9_floorDiv_7cf53 22 = .ok (.ireturn, 1) := by decide +kernel
theorem dJ9_max_7cf53_0 : decode cJ9_max_7cf53 0 = .ok (.iload_n 0, 1) := by decide +kernel
theorem dJ9_max_7cf53_1 : decode cJ9_max_7cf53 1 = .ok (.iload_n 1, 1) := by decide +kernel
theorem dJ9_max_7cf53_2 : decode cJ9_max_7cf53 2 = .ok (.if_icmp .lt 7, 3) := by decide +kernel
theorem dJ9_max_7cf53_5 : decode cJ9_max_7cf53 5 = .ok (.iload_n 0, 1) := by decide +kernel
theorem dJ9_max_7cf53_6 : decode cJ9_max_7cf53 6 = .ok (.goto 4, 3) := by decide +kernel
theorem dJ9_max_7cf53_9 : decode cJ9_max_7cf53 9 = .ok (.iload_n 1, 1) := by decide +kernel
theorem dJ9_max_7cf53_10 : decode cJ9_max_7cf53 10 = .ok (.ireturn, 1) := by decide +kernel
theorem dJ9_min_7cf53_0 : decode cJ9_min_7cf53 0 = .ok (.iload_n 0, 1) := by decide +kernel
theorem dJ9_min_7cf53_1 : decode cJ9_min_7cf53 1 = .ok (.iload_n 1, 1) := by decide +kernel
theorem dJ9_min_7cf53_2 : decode cJ9_min_7cf53 2 = .ok (.if_icmp .gt 7, 3) := by decide +kernel
theorem dJ9_min_7cf53_5 : decode cJ9_min_7cf53 5 = .ok (.iload_n 0, 1) := by decide +kernel
theorem dJ9_min_7cf53_6 : decode cJ9_min_7cf53 6 = .ok (.goto 4, 3) := by decide +kernel
theorem dJ9_min_7cf53_9 : decode cJ9_min_7cf53 9 = .ok (.iload_n 1, 1) := by decide +kernel
theorem dJ9_min_7cf53_10 : decode cJ9_min_7cf53 10 = .ok (.ireturn, 1) := by decide +kernel
set_option maxRecDepth 20000 in
theorem ggJ0_length_8abf5_J0_coder_7d493 : GoodIn wsJ0_length_8abf5 wsJ0_coder_7d493 := goodIn_r _ [6, 7, 8] (by decide +kernel) (by decide +kernel)
set_option maxRecDepth 20000 in
theorem gJ0_length_8abf5_J0_coder_7d493 : GoodIn wsJ0_length_8abf5 (wsV RJ0 335 RJ0 yJ0_coder_7d493 wsJ0_coder_7d493) := goodIn_app (goodIn_of _ (by decide +kernel)) ggJ0_length_8abf5_J0_coder_7d493
theorem dJ0_length_8abf5_0 : decode cJ0_length_8abf5 0 = .ok (.aload_n 0, 1) := by decide +kernel
theorem dJ0_length_8abf5_1 : decode cJ0_length_8abf5 1 = .ok (.getfield 9, 3) := by decide +kernel
theorem dJ0_length_8abf5_4 : decode cJ0_length_8abf5 4 = .ok (.arraylength, 1) := by decide +kernel
theorem dJ0_length_8abf5_5 : decode cJ0_length_8abf5 5 = .ok (.aload_n 0, 1) := by decide +kernel
theorem dJ0_length_8abf5_6 : decode cJ0_length_8abf5 6 = .ok (.invokevirtual 335, 3) := by decide +kernel
theorem dJ0_length_8abf5_9 : decode cJ0_length_8abf5 9 = .ok (.ishr, 1) := by decide +kernel
theorem dJ0_length_8abf5_10 : decode cJ0_length_8abf5 10 = .ok (.ireturn, 1) := by decide +kernel
set_option maxRecDepth 20000 in
theorem ggJ0_charAt_5068e_J0_isLatin1_aae02 : GoodIn wsJ0_charAt_5068e wsJ0_isLatin1_aae02 := goodIn_r _ [6, 7, 8] (by decide +kernel) (by decide +kernel)
set_option maxRecDepth 20000 in
theorem gJ0_charAt_5068e_J0_isLatin1_aae02 : GoodIn wsJ0_charAt_5068e (wsV RJ0 492 RJ0 yJ0_isLatin1_aae02 wsJ0_isLatin1_aae02) := goodIn_app (goodIn_of _ (by decide +kernel)) ggJ0_charAt_5068e_J0_isLatin1_aae02
set_option maxRecDepth 20000 in
theorem ggJ0_charAt_5068e_J1_charAt_3b067 : GoodIn wsJ0_charAt_5068e wsJ1_charAt_3b067 := goodIn_r _ [12, 13, 14, 5, 15, 16, 17, 18, 19, 20] (by decide +kernel) (by decide +kernel)
set_option maxRecDepth 20000 in
theorem gJ0_charAt_5068e_J1_charAt_3b067 : GoodIn wsJ0_charAt_5068e (va_wsS RJ0 495 yJ1_charAt_3b067 wsJ1_charAt_3b067) := goodIn_app (goodIn_of _ (by decide +kernel)) ggJ0_charAt_5068e_J1_charAt_3b067
set_option maxRecDepth 20000 in
theorem ggJ0_charAt_5068e_J2_charAt_3b067 : GoodIn wsJ0_charAt_5068e wsJ2_charAt_3b067 := goodIn_r _ [24, 25, 26, 23, 27, 28, 29, 30, 31, 14, 5, 15, 16, 17, 18, 19, 20, 32, 33, 34, 35, 36, 37] (by decide +kernel) (by decide +kernel)
set_option maxRecDepth 20000 in
theorem gJ0_charAt_5068e_J2_charAt_3b067 : GoodIn wsJ0_charAt_5068e (va_wsS RJ0 498 yJ2_charAt_3b067 wsJ2_charAt_3b067) := goodIn_app (goodIn_of _ (by decide +kernel)) ggJ0_charAt_5068e_J2_charAt_3b067
theorem dJ0_charAt_5068e_0 : decode cJ0_charAt_5068e 0 = .ok (.aload_n 0, 1) := by decide +kernel
theorem dJ0_charAt_5068e_1 : decode cJ0_charAt_5068e 1 = .ok (.invokevirtual 492, 3) := by decide +kernel
theorem dJ0_charAt_5068e_4 : decode cJ0_charAt_5068e 4 = .ok (.ifCond .eq 12, 3) := by decide +kernel
theorem dJ0_charAt_5068e_7 : decode cJ0_charAt_5068e 7 = .ok (.aload_n 0, 1) := by decide +kernel
theorem dJ0_charAt_5068e_8 : decode cJ0_charAt_5068e 8 = .ok (.getfield 9, 3) := by decide +kernel
theorem dJ0_charAt_5068e_11 : decode cJ0_charAt_5068e 11 = .ok (.iload_n 1, 1) := by decide +kernel
theorem dJ0_charAt_5068e_12 : decode cJ0_charAt_5068e 12 = .ok (.invokestatic 495, 3) := by decide +kernel
theorem dJ0_charAt_5068e_15 : decode cJ0_charAt_5068e 15 = .ok (.ireturn, 1) := by decide +kernel
theorem dJ0_charAt_5068e_16 : decode cJ0_charAt_5068e 16 = .ok (.aload_n 0, 1) := by decide +kernel
theorem dJ0_charAt_5068e_17 : decode cJ0_charAt_5068e 17 = .ok (.getfield 9, 3) := by decide +kernel
theorem dJ0_charAt_5068e_20 : decode cJ0_charAt_5068e 20 = .ok (.iload_n 1, 1) := by decide +kernel
theorem dJ0_charAt_5068e_21 : decode cJ0_charAt_5068e 21 = .ok (.invokestatic 498, 3) := by decide +kernel
theorem dJ0_charAt_5068e_24 : decode cJ0_charAt_5068e 24 = .ok (.ireturn, 1) := by decide +kernel
theorem dJ0_coder_7d493_0 : decode cJ0_coder_7d493 0 = .ok (.getstatic 38, 3) := by decide +kernel
theorem dJ0_coder_7d493_3 : decode cJ0_coder_7d493 3 = .ok (.ifCond .eq 10, 3) := by decide +kernel
theorem dJ0_coder_7d493_6 : decode cJ0_coder_7d493 6 = .ok (.aload_n 0, 1) := by decide +kernel
theorem dJ0_coder_7d493_7 : decode cJ0_coder_7d493 7 = .ok (.getfield 15, 3) := by decide +kernel
theorem dJ0_coder_7d493_10 : decode cJ0_coder_7d493 10 = .ok (.goto 4, 3) := by decide +kernel
theorem dJ0_coder_7d493_13 : decode cJ0_coder_7d493 13 = .ok (.iconst 1, 1) := by decide +kernel
theorem dJ0_coder_7d493_14 : decode cJ0_coder_7d493 14 = .ok (.ireturn, 1) := by decide +kernel
theorem dJ0_isLatin1_aae02_0 : decode cJ0_isLatin1_aae02 0 = .ok (.getstatic 38, 3) := by decide +kernel
theorem dJ0_isLatin1_aae02_3 : decode cJ0_isLatin1_aae02 3 = .ok (.ifCond .eq 14, 3) := by decide +kernel
theorem dJ0_isLatin1_aae02_6 : decode cJ0_isLatin1_aae02 6 = .ok (.aload_n 0, 1) := by decide +kernel
theorem dJ0_isLatin1_aae02_7 : decode cJ0_isLatin1_aae02 7 = .ok (.getfield 15, 3) := by decide +kernel
theorem dJ0_isLatin1_aae02_10 : decode cJ0_isLatin1_aae02 10 = .ok (.ifCond .ne 7, 3) := by decide +kernel
theorem dJ0_isLatin1_aae02_13 : decode cJ0_isLatin1_aae02 13 = .ok (.iconst 1, 1) := by decide +kernel
theorem dJ0_isLatin1_aae02_14 : decode cJ0_isLatin1_aae02 14 = .ok (.goto 4, 3) := by decide +kernel
theorem dJ0_isLatin1_aae02_17 : decode cJ0_isLatin1_aae02 17 = .ok (.iconst 0, 1) := by decide +kernel
theorem dJ0_isLatin1_aae02_18 : decode cJ0_isLatin1_aae02 18 = .ok (.ireturn, 1) := by decide +kernel
set_option maxRecDepth 20000 in
theorem ggJ0_checkIndex_df160_J3_checkIndex_8e157 : GoodIn wsJ0_checkIndex_df160 wsJ3_checkIndex_8e157 := goodIn_r _ [5] (by decide +kernel) (by decide +kernel)
set_option maxRecDepth 20000 in
theorem gJ0_checkIndex_df160_J3_checkIndex_8e157 : GoodIn wsJ0_checkIndex_df160 (va_wsS RJ0 1059 yJ3_checkIndex_8e157 wsJ3_checkIndex_8e157) := goodIn_app (goodIn_of _ (by decide +kernel)) ggJ0_checkIndex_df160_J3_checkIndex_8e157
theorem dJ0_checkIndex_df160_0 : decode cJ0_checkIndex_df160 0 = .ok (.iload_n 0, 1) := by decide +kernel
theorem dJ0_checkIndex_df160_1 : decode cJ0_checkIndex_df160 1 = .ok (.iload_n 1, 1) := by decide +kernel
theorem dJ0_checkIndex_df160_2 : decode cJ0_checkIndex_df160 2 = .ok (.getstatic 1053, 3) := by decide +kernel
theorem dJ0_checkIndex_df160_5 : decode cJ0_checkIndex_df160 5 = .ok (.invokestatic 1059, 3) := by decide +kernel
theorem dJ0_checkIndex_df160_8 : decode cJ0_checkIndex_df160 8 = .ok (.pop, 1) := by decide +kernel
theorem dJ0_checkIndex_df160_9 : decode cJ0_checkIndex_df160 9 = .ok (.return_, 1) := by decide +kernel
set_option maxRecDepth 20000 in
theorem ggJ1_charAt_3b067_J0_checkIndex_df160 : GoodIn wsJ1_charAt_3b067 wsJ0_checkIndex_df160 := goodIn_r _ [4, 5, 6, 7, 8, 9] (by decide +kernel) (by decide +kernel)
set_option maxRecDepth 20000 in
theorem gJ1_charAt_3b067_J0_checkIndex_df160 : GoodIn wsJ1_charAt_3b067 (va_wsS RJ1 9 yJ0_checkIndex_df160 wsJ0_checkIndex_df160) := goodIn_app (goodIn_of _ (by decide +kernel)) ggJ1_charAt_3b067_J0_checkIndex_df160
theorem dJ1_charAt_3b067_0 : decode cJ1_charAt_3b067 0 = .ok (.iload_n 1, 1) := by decide +kernel
theorem dJ1_charAt_3b067_1 : decode cJ1_charAt_3b067 1 = .ok (.aload_n 0, 1) := by decide +kernel
theorem dJ1_charAt_3b067_2 : decode cJ1_charAt_3b067 2 = .ok (.arraylength, 1) := by decide +kernel
theorem dJ1_charAt_3b067_3 : decode cJ1_charAt_3b067 3 = .ok (.invokestatic 9, 3) := by decide +kernel
theorem dJ1_charAt_3b067_6 : decode cJ1_charAt_3b067 6 = .ok (.aload_n 0, 1) := by decide +kernel
theorem dJ1_charAt_3b067_7 : decode cJ1_charAt_3b067 7 = .ok (.iload_n 1, 1) := by decide +kernel
theorem dJ1_charAt_3b067_8 : decode cJ1_charAt_3b067 8 = .ok (.baload, 1) := by decide +kernel
theorem dJ1_charAt_3b067_9 : decode cJ1_charAt_3b067 9 = .ok (.sipush 255, 3) := by decide +kernel
theorem dJ1_charAt_3b067_12 : decode cJ1_charAt_3b067 12 = .ok (.iand, 1) := by decide +kernel
theorem dJ1_charAt_3b067_13 : decode cJ1_charAt_3b067 13 = .ok (.i2c, 1) := by decide +kernel
theorem dJ1_charAt_3b067_14 : decode cJ1_charAt_3b067 14 = .ok (.ireturn, 1) := by decide +kernel
set_option maxRecDepth 20000 in
theorem ggJ2_getChar_3b067_J2_length_9d52b : GoodIn wsJ2_getChar_3b067 wsJ2_length_9d52b := goodIn_r _ [7] (by decide +kernel) (by decide +kernel)
set_option maxRecDepth 20000 in
theorem gJ2_getChar_3b067_J2_length_9d52b : GoodIn wsJ2_getChar_3b067 (va_wsS RJ2 48 yJ2_length_9d52b wsJ2_length_9d52b) := goodIn_app (goodIn_of _ (by decide +kernel)) ggJ2_getChar_3b067_J2_length_9d52b
theorem dJ2_getChar_3b067_0 : decode cJ2_getChar_3b067 0 = .ok (.getstatic 44, 3) := by decide +kernel
theorem dJ2_getChar_3b067_3 : decode cJ2_getChar_3b067 3 = .ok (.ifCond .ne 25, 3) := by decide +kernel
theorem dJ2_getChar_3b067_6 : decode cJ2_getChar_3b067 6 = .ok (.iload_n 1, 1) := by decide +kernel
theorem dJ2_getChar_3b067_7 : decode cJ2_getChar_3b067 7 = .ok (.ifCond .lt 11, 3) := by decide +kernel
theorem dJ2_getChar_3b067_10 : decode cJ2_getChar_3b067 10 = .ok (.iload_n 1, 1) := by decide +kernel
theorem dJ2_getChar_3b067_11 : decode cJ2_getChar_3b067 11 = .ok (.aload_n 0, 1) := by decide +kernel
theorem dJ2_getChar_3b067_12 : decode cJ2_getChar_3b067 12 = .ok (.invokestatic 48, 3) := by decide +kernel
theorem dJ2_getChar_3b067_15 : decode cJ2_getChar_3b067 15 = .ok (.if_icmp .lt 13, 3) := by decide +kernel
theorem dJ2_getChar_3b067_18 : decode cJ2_getChar_3b067 18 = .ok (.new 52, 3) := by decide +kernel
theorem dJ2_getChar_3b067_21 : decode cJ2_getChar_3b067 21 = .ok (.dup, 1) := by decide +kernel
theorem dJ2_getChar_3b067_22 : decode cJ2_getChar_3b067 22 = .ok (.ldc 54, 2) := by decide +kernel
theorem dJ2_getChar_3b067_24 : decode cJ2_getChar_3b067 24 = .ok (.invokespecial 56, 3) := by decide +kernel
theorem dJ2_getChar_3b067_27 : decode cJ2_getChar_3b067 27 = .ok (.athrow, 1) := by decide +kernel
theorem dJ2_getChar_3b067_28 : decode cJ2_getChar_3b067 28 = .ok (.iload_n 1, 1) := by decide +kernel
theorem dJ2_getChar_3b067_29 : decode cJ2_getChar_3b067 29 = .ok (.iconst 1, 1) := by decide +kernel
theorem dJ2_getChar_3b067_30 : decode cJ2_getChar_3b067 30 = .ok (.ishl, 1) := by decide +kernel
theorem dJ2_getChar_3b067_31 : decode cJ2_getChar_3b067 31 = .ok (.istore_n 1, 1) := by decide +kernel
theorem dJ2_getChar_3b067_32 : decode cJ2_getChar_3b067 32 = .ok (.aload_n 0, 1) := by decide +kernel
theorem dJ2_getChar_3b067_33 : decode cJ2_getChar_3b067 33 = .ok (.iload_n 1, 1) := by decide +kernel
theorem dJ2_getChar_3b067_34 : decode cJ2_getChar_3b067 34 = .ok (.iinc 1 1, 3) := by decide +kernel
theorem dJ2_getChar_3b067_37 : decode cJ2_getChar_3b067 37 = .ok (.baload, 1) := by decide +kernel
theorem dJ2_getChar_3b067_38 : decode cJ2_getChar_3b067 38 = .ok (.sipush 255, 3) := by decide +kernel
theorem dJ2_getChar_3b067_41 : decode cJ2_getChar_3b067 41 = .ok (.iand, 1) := by decide +kernel
theorem dJ2_getChar_3b067_42 : decode cJ2_getChar_3b067 42 = .ok (.getstatic 59, 3) := by decide +kernel
theorem dJ2_getChar_3b067_45 : decode cJ2_getChar_3b067 45 = .ok (.ishl, 1) := by decide +kernel
theorem dJ2_getChar_3b067_46 : decode cJ2_getChar_3b067 46 = .ok (.aload_n 0, 1) := by decide +kernel
theorem dJ2_getChar_3b067_47 : decode cJ2_getChar_3b067 47 = .ok (.iload_n 1, 1) := by decide +kernel
theorem dJ2_getChar_3b067_48 : decode cJ2_getChar_3b067 48 = .ok (.baload, 1) := by decide +kernel
theorem dJ2_getChar_3b067_49 : decode cJ2_getChar_3b067 49 = .ok (.sipush 255, 3) := by decide +kernel
theorem dJ2_getChar_3b067_52 : decode cJ2_getChar_3b067 52 = .ok (.iand, 1) := by decide +kernel
theorem dJ2_getChar_3b067_53 : decode cJ2_getChar_3b067 53 = .ok (.getstatic 63, 3) := by decide +kernel
theorem dJ2_getChar_3b067_56 : decode cJ2_getChar_3b067 56 = .ok (.ishl, 1) := by decide +kernel
theorem dJ2_getChar_3b067_57 : decode cJ2_getChar_3b067 57 = .ok (.ior, 1) := by decide +kernel
theorem dJ2_getChar_3b067_58 : decode cJ2_getChar_3b067 58 = .ok (.i2c, 1) := by decide +kernel
theorem dJ2_getChar_3b067_59 : decode cJ2_getChar_3b067 59 = .ok (.ireturn, 1) := by decide +kernel
theorem dJ2_length_9d52b_0 : decode cJ2_length_9d52b 0 = .ok (.aload_n 0, 1) := by decide +kernel
theorem dJ2_length_9d52b_1 : decode cJ2_length_9d52b 1 = .ok (.arraylength, 1) := by decide +kernel
theorem dJ2_length_9d52b_2 : decode cJ2_length_9d52b 2 = .ok (.iconst 1, 1) := by decide +kernel
theorem dJ2_length_9d52b_3 : decode cJ2_length_9d52b 3 = .ok (.ishr, 1) := by decide +kernel
theorem dJ2_length_9d52b_4 : decode cJ2_length_9d52b 4 = .ok (.ireturn, 1) := by decide +kernel
set_option maxRecDepth 20000 in
theorem ggJ2_charAt_3b067_J2_checkIndex_2214a : GoodIn wsJ2_charAt_3b067 wsJ2_checkIndex_2214a := goodIn_r _ [4, 5, 6, 3, 7, 8, 9, 10, 11, 12, 13, 14, 15, 16] (by decide +kernel) (by decide +kernel)
set_option maxRecDepth 20000 in
theorem gJ2_charAt_3b067_J2_checkIndex_2214a : GoodIn wsJ2_charAt_3b067 (va_wsS RJ2 67 yJ2_checkIndex_2214a wsJ2_checkIndex_2214a) := goodIn_app (goodIn_of _ (by decide +kernel)) ggJ2_charAt_3b067_J2_checkIndex_2214a
set_option maxRecDepth 20000 in
theorem ggJ2_charAt_3b067_J2_getChar_3b067 : GoodIn wsJ2_charAt_3b067 wsJ2_getChar_3b067 := goodIn_r _ [19, 20, 21, 22, 5, 6, 3, 7] (by decide +kernel) (by decide +kernel)
set_option maxRecDepth 20000 in
theorem gJ2_charAt_3b067_J2_getChar_3b067 : GoodIn wsJ2_charAt_3b067 (va_wsS RJ2 71 yJ2_getChar_3b067 wsJ2_getChar_3b067) := goodIn_app (goodIn_of _ (by decide +kernel)) ggJ2_charAt_3b067_J2_getChar_3b067
theorem dJ2_charAt_3b067_0 : decode cJ2_charAt_3b067 0 = .ok (.iload_n 1, 1) := by decide +kernel
theorem dJ2_charAt_3b067_1 : decode cJ2_charAt_3b067 1 = .ok (.aload_n 0, 1) := by decide +kernel
theorem dJ2_charAt_3b067_2 : decode cJ2_charAt_3b067 2 = .ok (.invokestatic 67, 3) := by decide +kernel
theorem dJ2_charAt_3b067_5 : decode cJ2_charAt_3b067 5 = .ok (.aload_n 0, 1) := by decide +kernel
theorem dJ2_charAt_3b067_6 : decode cJ2_charAt_3b067 6 = .ok (.iload_n 1, 1) := by decide +kernel
theorem dJ2_charAt_3b067_7 : decode cJ2_charAt_3b067 7 = .ok (.invokestatic 71, 3) := by decide +kernel
theorem dJ2_charAt_3b067_10 : decode cJ2_charAt_3b067 10 = .ok (.ireturn, 1) := by decide +kernel
set_option maxRecDepth 20000 in
theorem ggJ2_checkIndex_2214a_J2_length_9d52b : GoodIn wsJ2_checkIndex_2214a wsJ2_length_9d52b := goodIn_r _ [4] (by decide +kernel) (by decide +kernel)
set_option maxRecDepth 20000 in
theorem gJ2_checkIndex_2214a_J2_length_9d52b : GoodIn wsJ2_checkIndex_2214a (va_wsS RJ2 48 yJ2_length_9d52b wsJ2_length_9d52b) := goodIn_app (goodIn_of _ (by decide +kernel)) ggJ2_checkIndex_2214a_J2_length_9d52b
set_option maxRecDepth 20000 in
theorem ggJ2_checkIndex_2214a_J0_checkIndex_df160 : GoodIn wsJ2_checkIndex_2214a wsJ0_checkIndex_df160 := goodIn_r _ [8, 9, 10, 11, 12, 13] (by decide +kernel) (by decide +kernel)
set_option maxRecDepth 20000 in
theorem gJ2_checkIndex_2214a_J0_checkIndex_df160 : GoodIn wsJ2_checkIndex_2214a (va_wsS RJ2 414 yJ0_checkIndex_df160 wsJ0_checkIndex_df160) := goodIn_app (goodIn_of _ (by decide +kernel)) ggJ2_checkIndex_2214a_J0_checkIndex_df160
theorem dJ2_checkIndex_2214a_0 : decode cJ2_checkIndex_2214a 0 = .ok (.iload_n 0, 1) := by decide +kernel
theorem dJ2_checkIndex_2214a_1 : decode cJ2_checkIndex_2214a 1 = .ok (.aload_n 1, 1) := by decide +kernel
theorem dJ2_checkIndex_2214a_2 : decode cJ2_checkIndex_2214a 2 = .ok (.invokestatic 48, 3) := by decide +kernel
theorem dJ2_checkIndex_2214a_5 : decode cJ2_checkIndex_2214a 5 = .ok (.invokestatic 414, 3) := by decide +kernel
theorem dJ2_checkIndex_2214a_8 : decode cJ2_checkIndex_2214a 8 = .ok (.return_, 1) := by decide +kernel
