theorem dX6_init_83 : decode cX6_init 83 = .ok (.iconst 2, 1) := by decide +kernel
theorem dX6_init_84 : decode cX6_init 84 = .ok (.iastore, 1) := by decide +kernel
theorem dX6_init_85 : decode cX6_init 85 = .ok (.aload_n 0, 1) := by decide +kernel
theorem dX6_init_86 : decode cX6_init 86 = .ok (.getfield 7, 3) := by decide +kernel
theorem dX6_init_89 : decode cX6_init 89 = .ok (.iconst 4, 1) := by decide +kernel
theorem dX6_init_90 : decode cX6_init 90 = .ok (.bipush 8, 2) := by decide +kernel
theorem dX6_init_92 : decode cX6_init 92 = .ok (.iastore, 1) := by decide +kernel
theorem dX6_init_93 : decode cX6_init 93 = .ok (.return_, 1) := by decide +kernel
theorem dX6_thrown_0 : decode cX6_thrown 0 = .ok (.aload_n 0, 1) := by decide +kernel
theorem dX6_thrown_1 : decode cX6_thrown 1 = .ok (.getfield 28, 3) := by decide +kernel
theorem dX6_thrown_4 : decode cX6_thrown 4 = .ok (.ireturn, 1) := by decide +kernel
theorem dX6_refused_0 : decode cX6_refused 0 = .ok (.aload_n 0, 1) := by decide +kernel
theorem dX6_refused_1 : decode cX6_refused 1 = .ok (.iload_n 1, 1) := by decide +kernel
theorem dX6_refused_2 : decode cX6_refused 2 = .ok (.putfield 28, 3) := by decide +kernel
theorem dX6_refused_5 : decode cX6_refused 5 = .ok (.iload_n 1, 1) := by decide +kernel
theorem dX6_refused_6 : decode cX6_refused 6 = .ok (.ifCond .le 7, 3) := by decide +kernel
theorem dX6_refused_9 : decode cX6_refused 9 = .ok (.iconst 1, 1) := by decide +kernel
theorem dX6_refused_10 : decode cX6_refused 10 = .ok (.goto 4, 3) := by decide +kernel
theorem dX6_refused_13 : decode cX6_refused 13 = .ok (.iconst 0, 1) := by decide +kernel
theorem dX6_refused_14 : decode cX6_refused 14 = .ok (.ireturn, 1) := by decide +kernel
theorem dX6_in_0 : decode cX6_in 0 = .ok (.iload_n 0, 1) := by decide +kernel
theorem dX6_in_1 : decode cX6_in 1 = .ok (.iload_n 1, 1) := by decide +kernel
theorem dX6_in_2 : decode cX6_in 2 = .ok (.if_icmp .lt 12, 3) := by decide +kernel
theorem dX6_in_5 : decode cX6_in 5 = .ok (.iload_n 0, 1) := by decide +kernel
theorem dX6_in_6 : decode cX6_in 6 = .ok (.iload_n 2, 1) := by decide +kernel
theorem dX6_in_7 : decode cX6_in 7 = .ok (.if_icmp .gt 7, 3) := by decide +kernel
theorem dX6_in_10 : decode cX6_in 10 = .ok (.iconst 1, 1) := by decide +kernel
theorem dX6_in_11 : decode cX6_in 11 = .ok (.goto 4, 3) := by decide +kernel
theorem dX6_in_14 : decode cX6_in 14 = .ok (.iconst 0, 1) := by decide +kernel
theorem dX6_in_15 : decode cX6_in 15 = .ok (.ireturn, 1) := by decide +kernel
set_option maxRecDepth 20000 in
theorem ggX6_isId_X6_in : GoodIn wsX6_isId wsX6_in := goodIn_r _ [4] (by decide +kernel) (by decide +kernel)
set_option maxRecDepth 20000 in
theorem gX6_isId_X6_in : GoodIn wsX6_isId (va_wsS RX6 32 yX6_in wsX6_in) := goodIn_app (goodIn_of _ (by decide +kernel)) ggX6_isId_X6_in
theorem dX6_isId_0 : decode cX6_isId 0 = .ok (.iload_n 0, 1) := by decide +kernel
theorem dX6_isId_1 : decode cX6_isId 1 = .ok (.iconst 0, 1) := by decide +kernel
theorem dX6_isId_2 : decode cX6_isId 2 = .ok (.sipush 255, 3) := by decide +kernel
theorem dX6_isId_5 : decode cX6_isId 5 = .ok (.invokestatic 32, 3) := by decide +kernel
theorem dX6_isId_8 : decode cX6_isId 8 = .ok (.ireturn, 1) := by decide +kernel
theorem dX6_saves_0 : decode cX6_saves 0 = .ok (.aload_n 0, 1) := by decide +kernel
theorem dX6_saves_1 : decode cX6_saves 1 = .ok (.getfield 36, 3) := by decide +kernel
theorem dX6_saves_4 : decode cX6_saves 4 = .ok (.iconst 3, 1) := by decide +kernel
theorem dX6_saves_5 : decode cX6_saves 5 = .ok (.if_icmp .ne 44, 3) := by decide +kernel
theorem dX6_saves_8 : decode cX6_saves 8 = .ok (.iconst 0, 1) := by decide +kernel
theorem dX6_saves_9 : decode cX6_saves 9 = .ok (.istore_n 1, 1) := by decide +kernel
theorem dX6_saves_10 : decode cX6_saves 10 = .ok (.iload_n 1, 1) := by decide +kernel
theorem dX6_saves_11 : decode cX6_saves 11 = .ok (.sipush 3632, 3) := by decide +kernel
theorem dX6_saves_14 : decode cX6_saves 14 = .ok (.if_icmp .ge 25, 3) := by decide +kernel
theorem dX6_saves_17 : decode cX6_saves 17 = .ok (.aload_n 0, 1) := by decide +kernel
theorem dX6_saves_18 : decode cX6_saves 18 = .ok (.getfield 13, 3) := by decide +kernel
theorem dX6_saves_21 : decode cX6_saves 21 = .ok (.iload_n 1, 1) := by decide +kernel
theorem dX6_saves_22 : decode cX6_saves 22 = .ok (.aload_n 0, 1) := by decide +kernel
theorem dX6_saves_23 : decode cX6_saves 23 = .ok (.getfield 13, 3) := by decide +kernel
theorem dX6_saves_26 : decode cX6_saves 26 = .ok (.iload_n 1, 1) := by decide +kernel
theorem dX6_saves_27 : decode cX6_saves 27 = .ok (.sipush 1816, 3) := by decide +kernel
theorem dX6_saves_30 : decode cX6_saves 30 = .ok (.iadd, 1) := by decide +kernel
theorem dX6_saves_31 : decode cX6_saves 31 = .ok (.iaload, 1) := by decide +kernel
theorem dX6_saves_32 : decode cX6_saves 32 = .ok (.iastore, 1) := by decide +kernel
theorem dX6_saves_33 : decode cX6_saves 33 = .ok (.iinc 1 1, 3) := by decide +kernel
theorem dX6_saves_36 : decode cX6_saves 36 = .ok (.goto (-26), 3) := by decide +kernel
theorem dX6_saves_39 : decode cX6_saves 39 = .ok (.aload_n 0, 1) := by decide +kernel
theorem dX6_saves_40 : decode cX6_saves 40 = .ok (.dup, 1) := by decide +kernel
theorem dX6_saves_41 : decode cX6_saves 41 = .ok (.getfield 36, 3) := by decide +kernel
theorem dX6_saves_44 : decode cX6_saves 44 = .ok (.iconst 1, 1) := by decide +kernel
theorem dX6_saves_45 : decode cX6_saves 45 = .ok (.isub, 1) := by decide +kernel
theorem dX6_saves_46 : decode cX6_saves 46 = .ok (.putfield 36, 3) := by decide +kernel
theorem dX6_saves_49 : decode cX6_saves 49 = .ok (.iconst 0, 1) := by decide +kernel
theorem dX6_saves_50 : decode cX6_saves 50 = .ok (.istore_n 1, 1) := by decide +kernel
theorem dX6_saves_51 : decode cX6_saves 51 = .ok (.iload_n 1, 1) := by decide +kernel
theorem dX6_saves_52 : decode cX6_saves 52 = .ok (.sipush 1816, 3) := by decide +kernel
theorem dX6_saves_55 : decode cX6_saves 55 = .ok (.if_icmp .ge 30, 3) := by decide +kernel
theorem dX6_saves_58 : decode cX6_saves 58 = .ok (.aload_n 0, 1) := by decide +kernel
theorem dX6_saves_59 : decode cX6_saves 59 = .ok (.getfield 13, 3) := by decide +kernel
theorem dX6_saves_62 : decode cX6_saves 62 = .ok (.sipush 1816, 3) := by decide +kernel
theorem dX6_saves_65 : decode cX6_saves 65 = .ok (.aload_n 0, 1) := by decide +kernel
theorem dX6_saves_66 : decode cX6_saves 66 = .ok (.getfield 36, 3) := by decide +kernel
theorem dX6_saves_69 : decode cX6_saves 69 = .ok (.imul, 1) := by decide +kernel
theorem dX6_saves_70 : decode cX6_saves 70 = .ok (.iload_n 1, 1) := by decide +kernel
theorem dX6_saves_71 : decode cX6_saves 71 = .ok (.iadd, 1) := by decide +kernel
theorem dX6_saves_72 : decode cX6_saves 72 = .ok (.aload_n 0, 1) := by decide +kernel
theorem dX6_saves_73 : decode cX6_saves 73 = .ok (.getfield 7, 3) := by decide +kernel
theorem dX6_saves_76 : decode cX6_saves 76 = .ok (.iload_n 1, 1) := by decide +kernel
theorem dX6_saves_77 : decode cX6_saves 77 = .ok (.iaload, 1) := by decide +kernel
theorem dX6_saves_78 : decode cX6_saves 78 = .ok (.iastore, 1) := by decide +kernel
theorem dX6_saves_79 : decode cX6_saves 79 = .ok (.iinc 1 1, 3) := by decide +kernel
theorem dX6_saves_82 : decode cX6_saves 82 = .ok (.goto (-31), 3) := by decide +kernel
theorem dX6_saves_85 : decode cX6_saves 85 = .ok (.aload_n 0, 1) := by decide +kernel
theorem dX6_saves_86 : decode cX6_saves 86 = .ok (.dup, 1) := by decide +kernel
theorem dX6_saves_87 : decode cX6_saves 87 = .ok (.getfield 36, 3) := by decide +kernel
theorem dX6_saves_90 : decode cX6_saves 90 = .ok (.iconst 1, 1) := by decide +kernel
theorem dX6_saves_91 : decode cX6_saves 91 = .ok (.iadd, 1) := by decide +kernel
theorem dX6_saves_92 : decode cX6_saves 92 = .ok (.putfield 36, 3) := by decide +kernel
theorem dX6_saves_95 : decode cX6_saves 95 = .ok (.return_, 1) := by decide +kernel
set_option maxRecDepth 20000 in
theorem ggX6_undo_X6_refused : GoodIn wsX6_undo wsX6_refused := goodIn_r _ [8, 9, 10, 11, 12, 13, 14, 15, 16, 17, 18, 19, 20, 21, 22, 23, 24] (by decide +kernel) (by decide +kernel)
set_option maxRecDepth 20000 in
theorem gX6_undo_X6_refused : GoodIn wsX6_undo (wsV RX6 39 RX6 yX6_refused wsX6_refused) := goodIn_app (goodIn_of _ (by decide +kernel)) ggX6_undo_X6_refused
theorem dX6_undo_0 : decode cX6_undo 0 = .ok (.aload_n 0, 1) := by decide +kernel
theorem dX6_undo_1 : decode cX6_undo 1 = .ok (.aload_n 0, 1) := by decide +kernel
theorem dX6_undo_2 : decode cX6_undo 2 = .ok (.getfield 36, 3) := by decide +kernel
theorem dX6_undo_5 : decode cX6_undo 5 = .ok (.ifCond .ne 7, 3) := by decide +kernel
theorem dX6_undo_8 : decode cX6_undo 8 = .ok (.iconst 1, 1) := by decide +kernel
theorem dX6_undo_9 : decode cX6_undo 9 = .ok (.goto 4, 3) := by decide +kernel
theorem dX6_undo_12 : decode cX6_undo 12 = .ok (.iconst 0, 1) := by decide +kernel
theorem dX6_undo_13 : decode cX6_undo 13 = .ok (.invokevirtual 39, 3) := by decide +kernel
theorem dX6_undo_16 : decode cX6_undo 16 = .ok (.ifCond .eq 5, 3) := by decide +kernel
theorem dX6_undo_19 : decode cX6_undo 19 = .ok (.iconst 0, 1) := by decide +kernel
theorem dX6_undo_20 : decode cX6_undo 20 = .ok (.ireturn, 1) := by decide +kernel
theorem dX6_undo_21 : decode cX6_undo 21 = .ok (.aload_n 0, 1) := by decide +kernel
theorem dX6_undo_22 : decode cX6_undo 22 = .ok (.dup, 1) := by decide +kernel
theorem dX6_undo_23 : decode cX6_undo 23 = .ok (.getfield 36, 3) := by decide +kernel
theorem dX6_undo_26 : decode cX6_undo 26 = .ok (.iconst 1, 1) := by decide +kernel
theorem dX6_undo_27 : decode cX6_undo 27 = .ok (.isub, 1) := by decide +kernel
theorem dX6_undo_28 : decode cX6_undo 28 = .ok (.putfield 36, 3) := by decide +kernel
theorem dX6_undo_31 : decode cX6_undo 31 = .ok (.iconst 0, 1) := by decide +kernel
theorem dX6_undo_32 : decode cX6_undo 32 = .ok (.istore_n 1, 1) := by decide +kernel
theorem dX6_undo_33 : decode cX6_undo 33 = .ok (.iload_n 1, 1) := by decide +kernel
theorem dX6_undo_34 : decode cX6_undo 34 = .ok (.sipush 1816, 3) := by decide +kernel
theorem dX6_undo_37 : decode cX6_undo 37 = .ok (.if_icmp .ge 30, 3) := by decide +kernel
theorem dX6_undo_40 : decode cX6_undo 40 = .ok (.aload_n 0, 1) := by decide +kernel
theorem dX6_undo_41 : decode cX6_undo 41 = .ok (.getfield 7, 3) := by decide +kernel
theorem dX6_undo_44 : decode cX6_undo 44 = .ok (.iload_n 1, 1) := by decide +kernel
theorem dX6_undo_45 : decode cX6_undo 45 = .ok (.aload_n 0, 1) := by decide +kernel
theorem dX6_undo_46 : decode cX6_undo 46 = .ok (.getfield 13, 3) := by decide +kernel
theorem dX6_undo_49 : decode cX6_undo 49 = .ok (.sipush 1816, 3) := by decide +kernel
theorem dX6_undo_52 : decode cX6_undo 52 = .ok (.aload_n 0, 1) := by decide +kernel
theorem dX6_undo_53 : decode cX6_undo 53 = .ok (.getfield 36, 3) := by decide +kernel
theorem dX6_undo_56 : decode cX6_undo 56 = .ok (.imul, 1) := by decide +kernel
theorem dX6_undo_57 : decode cX6_undo 57 = .ok (.iload_n 1, 1) := by decide +kernel
theorem dX6_undo_58 : decode cX6_undo 58 = .ok (.iadd, 1) := by decide +kernel
theorem dX6_undo_59 : decode cX6_undo 59 = .ok (.iaload, 1) := by decide +kernel
theorem dX6_undo_60 : decode cX6_undo 60 = .ok (.iastore, 1) := by decide +kernel
theorem dX6_undo_61 : decode cX6_undo 61 = .ok (.iinc 1 1, 3) := by decide +kernel
theorem dX6_undo_64 : decode cX6_undo 64 = .ok (.goto (-31), 3) := by decide +kernel
theorem dX6_undo_67 : decode cX6_undo 67 = .ok (.aload_n 0, 1) := by decide +kernel
theorem dX6_undo_68 : decode cX6_undo 68 = .ok (.getfield 36, 3) := by decide +kernel
theorem dX6_undo_71 : decode cX6_undo 71 = .ok (.ireturn, 1) := by decide +kernel
theorem dX6_keeps_0 : decode cX6_keeps 0 = .ok (.iconst 0, 1) := by decide +kernel
theorem dX6_keeps_1 : decode cX6_keeps 1 = .ok (.istore_n 1, 1) := by decide +kernel
theorem dX6_keeps_2 : decode cX6_keeps 2 = .ok (.iload_n 1, 1) := by decide +kernel
theorem dX6_keeps_3 : decode cX6_keeps 3 = .ok (.sipush 1816, 3) := by decide +kernel
theorem dX6_keeps_6 : decode cX6_keeps 6 = .ok (.if_icmp .ge 21, 3) := by decide +kernel
theorem dX6_keeps_9 : decode cX6_keeps 9 = .ok (.aload_n 0, 1) := by decide +kernel
theorem dX6_keeps_10 : decode cX6_keeps 10 = .ok (.getfield 16, 3) := by decide +kernel
theorem dX6_keeps_13 : decode cX6_keeps 13 = .ok (.iload_n 1, 1) := by decide +kernel
theorem dX6_keeps_14 : decode cX6_keeps 14 = .ok (.aload_n 0, 1) := by decide +kernel
theorem dX6_keeps_15 : decode cX6_keeps 15 = .ok (.getfield 7, 3) := by decide +kernel
theorem dX6_keeps_18 : decode cX6_keeps 18 = .ok (.iload_n 1, 1) := by decide +kernel
theorem dX6_keeps_19 : decode cX6_keeps 19 = .ok (.iaload, 1) := by decide +kernel
theorem dX6_keeps_20 : decode cX6_keeps 20 = .ok (.iastore, 1) := by decide +kernel
theorem dX6_keeps_21 : decode cX6_keeps 21 = .ok (.iinc 1 1, 3) := by decide +kernel
theorem dX6_keeps_24 : decode cX6_keeps 24 = .ok (.goto (-22), 3) := by decide +kernel
theorem dX6_keeps_27 : decode cX6_keeps 27 = .ok (.return_, 1) := by decide +kernel
theorem dX6_takesBack_0 : decode cX6_takesBack 0 = .ok (.iconst 0, 1) := by decide +kernel
theorem dX6_takesBack_1 : decode cX6_takesBack 1 = .ok (.istore_n 1, 1) := by decide +kernel
theorem dX6_takesBack_2 : decode cX6_takesBack 2 = .ok (.iload_n 1, 1) := by decide +kernel
theorem dX6_takesBack_3 : decode cX6_takesBack 3 = .ok (.sipush 1816, 3) := by decide +kernel
theorem dX6_takesBack_6 : decode cX6_takesBack 6 = .ok (.if_icmp .ge 21, 3) := by decide +kernel
theorem dX6_takesBack_9 : decode cX6_takesBack 9 = .ok (.aload_n 0, 1) := by decide +kernel
theorem dX6_takesBack_10 : decode cX6_takesBack 10 = .ok (.getfield 7, 3) := by decide +kernel
theorem dX6_takesBack_13 : decode cX6_takesBack 13 = .ok (.iload_n 1, 1) := by decide +kernel
theorem dX6_takesBack_14 : decode cX6_takesBack 14 = .ok (.aload_n 0, 1) := by decide +kernel
theorem dX6_takesBack_15 : decode cX6_takesBack 15 = .ok (.getfield 16, 3) := by decide +kernel
theorem dX6_takesBack_18 : decode cX6_takesBack 18 = .ok (.iload_n 1, 1) := by decide +kernel
theorem dX6_takesBack_19 : decode cX6_takesBack 19 = .ok (.iaload, 1) := by decide +kernel
theorem dX6_takesBack_20 : decode cX6_takesBack 20 = .ok (.iastore, 1) := by decide +kernel
theorem dX6_takesBack_21 : decode cX6_takesBack 21 = .ok (.iinc 1 1, 3) := by decide +kernel
theorem dX6_takesBack_24 : decode cX6_takesBack 24 = .ok (.goto (-22), 3) := by decide +kernel
theorem dX6_takesBack_27 : decode cX6_takesBack 27 = .ok (.return_, 1) := by decide +kernel
theorem dX6_of_0 : decode cX6_of 0 = .ok (.bipush 16, 2) := by decide +kernel
theorem dX6_of_2 : decode cX6_of 2 = .ok (.bipush 75, 2) := by decide +kernel
theorem dX6_of_4 : decode cX6_of 4 = .ok (.iload_n 0, 1) := by decide +kernel
theorem dX6_of_5 : decode cX6_of 5 = .ok (.imul, 1) := by decide +kernel
theorem dX6_of_6 : decode cX6_of 6 = .ok (.iadd, 1) := by decide +kernel
theorem dX6_of_7 : decode cX6_of 7 = .ok (.ireturn, 1) := by decide +kernel
set_option maxRecDepth 20000 in
theorem ggX6_placeOf_X6_of : GoodIn wsX6_placeOf wsX6_of := goodIn_r _ [5] (by decide +kernel) (by decide +kernel)
set_option maxRecDepth 20000 in
theorem gX6_placeOf_X6_of : GoodIn wsX6_placeOf (va_wsS RX6 43 yX6_of wsX6_of) := goodIn_app (goodIn_of _ (by decide +kernel)) ggX6_placeOf_X6_of
theorem dX6_placeOf_0 : decode cX6_placeOf 0 = .ok (.iconst 0, 1) := by decide +kernel
theorem dX6_placeOf_1 : decode cX6_placeOf 1 = .ok (.istore_n 2, 1) := by decide +kernel
theorem dX6_placeOf_2 : decode cX6_placeOf 2 = .ok (.iload_n 2, 1) := by decide +kernel
theorem dX6_placeOf_3 : decode cX6_placeOf 3 = .ok (.bipush 24, 2) := by decide +kernel
theorem dX6_placeOf_5 : decode cX6_placeOf 5 = .ok (.if_icmp .ge 29, 3) := by decide +kernel
theorem dX6_placeOf_8 : decode cX6_placeOf 8 = .ok (.aload_n 0, 1) := by decide +kernel
theorem dX6_placeOf_9 : decode cX6_placeOf 9 = .ok (.getfield 7, 3) := by decide +kernel
theorem dX6_placeOf_12 : decode cX6_placeOf 12 = .ok (.iload_n 2, 1) := by decide +kernel
theorem dX6_placeOf_13 : decode cX6_placeOf 13 = .ok (.invokestatic 43, 3) := by decide +kernel
theorem dX6_placeOf_16 : decode cX6_placeOf 16 = .ok (.iaload, 1) := by decide +kernel
theorem dX6_placeOf_17 : decode cX6_placeOf 17 = .ok (.iload_n 1, 1) := by decide +kernel
theorem dX6_placeOf_18 : decode cX6_placeOf 18 = .ok (.iconst 1, 1) := by decide +kernel
theorem dX6_placeOf_19 : decode cX6_placeOf 19 = .ok (.iadd, 1) := by decide +kernel
theorem dX6_placeOf_20 : decode cX6_placeOf 20 = .ok (.if_icmp .ne 8, 3) := by decide +kernel
theorem dX6_placeOf_23 : decode cX6_placeOf 23 = .ok (.iload_n 2, 1) := by decide +kernel
theorem dX6_placeOf_24 : decode cX6_placeOf 24 = .ok (.invokestatic 43, 3) := by decide +kernel
theorem dX6_placeOf_27 : decode cX6_placeOf 27 = .ok (.ireturn, 1) := by decide +kernel
theorem dX6_placeOf_28 : decode cX6_placeOf 28 = .ok (.iinc 2 1, 3) := by decide +kernel
theorem dX6_placeOf_31 : decode cX6_placeOf 31 = .ok (.goto (-29), 3) := by decide +kernel
theorem dX6_placeOf_34 : decode cX6_placeOf 34 = .ok (.iconst (-1), 1) := by decide +kernel
theorem dX6_placeOf_35 : decode cX6_placeOf 35 = .ok (.ireturn, 1) := by decide +kernel
set_option maxRecDepth 20000 in
theorem ggX6_isMember_X6_isId : GoodIn wsX6_isMember wsX6_isId := goodIn_r _ [4, 5, 6, 3, 7] (by decide +kernel) (by decide +kernel)
set_option maxRecDepth 20000 in
theorem gX6_isMember_X6_isId : GoodIn wsX6_isMember (va_wsS RX6 47 yX6_isId wsX6_isId) := goodIn_app (goodIn_of _ (by decide +kernel)) ggX6_isMember_X6_isId
set_option maxRecDepth 20000 in
theorem ggX6_isMember_X6_placeOf : GoodIn wsX6_isMember wsX6_placeOf := goodIn_r _ [11, 12, 13, 14, 3, 15, 16, 17, 18, 19, 20, 21, 22, 23, 24, 25, 26, 27, 28, 29, 30] (by decide +kernel) (by decide +kernel)
set_option maxRecDepth 20000 in
theorem gX6_isMember_X6_placeOf : GoodIn wsX6_isMember (wsV RX6 50 RX6 yX6_placeOf wsX6_placeOf) := goodIn_app (goodIn_of _ (by decide +kernel)) ggX6_isMember_X6_placeOf
theorem dX6_isMember_0 : decode cX6_isMember 0 = .ok (.iload_n 1, 1) := by decide +kernel
theorem dX6_isMember_1 : decode cX6_isMember 1 = .ok (.invokestatic 47, 3) := by decide +kernel
theorem dX6_isMember_4 : decode cX6_isMember 4 = .ok (.ifCond .eq 16, 3) := by decide +kernel
theorem dX6_isMember_7 : decode cX6_isMember 7 = .ok (.aload_n 0, 1) := by decide +kernel
theorem dX6_isMember_8 : decode cX6_isMember 8 = .ok (.iload_n 1, 1) := by decide +kernel
theorem dX6_isMember_9 : decode cX6_isMember 9 = .ok (.invokevirtual 50, 3) := by decide +kernel
theorem dX6_isMember_12 : decode cX6_isMember 12 = .ok (.iconst (-1), 1) := by decide +kernel
theorem dX6_isMember_13 : decode cX6_isMember 13 = .ok (.if_icmp .eq 7, 3) := by decide +kernel
theorem dX6_isMember_16 : decode cX6_isMember 16 = .ok (.iconst 1, 1) := by decide +kernel
theorem dX6_isMember_17 : decode cX6_isMember 17 = .ok (.goto 4, 3) := by decide +kernel
theorem dX6_isMember_20 : decode cX6_isMember 20 = .ok (.iconst 0, 1) := by decide +kernel
theorem dX6_isMember_21 : decode cX6_isMember 21 = .ok (.ireturn, 1) := by decide +kernel
set_option maxRecDepth 20000 in
theorem ggX6_memberMany_X6_of : GoodIn wsX6_memberMany wsX6_of := goodIn_r _ [5] (by decide +kernel) (by decide +kernel)
set_option maxRecDepth 20000 in
theorem gX6_memberMany_X6_of : GoodIn wsX6_memberMany (va_wsS RX6 43 yX6_of wsX6_of) := goodIn_app (goodIn_of _ (by decide +kernel)) ggX6_memberMany_X6_of
theorem dX6_memberMany_0 : decode cX6_memberMany 0 = .ok (.iconst 0, 1) := by decide +kernel
theorem dX6_memberMany_1 : decode cX6_memberMany 1 = .ok (.istore_n 1, 1) := by decide +kernel
theorem dX6_memberMany_2 : decode cX6_memberMany 2 = .ok (.iconst 0, 1) := by decide +kernel
theorem dX6_memberMany_3 : decode cX6_memberMany 3 = .ok (.istore_n 2, 1) := by decide +kernel
theorem dX6_memberMany_4 : decode cX6_memberMany 4 = .ok (.iload_n 2, 1) := by decide +kernel
theorem dX6_memberMany_5 : decode cX6_memberMany 5 = .ok (.bipush 24, 2) := by decide +kernel
theorem dX6_memberMany_7 : decode cX6_memberMany 7 = .ok (.if_icmp .ge 29, 3) := by decide +kernel
theorem dX6_memberMany_10 : decode cX6_memberMany 10 = .ok (.iload_n 1, 1) := by decide +kernel
theorem dX6_memberMany_11 : decode cX6_memberMany 11 = .ok (.aload_n 0, 1) := by decide +kernel
theorem dX6_memberMany_12 : decode cX6_memberMany 12 = .ok (.getfield 7, 3) := by decide +kernel
theorem dX6_memberMany_15 : decode cX6_memberMany 15 = .ok (.iload_n 2, 1) := by decide +kernel
theorem dX6_memberMany_16 : decode cX6_memberMany 16 = .ok (.invokestatic 43, 3) := by decide +kernel
theorem dX6_memberMany_19 : decode cX6_memberMany 19 = .ok (.iaload, 1) := by decide +kernel
theorem dX6_memberMany_20 : decode cX6_memberMany 20 = .ok (.ifCond .le 7, 3) := by decide +kernel
theorem dX6_memberMany_23 : decode cX6_memberMany 23 = .ok (.iconst 1, 1) := by decide +kernel
theorem dX6_memberMany_24 : decode cX6_memberMany 24 = .ok (.goto 4, 3) := by decide +kernel
theorem dX6_memberMany_27 : decode cX6_memberMany 27 = .ok (.iconst 0, 1) := by decide +kernel
theorem dX6_memberMany_28 : decode cX6_memberMany 28 = .ok (.iadd, 1) := by decide +kernel
theorem dX6_memberMany_29 : decode cX6_memberMany 29 = .ok (.istore_n 1, 1) := by decide +kernel
theorem dX6_memberMany_30 : decode cX6_memberMany 30 = .ok (.iinc 2 1, 3) := by decide +kernel
theorem dX6_memberMany_33 : decode cX6_memberMany 33 = .ok (.goto (-29), 3) := by decide +kernel
theorem dX6_memberMany_36 : decode cX6_memberMany 36 = .ok (.iload_n 1, 1) := by decide +kernel
theorem dX6_memberMany_37 : decode cX6_memberMany 37 = .ok (.ireturn, 1) := by decide +kernel
theorem dX6_ends_0 : decode cX6_ends 0 = .ok (.iconst 0, 1) := by decide +kernel
theorem dX6_ends_1 : decode cX6_ends 1 = .ok (.istore_n 2, 1) := by decide +kernel
theorem dX6_ends_2 : decode cX6_ends 2 = .ok (.iload_n 2, 1) := by decide +kernel
theorem dX6_ends_3 : decode cX6_ends 3 = .ok (.bipush 75, 2) := by decide +kernel
theorem dX6_ends_5 : decode cX6_ends 5 = .ok (.if_icmp .ge 18, 3) := by decide +kernel
theorem dX6_ends_8 : decode cX6_ends 8 = .ok (.aload_n 0, 1) := by decide +kernel
theorem dX6_ends_9 : decode cX6_ends 9 = .ok (.getfield 7, 3) := by decide +kernel
theorem dX6_ends_12 : decode cX6_ends 12 = .ok (.iload_n 1, 1) := by decide +kernel
theorem dX6_ends_13 : decode cX6_ends 13 = .ok (.iload_n 2, 1) := by decide +kernel
theorem dX6_ends_14 : decode cX6_ends 14 = .ok (.iadd, 1) := by decide +kernel
theorem dX6_ends_15 : decode cX6_ends 15 = .ok (.iconst 0, 1) := by decide +kernel
theorem dX6_ends_16 : decode cX6_ends 16 = .ok (.iastore, 1) := by decide +kernel
theorem dX6_ends_17 : decode cX6_ends 17 = .ok (.iinc 2 1, 3) := by decide +kernel
theorem dX6_ends_20 : decode cX6_ends 20 = .ok (.goto (-18), 3) := by decide +kernel
theorem dX6_ends_23 : decode cX6_ends 23 = .ok (.aload_n 0, 1) := by decide +kernel
theorem dX6_ends_24 : decode cX6_ends 24 = .ok (.getfield 7, 3) := by decide +kernel
theorem dX6_ends_27 : decode cX6_ends 27 = .ok (.bipush 8, 2) := by decide +kernel
theorem dX6_ends_29 : decode cX6_ends 29 = .ok (.dup2, 1) := by decide +kernel
theorem dX6_ends_30 : decode cX6_ends 30 = .ok (.iaload, 1) := by decide +kernel
theorem dX6_ends_31 : decode cX6_ends 31 = .ok (.iconst 1, 1) := by decide +kernel
theorem dX6_ends_32 : decode cX6_ends 32 = .ok (.iadd, 1) := by decide +kernel
theorem dX6_ends_33 : decode cX6_ends 33 = .ok (.iastore, 1) := by decide +kernel
theorem dX6_ends_34 : decode cX6_ends 34 = .ok (.return_, 1) := by decide +kernel
theorem dX6_bucketOf_0 : decode cX6_bucketOf 0 = .ok (.iconst 0, 1) := by decide +kernel
theorem dX6_bucketOf_1 : decode cX6_bucketOf 1 = .ok (.istore_n 2, 1) := by decide +kernel
theorem dX6_bucketOf_2 : decode cX6_bucketOf 2 = .ok (.iload_n 0, 1) := by decide +kernel
theorem dX6_bucketOf_3 : decode cX6_bucketOf 3 = .ok (.bipush 7, 2) := by decide +kernel
theorem dX6_bucketOf_5 : decode cX6_bucketOf 5 = .ok (.iload_n 2, 1) := by decide +kernel
theorem dX6_bucketOf_6 : decode cX6_bucketOf 6 = .ok (.isub, 1) := by decide +kernel
theorem dX6_bucketOf_7 : decode cX6_bucketOf 7 = .ok (.ishr, 1) := by decide +kernel
theorem dX6_bucketOf_8 : decode cX6_bucketOf 8 = .ok (.iconst 1, 1) := by decide +kernel
theorem dX6_bucketOf_9 : decode cX6_bucketOf 9 = .ok (.iand, 1) := by decide +kernel
theorem dX6_bucketOf_10 : decode cX6_bucketOf 10 = .ok (.iload_n 1, 1) := by decide +kernel
theorem dX6_bucketOf_11 : decode cX6_bucketOf 11 = .ok (.bipush 7, 2) := by decide +kernel
theorem dX6_bucketOf_13 : decode cX6_bucketOf 13 = .ok (.iload_n 2, 1) := by decide +kernel
theorem dX6_bucketOf_14 : decode cX6_bucketOf 14 = .ok (.isub, 1) := by decide +kernel
theorem dX6_bucketOf_15 : decode cX6_bucketOf 15 = .ok (.ishr, 1) := by decide +kernel
theorem dX6_bucketOf_16 : decode cX6_bucketOf 16 = .ok (.iconst 1, 1) := by decide +kernel
theorem dX6_bucketOf_17 : decode cX6_bucketOf 17 = .ok (.iand, 1) := by decide +kernel
theorem dX6_bucketOf_18 : decode cX6_bucketOf 18 = .ok (.if_icmp .ne 9, 3) := by decide +kernel
theorem dX6_bucketOf_21 : decode cX6_bucketOf 21 = .ok (.iinc 2 1, 3) := by decide +kernel
theorem dX6_bucketOf_24 : decode cX6_bucketOf 24 = .ok (.goto (-22), 3) := by decide +kernel
theorem dX6_bucketOf_27 : decode cX6_bucketOf 27 = .ok (.iload_n 2, 1) := by decide +kernel
theorem dX6_bucketOf_28 : decode cX6_bucketOf 28 = .ok (.ireturn, 1) := by decide +kernel
theorem dX6_drops_0 : decode cX6_drops 0 = .ok (.aload_n 0, 1) := by decide +kernel
theorem dX6_drops_1 : decode cX6_drops 1 = .ok (.getfield 7, 3) := by decide +kernel
theorem dX6_drops_4 : decode cX6_drops 4 = .ok (.iload_n 1, 1) := by decide +kernel
theorem dX6_drops_5 : decode cX6_drops 5 = .ok (.iconst 3, 1) := by decide +kernel
theorem dX6_drops_6 : decode cX6_drops 6 = .ok (.iadd, 1) := by decide +kernel
theorem dX6_drops_7 : decode cX6_drops 7 = .ok (.iload_n 2, 1) := by decide +kernel
theorem dX6_drops_8 : decode cX6_drops 8 = .ok (.iadd, 1) := by decide +kernel
theorem dX6_drops_9 : decode cX6_drops 9 = .ok (.dup2, 1) := by decide +kernel
theorem dX6_drops_10 : decode cX6_drops 10 = .ok (.iaload, 1) := by decide +kernel
theorem dX6_drops_11 : decode cX6_drops 11 = .ok (.iconst 1, 1) := by decide +kernel
theorem dX6_drops_12 : decode cX6_drops 12 = .ok (.isub, 1) := by decide +kernel
theorem dX6_drops_13 : decode cX6_drops 13 = .ok (.iastore, 1) := by decide +kernel
theorem dX6_drops_14 : decode cX6_drops 14 = .ok (.iconst 4, 1) := by decide +kernel
theorem dX6_drops_15 : decode cX6_drops 15 = .ok (.iload_n 2, 1) := by decide +kernel
theorem dX6_drops_16 : decode cX6_drops 16 = .ok (.imul, 1) := by decide +kernel
theorem dX6_drops_17 : decode cX6_drops 17 = .ok (.iload_n 3, 1) := by decide +kernel
theorem dX6_drops_18 : decode cX6_drops 18 = .ok (.iadd, 1) := by decide +kernel
theorem dX6_drops_19 : decode cX6_drops 19 = .ok (.istore 4, 2) := by decide +kernel
theorem dX6_drops_21 : decode cX6_drops 21 = .ok (.iload 4, 2) := by decide +kernel
theorem dX6_drops_23 : decode cX6_drops 23 = .ok (.iconst 4, 1) := by decide +kernel
theorem dX6_drops_24 : decode cX6_drops 24 = .ok (.iload_n 2, 1) := by decide +kernel
theorem dX6_drops_25 : decode cX6_drops 25 = .ok (.imul, 1) := by decide +kernel
theorem dX6_drops_26 : decode cX6_drops 26 = .ok (.aload_n 0, 1) := by decide +kernel
theorem dX6_drops_27 : decode cX6_drops 27 = .ok (.getfield 7, 3) := by decide +kernel
theorem dX6_drops_30 : decode cX6_drops 30 = .ok (.iload_n 1, 1) := by decide +kernel
theorem dX6_drops_31 : decode cX6_drops 31 = .ok (.iconst 3, 1) := by decide +kernel
theorem dX6_drops_32 : decode cX6_drops 32 = .ok (.iadd, 1) := by decide +kernel
theorem dX6_drops_33 : decode cX6_drops 33 = .ok (.iload_n 2, 1) := by decide +kernel
theorem dX6_drops_34 : decode cX6_drops 34 = .ok (.iadd, 1) := by decide +kernel
theorem dX6_drops_35 : decode cX6_drops 35 = .ok (.iaload, 1) := by decide +kernel
theorem dX6_drops_36 : decode cX6_drops 36 = .ok (.iadd, 1) := by decide +kernel
theorem dX6_drops_37 : decode cX6_drops 37 = .ok (.if_icmp .ge 61, 3) := by decide +kernel
theorem dX6_drops_40 : decode cX6_drops 40 = .ok (.aload_n 0, 1) := by decide +kernel
theorem dX6_drops_41 : decode cX6_drops 41 = .ok (.getfield 7, 3) := by decide +kernel
theorem dX6_drops_44 : decode cX6_drops 44 = .ok (.iload_n 1, 1) := by decide +kernel
theorem dX6_drops_45 : decode cX6_drops 45 = .ok (.bipush 11, 2) := by decide +kernel
theorem dX6_drops_47 : decode cX6_drops 47 = .ok (.iadd, 1) := by decide +kernel
theorem dX6_drops_48 : decode cX6_drops 48 = .ok (.iload 4, 2) := by decide +kernel
theorem dX6_drops_50 : decode cX6_drops 50 = .ok (.iadd, 1) := by decide +kernel
theorem dX6_drops_51 : decode cX6_drops 51 = .ok (.aload_n 0, 1) := by decide +kernel
theorem dX6_drops_52 : decode cX6_drops 52 = .ok (.getfield 7, 3) := by decide +kernel
theorem dX6_drops_55 : decode cX6_drops 55 = .ok (.iload_n 1, 1) := by decide +kernel
theorem dX6_drops_56 : decode cX6_drops 56 = .ok (.bipush 11, 2) := by decide +kernel
theorem dX6_drops_58 : decode cX6_drops 58 = .ok (.iadd, 1) := by decide +kernel
theorem dX6_drops_59 : decode cX6_drops 59 = .ok (.iload 4, 2) := by decide +kernel
theorem dX6_drops_61 : decode cX6_drops 61 = .ok (.iadd, 1) := by decide +kernel
theorem dX6_drops_62 : decode cX6_drops 62 = .ok (.iconst 1, 1) := by decide +kernel
theorem dX6_drops_63 : decode cX6_drops 63 = .ok (.iadd, 1) := by decide +kernel
theorem dX6_drops_64 : decode cX6_drops 64 = .ok (.iaload, 1) := by decide +kernel
theorem dX6_drops_65 : decode cX6_drops 65 = .ok (.iastore, 1) := by decide +kernel
theorem dX6_drops_66 : decode cX6_drops 66 = .ok (.aload_n 0, 1) := by decide +kernel
theorem dX6_drops_67 : decode cX6_drops 67 = .ok (.getfield 7, 3) := by decide +kernel
theorem dX6_drops_70 : decode cX6_drops 70 = .ok (.iload_n 1, 1) := by decide +kernel
theorem dX6_drops_71 : decode cX6_drops 71 = .ok (.bipush 43, 2) := by decide +kernel
theorem dX6_drops_73 : decode cX6_drops 73 = .ok (.iadd, 1) := by decide +kernel
theorem dX6_drops_74 : decode cX6_drops 74 = .ok (.iload 4, 2) := by decide +kernel
theorem dX6_drops_76 : decode cX6_drops 76 = .ok (.iadd, 1) := by decide +kernel
theorem dX6_drops_77 : decode cX6_drops 77 = .ok (.aload_n 0, 1) := by decide +kernel
theorem dX6_drops_78 : decode cX6_drops 78 = .ok (.getfield 7, 3) := by decide +kernel
theorem dX6_drops_81 : decode cX6_drops 81 = .ok (.iload_n 1, 1) := by decide +kernel
theorem dX6_drops_82 : decode cX6_drops 82 = .ok (.bipush 43, 2) := by decide +kernel
theorem dX6_drops_84 : decode cX6_drops 84 = .ok (.iadd, 1) := by decide +kernel
theorem dX6_drops_85 : decode cX6_drops 85 = .ok (.iload 4, 2) := by decide +kernel
theorem dX6_drops_87 : decode cX6_drops 87 = .ok (.iadd, 1) := by decide +kernel
theorem dX6_drops_88 : decode cX6_drops 88 = .ok (.iconst 1, 1) := by decide +kernel
theorem dX6_drops_89 : decode cX6_drops 89 = .ok (.iadd, 1) := by decide +kernel
theorem dX6_drops_90 : decode cX6_drops 90 = .ok (.iaload, 1) := by decide +kernel
theorem dX6_drops_91 : decode cX6_drops 91 = .ok (.iastore, 1) := by decide +kernel
theorem dX6_drops_92 : decode cX6_drops 92 = .ok (.iinc 4 1, 3) := by decide +kernel
theorem dX6_drops_95 : decode cX6_drops 95 = .ok (.goto (-74), 3) := by decide +kernel
theorem dX6_drops_98 : decode cX6_drops 98 = .ok (.return_, 1) := by decide +kernel
theorem dX6_adds_0 : decode cX6_adds 0 = .ok (.iconst 4, 1) := by decide +kernel
theorem dX6_adds_1 : decode cX6_adds 1 = .ok (.iload_n 2, 1) := by decide +kernel
theorem dX6_adds_2 : decode cX6_adds 2 = .ok (.imul, 1) := by decide +kernel
theorem dX6_adds_3 : decode cX6_adds 3 = .ok (.aload_n 0, 1) := by decide +kernel
theorem dX6_adds_4 : decode cX6_adds 4 = .ok (.getfield 7, 3) := by decide +kernel
theorem dX6_adds_7 : decode cX6_adds 7 = .ok (.iload_n 1, 1) := by decide +kernel
theorem dX6_adds_8 : decode cX6_adds 8 = .ok (.iconst 3, 1) := by decide +kernel
theorem dX6_adds_9 : decode cX6_adds 9 = .ok (.iadd, 1) := by decide +kernel
theorem dX6_adds_10 : decode cX6_adds 10 = .ok (.iload_n 2, 1) := by decide +kernel
theorem dX6_adds_11 : decode cX6_adds 11 = .ok (.iadd, 1) := by decide +kernel
theorem dX6_adds_12 : decode cX6_adds 12 = .ok (.iaload, 1) := by decide +kernel
theorem dX6_adds_13 : decode cX6_adds 13 = .ok (.iadd, 1) := by decide +kernel
theorem dX6_adds_14 : decode cX6_adds 14 = .ok (.istore 5, 2) := by decide +kernel
theorem dX6_adds_16 : decode cX6_adds 16 = .ok (.aload_n 0, 1) := by decide +kernel
theorem dX6_adds_17 : decode cX6_adds 17 = .ok (.getfield 7, 3) := by decide +kernel
theorem dX6_adds_20 : decode cX6_adds 20 = .ok (.iload_n 1, 1) := by decide +kernel
theorem dX6_adds_21 : decode cX6_adds 21 = .ok (.bipush 11, 2) := by decide +kernel
theorem dX6_adds_23 : decode cX6_adds 23 = .ok (.iadd, 1) := by decide +kernel
theorem dX6_adds_24 : decode cX6_adds 24 = .ok (.iload 5, 2) := by decide +kernel
theorem dX6_adds_26 : decode cX6_adds 26 = .ok (.iadd, 1) := by decide +kernel
theorem dX6_adds_27 : decode cX6_adds 27 = .ok (.iload_n 3, 1) := by decide +kernel
theorem dX6_adds_28 : decode cX6_adds 28 = .ok (.iastore, 1) := by decide +kernel
theorem dX6_adds_29 : decode cX6_adds 29 = .ok (.aload_n 0, 1) := by decide +kernel
theorem dX6_adds_30 : decode cX6_adds 30 = .ok (.getfield 7, 3) := by decide +kernel
theorem dX6_adds_33 : decode cX6_adds 33 = .ok (.iload_n 1, 1) := by decide +kernel
theorem dX6_adds_34 : decode cX6_adds 34 = .ok (.bipush 43, 2) := by decide +kernel
theorem dX6_adds_36 : decode cX6_adds 36 = .ok (.iadd, 1) := by decide +kernel
theorem dX6_adds_37 : decode cX6_adds 37 = .ok (.iload 5, 2) := by decide +kernel
theorem dX6_adds_39 : decode cX6_adds 39 = .ok (.iadd, 1) := by decide +kernel
theorem dX6_adds_40 : decode cX6_adds 40 = .ok (.iload 4, 2) := by decide +kernel
theorem dX6_adds_42 : decode cX6_adds 42 = .ok (.iastore, 1) := by decide +kernel
theorem dX6_adds_43 : decode cX6_adds 43 = .ok (.aload_n 0, 1) := by decide +kernel
theorem dX6_adds_44 : decode cX6_adds 44 = .ok (.getfield 7, 3) := by decide +kernel
theorem dX6_adds_47 : decode cX6_adds 47 = .ok (.iload_n 1, 1) := by decide +kernel
theorem dX6_adds_48 : decode cX6_adds 48 = .ok (.iconst 3, 1) := by decide +kernel
theorem dX6_adds_49 : decode cX6_adds 49 = .ok (.iadd, 1) := by decide +kernel
theorem dX6_adds_50 : decode cX6_adds 50 = .ok (.iload_n 2, 1) := by decide +kernel
theorem dX6_adds_51 : decode cX6_adds 51 = .ok (.iadd, 1) := by decide +kernel
theorem dX6_adds_52 : decode cX6_adds 52 = .ok (.dup2, 1) := by decide +kernel
theorem dX6_adds_53 : decode cX6_adds 53 = .ok (.iaload, 1) := by decide +kernel
theorem dX6_adds_54 : decode cX6_adds 54 = .ok (.iconst 1, 1) := by decide +kernel
theorem dX6_adds_55 : decode cX6_adds 55 = .ok (.iadd, 1) := by decide +kernel
theorem dX6_adds_56 : decode cX6_adds 56 = .ok (.iastore, 1) := by decide +kernel
theorem dX6_adds_57 : decode cX6_adds 57 = .ok (.return_, 1) := by decide +kernel
theorem dX6_placeIn_0 : decode cX6_placeIn 0 = .ok (.iconst 0, 1) := by decide +kernel
theorem dX6_placeIn_1 : decode cX6_placeIn 1 = .ok (.istore 4, 2) := by decide +kernel
theorem dX6_placeIn_3 : decode cX6_placeIn 3 = .ok (.iload 4, 2) := by decide +kernel
theorem dX6_placeIn_5 : decode cX6_placeIn 5 = .ok (.aload_n 0, 1) := by decide +kernel
theorem dX6_placeIn_6 : decode cX6_placeIn 6 = .ok (.getfield 7, 3) := by decide +kernel
theorem dX6_placeIn_9 : decode cX6_placeIn 9 = .ok (.iload_n 1, 1) := by decide +kernel
theorem dX6_placeIn_10 : decode cX6_placeIn 10 = .ok (.iconst 3, 1) := by decide +kernel
theorem dX6_placeIn_11 : decode cX6_placeIn 11 = .ok (.iadd, 1) := by decide +kernel
theorem dX6_placeIn_12 : decode cX6_placeIn 12 = .ok (.iload_n 2, 1) := by decide +kernel
theorem dX6_placeIn_13 : decode cX6_placeIn 13 = .ok (.iadd, 1) := by decide +kernel
theorem dX6_placeIn_14 : decode cX6_placeIn 14 = .ok (.iaload, 1) := by decide +kernel
theorem dX6_placeIn_15 : decode cX6_placeIn 15 = .ok (.if_icmp .ge 32, 3) := by decide +kernel
theorem dX6_placeIn_18 : decode cX6_placeIn 18 = .ok (.aload_n 0, 1) := by decide +kernel
theorem dX6_placeIn_19 : decode cX6_placeIn 19 = .ok (.getfield 7, 3) := by decide +kernel
theorem dX6_placeIn_22 : decode cX6_placeIn 22 = .ok (.iload_n 1, 1) := by decide +kernel
theorem dX6_placeIn_23 : decode cX6_placeIn 23 = .ok (.bipush 11, 2) := by decide +kernel
theorem dX6_placeIn_25 : decode cX6_placeIn 25 = .ok (.iadd, 1) := by decide +kernel
theorem dX6_placeIn_26 : decode cX6_placeIn 26 = .ok (.iconst 4, 1) := by decide +kernel
theorem dX6_placeIn_27 : decode cX6_placeIn 27 = .ok (.iload_n 2, 1) := by decide +kernel
theorem dX6_placeIn_28 : decode cX6_placeIn 28 = .ok (.imul, 1) := by decide +kernel
theorem dX6_placeIn_29 : decode cX6_placeIn 29 = .ok (.iadd, 1) := by decide +kernel
theorem dX6_placeIn_30 : decode cX6_placeIn 30 = .ok (.iload 4, 2) := by decide +kernel
theorem dX6_placeIn_32 : decode cX6_placeIn 32 = .ok (.iadd, 1) := by decide +kernel
theorem dX6_placeIn_33 : decode cX6_placeIn 33 = .ok (.iaload, 1) := by decide +kernel
theorem dX6_placeIn_34 : decode cX6_placeIn 34 = .ok (.iload_n 3, 1) := by decide +kernel
theorem dX6_placeIn_35 : decode cX6_placeIn 35 = .ok (.if_icmp .ne 6, 3) := by decide +kernel
theorem dX6_placeIn_38 : decode cX6_placeIn 38 = .ok (.iload 4, 2) := by decide +kernel
theorem dX6_placeIn_40 : decode cX6_placeIn 40 = .ok (.ireturn, 1) := by decide +kernel
theorem dX6_placeIn_41 : decode cX6_placeIn 41 = .ok (.iinc 4 1, 3) := by decide +kernel
theorem dX6_placeIn_44 : decode cX6_placeIn 44 = .ok (.goto (-41), 3) := by decide +kernel
theorem dX6_placeIn_47 : decode cX6_placeIn 47 = .ok (.iconst (-1), 1) := by decide +kernel
theorem dX6_placeIn_48 : decode cX6_placeIn 48 = .ok (.ireturn, 1) := by decide +kernel
theorem dX6_inBucket_0 : decode cX6_inBucket 0 = .ok (.iconst 0, 1) := by decide +kernel
theorem dX6_inBucket_1 : decode cX6_inBucket 1 = .ok (.istore 4, 2) := by decide +kernel
theorem dX6_inBucket_3 : decode cX6_inBucket 3 = .ok (.iconst 0, 1) := by decide +kernel
theorem dX6_inBucket_4 : decode cX6_inBucket 4 = .ok (.istore 5, 2) := by decide +kernel
theorem dX6_inBucket_6 : decode cX6_inBucket 6 = .ok (.iload 5, 2) := by decide +kernel
theorem dX6_inBucket_8 : decode cX6_inBucket 8 = .ok (.aload_n 0, 1) := by decide +kernel
theorem dX6_inBucket_9 : decode cX6_inBucket 9 = .ok (.getfield 7, 3) := by decide +kernel
theorem dX6_inBucket_12 : decode cX6_inBucket 12 = .ok (.iload_n 1, 1) := by decide +kernel
theorem dX6_inBucket_13 : decode cX6_inBucket 13 = .ok (.iconst 3, 1) := by decide +kernel
theorem dX6_inBucket_14 : decode cX6_inBucket 14 = .ok (.iadd, 1) := by decide +kernel
theorem dX6_inBucket_15 : decode cX6_inBucket 15 = .ok (.iload_n 2, 1) := by decide +kernel
theorem dX6_inBucket_16 : decode cX6_inBucket 16 = .ok (.iadd, 1) := by decide +kernel
theorem dX6_inBucket_17 : decode cX6_inBucket 17 = .ok (.iaload, 1) := by decide +kernel
theorem dX6_inBucket_18 : decode cX6_inBucket 18 = .ok (.if_icmp .ge 39, 3) := by decide +kernel
theorem dX6_inBucket_21 : decode cX6_inBucket 21 = .ok (.iload 4, 2) := by decide +kernel
theorem dX6_inBucket_23 : decode cX6_inBucket 23 = .ok (.aload_n 0, 1) := by decide +kernel
theorem dX6_inBucket_24 : decode cX6_inBucket 24 = .ok (.getfield 7, 3) := by decide +kernel
theorem dX6_inBucket_27 : decode cX6_inBucket 27 = .ok (.iload_n 1, 1) := by decide +kernel
theorem dX6_inBucket_28 : decode cX6_inBucket 28 = .ok (.bipush 43, 2) := by decide +kernel
theorem dX6_inBucket_30 : decode cX6_inBucket 30 = .ok (.iadd, 1) := by decide +kernel
theorem dX6_inBucket_31 : decode cX6_inBucket 31 = .ok (.iconst 4, 1) := by decide +kernel
theorem dX6_inBucket_32 : decode cX6_inBucket 32 = .ok (.iload_n 2, 1) := by decide +kernel
theorem dX6_inBucket_33 : decode cX6_inBucket 33 = .ok (.imul, 1) := by decide +kernel
theorem dX6_inBucket_34 : decode cX6_inBucket 34 = .ok (.iadd, 1) := by decide +kernel
theorem dX6_inBucket_35 : decode cX6_inBucket 35 = .ok (.iload 5, 2) := by decide +kernel
theorem dX6_inBucket_37 : decode cX6_inBucket 37 = .ok (.iadd, 1) := by decide +kernel
theorem dX6_inBucket_38 : decode cX6_inBucket 38 = .ok (.iaload, 1) := by decide +kernel
theorem dX6_inBucket_39 : decode cX6_inBucket 39 = .ok (.iload_n 3, 1) := by decide +kernel
theorem dX6_inBucket_40 : decode cX6_inBucket 40 = .ok (.if_icmp .ne 7, 3) := by decide +kernel
theorem dX6_inBucket_43 : decode cX6_inBucket 43 = .ok (.iconst 1, 1) := by decide +kernel
theorem dX6_inBucket_44 : decode cX6_inBucket 44 = .ok (.goto 4, 3) := by decide +kernel
theorem dX6_inBucket_47 : decode cX6_inBucket 47 = .ok (.iconst 0, 1) := by decide +kernel
theorem dX6_inBucket_48 : decode cX6_inBucket 48 = .ok (.iadd, 1) := by decide +kernel
theorem dX6_inBucket_49 : decode cX6_inBucket 49 = .ok (.istore 4, 2) := by decide +kernel
theorem dX6_inBucket_51 : decode cX6_inBucket 51 = .ok (.iinc 5 1, 3) := by decide +kernel
theorem dX6_inBucket_54 : decode cX6_inBucket 54 = .ok (.goto (-48), 3) := by decide +kernel
theorem dX6_inBucket_57 : decode cX6_inBucket 57 = .ok (.iload 4, 2) := by decide +kernel
theorem dX6_inBucket_59 : decode cX6_inBucket 59 = .ok (.ireturn, 1) := by decide +kernel
set_option maxRecDepth 20000 in
theorem ggX6_inTable_X6_inBucket : GoodIn wsX6_inTable wsX6_inBucket := goodIn_r _ [5, 6, 7, 8, 9, 10, 11, 12, 13, 14, 15, 16, 17, 18, 19, 20, 21] (by decide +kernel) (by decide +kernel)
set_option maxRecDepth 20000 in
theorem gX6_inTable_X6_inBucket : GoodIn wsX6_inTable (wsV RX6 53 RX6 yX6_inBucket wsX6_inBucket) := goodIn_app (goodIn_of _ (by decide +kernel)) ggX6_inTable_X6_inBucket
theorem dX6_inTable_0 : decode cX6_inTable 0 = .ok (.iconst 0, 1) := by decide +kernel
theorem dX6_inTable_1 : decode cX6_inTable 1 = .ok (.istore_n 3, 1) := by decide +kernel
theorem dX6_inTable_2 : decode cX6_inTable 2 = .ok (.iconst 0, 1) := by decide +kernel
theorem dX6_inTable_3 : decode cX6_inTable 3 = .ok (.istore 4, 2) := by decide +kernel
theorem dX6_inTable_5 : decode cX6_inTable 5 = .ok (.iload 4, 2) := by decide +kernel
theorem dX6_inTable_7 : decode cX6_inTable 7 = .ok (.bipush 8, 2) := by decide +kernel
theorem dX6_inTable_9 : decode cX6_inTable 9 = .ok (.if_icmp .ge 20, 3) := by decide +kernel
theorem dX6_inTable_12 : decode cX6_inTable 12 = .ok (.iload_n 3, 1) := by decide +kernel
theorem dX6_inTable_13 : decode cX6_inTable 13 = .ok (.aload_n 0, 1) := by decide +kernel
theorem dX6_inTable_14 : decode cX6_inTable 14 = .ok (.iload_n 1, 1) := by decide +kernel
theorem dX6_inTable_15 : decode cX6_inTable 15 = .ok (.iload 4, 2) := by decide +kernel
theorem dX6_inTable_17 : decode cX6_inTable 17 = .ok (.iload_n 2, 1) := by decide +kernel
theorem dX6_inTable_18 : decode cX6_inTable 18 = .ok (.invokevirtual 53, 3) := by decide +kernel
theorem dX6_inTable_21 : decode cX6_inTable 21 = .ok (.iadd, 1) := by decide +kernel
theorem dX6_inTable_22 : decode cX6_inTable 22 = .ok (.istore_n 3, 1) := by decide +kernel
theorem dX6_inTable_23 : decode cX6_inTable 23 = .ok (.iinc 4 1, 3) := by decide +kernel
theorem dX6_inTable_26 : decode cX6_inTable 26 = .ok (.goto (-21), 3) := by decide +kernel
theorem dX6_inTable_29 : decode cX6_inTable 29 = .ok (.iload_n 3, 1) := by decide +kernel
theorem dX6_inTable_30 : decode cX6_inTable 30 = .ok (.ireturn, 1) := by decide +kernel
theorem dX6_entries_0 : decode cX6_entries 0 = .ok (.iconst 0, 1) := by decide +kernel
theorem dX6_entries_1 : decode cX6_entries 1 = .ok (.istore_n 2, 1) := by decide +kernel
theorem dX6_entries_2 : decode cX6_entries 2 = .ok (.iconst 0, 1) := by decide +kernel
theorem dX6_entries_3 : decode cX6_entries 3 = .ok (.istore_n 3, 1) := by decide +kernel
theorem dX6_entries_4 : decode cX6_entries 4 = .ok (.iload_n 3, 1) := by decide +kernel
theorem dX6_entries_5 : decode cX6_entries 5 = .ok (.bipush 8, 2) := by decide +kernel
theorem dX6_entries_7 : decode cX6_entries 7 = .ok (.if_icmp .ge 22, 3) := by decide +kernel
theorem dX6_entries_10 : decode cX6_entries 10 = .ok (.iload_n 2, 1) := by decide +kernel
theorem dX6_entries_11 : decode cX6_entries 11 = .ok (.aload_n 0, 1) := by decide +kernel
theorem dX6_entries_12 : decode cX6_entries 12 = .ok (.getfield 7, 3) := by decide +kernel
theorem dX6_entries_15 : decode cX6_entries 15 = .ok (.iload_n 1, 1) := by decide +kernel
theorem dX6_entries_16 : decode cX6_entries 16 = .ok (.iconst 3, 1) := by decide +kernel
theorem dX6_entries_17 : decode cX6_entries 17 = .ok (.iadd, 1) := by decide +kernel
theorem dX6_entries_18 : decode cX6_entries 18 = .ok (.iload_n 3, 1) := by decide +kernel
theorem dX6_entries_19 : decode cX6_entries 19 = .ok (.iadd, 1) := by decide +kernel
theorem dX6_entries_20 : decode cX6_entries 20 = .ok (.iaload, 1) := by decide +kernel
theorem dX6_entries_21 : decode cX6_entries 21 = .ok (.iadd, 1) := by decide +kernel
theorem dX6_entries_22 : decode cX6_entries 22 = .ok (.istore_n 2, 1) := by decide +kernel
theorem dX6_entries_23 : decode cX6_entries 23 = .ok (.iinc 3 1, 3) := by decide +kernel
theorem dX6_entries_26 : decode cX6_entries 26 = .ok (.goto (-22), 3) := by decide +kernel
theorem dX6_entries_29 : decode cX6_entries 29 = .ok (.iload_n 2, 1) := by decide +kernel
theorem dX6_entries_30 : decode cX6_entries 30 = .ok (.ireturn, 1) := by decide +kernel
set_option maxRecDepth 20000 in
theorem ggX6_learns_X6_placeOf : GoodIn wsX6_learns wsX6_placeOf := goodIn_r _ [6, 1, 7, 8, 5, 9, 43, 44, 45, 46, 47, 48, 49, 50, 51, 52, 53, 54, 55, 56, 57] (by decide +kernel) (by decide +kernel)
set_option maxRecDepth 20000 in
theorem gX6_learns_X6_placeOf : GoodIn wsX6_learns (wsV RX6 50 RX6 yX6_placeOf wsX6_placeOf) := goodIn_app (goodIn_of _ (by decide +kernel)) ggX6_learns_X6_placeOf
set_option maxRecDepth 20000 in
theorem ggX6_learns_X6_bucketOf : GoodIn wsX6_learns wsX6_bucketOf := goodIn_r _ [12] (by decide +kernel) (by decide +kernel)
set_option maxRecDepth 20000 in
theorem gX6_learns_X6_bucketOf : GoodIn wsX6_learns (va_wsS RX6 57 yX6_bucketOf wsX6_bucketOf) := goodIn_app (goodIn_of _ (by decide +kernel)) ggX6_learns_X6_bucketOf
set_option maxRecDepth 20000 in
theorem ggX6_learns_X6_placeIn : GoodIn wsX6_learns wsX6_placeIn := goodIn_r _ [16, 1, 43, 44, 45, 46, 47, 48, 49, 50, 51, 52, 53, 54, 55, 56, 57] (by decide +kernel) (by decide +kernel)
set_option maxRecDepth 20000 in
theorem gX6_learns_X6_placeIn : GoodIn wsX6_learns (wsV RX6 61 RX6 yX6_placeIn wsX6_placeIn) := goodIn_app (goodIn_of _ (by decide +kernel)) ggX6_learns_X6_placeIn
set_option maxRecDepth 20000 in
theorem ggX6_learns_X6_drops : GoodIn wsX6_learns wsX6_drops := goodIn_r _ [20, 1, 43, 44, 45, 46, 47, 48, 49, 50, 51, 52, 53, 54, 55, 56, 57] (by decide +kernel) (by decide +kernel)
set_option maxRecDepth 20000 in
theorem gX6_learns_X6_drops : GoodIn wsX6_learns (wsV RX6 64 RX6 yX6_drops wsX6_drops) := goodIn_app (goodIn_of _ (by decide +kernel)) ggX6_learns_X6_drops
set_option maxRecDepth 20000 in
theorem ggX6_learns_X6_adds : GoodIn wsX6_learns wsX6_adds := goodIn_r _ [24, 1, 43, 44, 45, 46, 47, 48, 49, 50, 51, 52, 53, 54, 55, 56, 57] (by decide +kernel) (by decide +kernel)
set_option maxRecDepth 20000 in
theorem gX6_learns_X6_adds : GoodIn wsX6_learns (wsV RX6 68 RX6 yX6_adds wsX6_adds) := goodIn_app (goodIn_of _ (by decide +kernel)) ggX6_learns_X6_adds
set_option maxRecDepth 20000 in
theorem ggX6_learns_X6_inBucket : GoodIn wsX6_learns wsX6_inBucket := goodIn_r _ [28, 1, 43, 44, 45, 46, 47, 48, 49, 50, 51, 52, 53, 54, 55, 56, 57] (by decide +kernel) (by decide +kernel)
set_option maxRecDepth 20000 in
theorem gX6_learns_X6_inBucket : GoodIn wsX6_learns (wsV RX6 53 RX6 yX6_inBucket wsX6_inBucket) := goodIn_app (goodIn_of _ (by decide +kernel)) ggX6_learns_X6_inBucket
set_option maxRecDepth 20000 in
theorem ggX6_learns_X6_inTable : GoodIn wsX6_learns wsX6_inTable := goodIn_r _ [32, 25, 26, 27, 5, 28, 1, 43, 44, 45, 46, 47, 48, 49, 50, 51, 52, 53, 54, 55, 56, 57] (by decide +kernel) (by decide +kernel)
set_option maxRecDepth 20000 in
theorem gX6_learns_X6_inTable : GoodIn wsX6_learns (wsV RX6 72 RX6 yX6_inTable wsX6_inTable) := goodIn_app (goodIn_of _ (by decide +kernel)) ggX6_learns_X6_inTable
set_option maxRecDepth 20000 in
theorem ggX6_learns_X6_isMember : GoodIn wsX6_learns wsX6_isMember := goodIn_r _ [36, 37, 38, 5, 39, 40, 41, 42, 2, 3, 4, 6, 1, 7, 8, 9, 43, 44, 45, 46, 47, 48, 49, 50, 51, 52, 53, 54, 55, 56, 57] (by decide +kernel) (by decide +kernel)
set_option maxRecDepth 20000 in
theorem gX6_learns_X6_isMember : GoodIn wsX6_learns (wsV RX6 75 RX6 yX6_isMember wsX6_isMember) := goodIn_app (goodIn_of _ (by decide +kernel)) ggX6_learns_X6_isMember
theorem dX6_learns_0 : decode cX6_learns 0 = .ok (.aload_n 0, 1) := by decide +kernel
theorem dX6_learns_1 : decode cX6_learns 1 = .ok (.iload_n 1, 1) := by decide +kernel
theorem dX6_learns_2 : decode cX6_learns 2 = .ok (.invokevirtual 50, 3) := by decide +kernel
theorem dX6_learns_5 : decode cX6_learns 5 = .ok (.istore_n 3, 1) := by decide +kernel
theorem dX6_learns_6 : decode cX6_learns 6 = .ok (.iload_n 1, 1) := by decide +kernel
theorem dX6_learns_7 : decode cX6_learns 7 = .ok (.iload_n 2, 1) := by decide +kernel
theorem dX6_learns_8 : decode cX6_learns 8 = .ok (.invokestatic 57, 3) := by decide +kernel
theorem dX6_learns_11 : decode cX6_learns 11 = .ok (.istore 4, 2) := by decide +kernel
theorem dX6_learns_13 : decode cX6_learns 13 = .ok (.aload_n 0, 1) := by decide +kernel
theorem dX6_learns_14 : decode cX6_learns 14 = .ok (.getfield 7, 3) := by decide +kernel
theorem dX6_learns_17 : decode cX6_learns 17 = .ok (.aload_n 0, 1) := by decide +kernel
theorem dX6_learns_18 : decode cX6_learns 18 = .ok (.iload_n 2, 1) := by decide +kernel
theorem dX6_learns_19 : decode cX6_learns 19 = .ok (.invokevirtual 50, 3) := by decide +kernel
theorem dX6_learns_22 : decode cX6_learns 22 = .ok (.iconst 1, 1) := by decide +kernel
theorem dX6_learns_23 : decode cX6_learns 23 = .ok (.iadd, 1) := by decide +kernel
theorem dX6_learns_24 : decode cX6_learns 24 = .ok (.iaload, 1) := by decide +kernel
theorem dX6_learns_25 : decode cX6_learns 25 = .ok (.istore 5, 2) := by decide +kernel
theorem dX6_learns_27 : decode cX6_learns 27 = .ok (.aload_n 0, 1) := by decide +kernel
theorem dX6_learns_28 : decode cX6_learns 28 = .ok (.iload_n 3, 1) := by decide +kernel
theorem dX6_learns_29 : decode cX6_learns 29 = .ok (.iload 4, 2) := by decide +kernel
theorem dX6_learns_31 : decode cX6_learns 31 = .ok (.iload_n 2, 1) := by decide +kernel
theorem dX6_learns_32 : decode cX6_learns 32 = .ok (.invokevirtual 61, 3) := by decide +kernel
theorem dX6_learns_35 : decode cX6_learns 35 = .ok (.istore 6, 2) := by decide +kernel
theorem dX6_learns_37 : decode cX6_learns 37 = .ok (.iload 6, 2) := by decide +kernel
theorem dX6_learns_39 : decode cX6_learns 39 = .ok (.iconst (-1), 1) := by decide +kernel
theorem dX6_learns_40 : decode cX6_learns 40 = .ok (.if_icmp .eq 23, 3) := by decide +kernel
theorem dX6_learns_43 : decode cX6_learns 43 = .ok (.aload_n 0, 1) := by decide +kernel
theorem dX6_learns_44 : decode cX6_learns 44 = .ok (.iload_n 3, 1) := by decide +kernel
theorem dX6_learns_45 : decode cX6_learns 45 = .ok (.iload 4, 2) := by decide +kernel
theorem dX6_learns_47 : decode cX6_learns 47 = .ok (.iload 6, 2) := by decide +kernel
theorem dX6_learns_49 : decode cX6_learns 49 = .ok (.invokevirtual 64, 3) := by decide +kernel
theorem dX6_learns_52 : decode cX6_learns 52 = .ok (.aload_n 0, 1) := by decide +kernel
theorem dX6_learns_53 : decode cX6_learns 53 = .ok (.iload_n 3, 1) := by decide +kernel
theorem dX6_learns_54 : decode cX6_learns 54 = .ok (.iload 4, 2) := by decide +kernel
theorem dX6_learns_56 : decode cX6_learns 56 = .ok (.iload_n 2, 1) := by decide +kernel
theorem dX6_learns_57 : decode cX6_learns 57 = .ok (.iload 5, 2) := by decide +kernel
theorem dX6_learns_59 : decode cX6_learns 59 = .ok (.invokevirtual 68, 3) := by decide +kernel
theorem dX6_learns_62 : decode cX6_learns 62 = .ok (.return_, 1) := by decide +kernel
theorem dX6_learns_63 : decode cX6_learns 63 = .ok (.aload_n 0, 1) := by decide +kernel
theorem dX6_learns_64 : decode cX6_learns 64 = .ok (.getfield 7, 3) := by decide +kernel
theorem dX6_learns_67 : decode cX6_learns 67 = .ok (.iload_n 3, 1) := by decide +kernel
theorem dX6_learns_68 : decode cX6_learns 68 = .ok (.iconst 3, 1) := by decide +kernel
theorem dX6_learns_69 : decode cX6_learns 69 = .ok (.iadd, 1) := by decide +kernel
theorem dX6_learns_70 : decode cX6_learns 70 = .ok (.iload 4, 2) := by decide +kernel
theorem dX6_learns_72 : decode cX6_learns 72 = .ok (.iadd, 1) := by decide +kernel
theorem dX6_learns_73 : decode cX6_learns 73 = .ok (.iaload, 1) := by decide +kernel
theorem dX6_learns_74 : decode cX6_learns 74 = .ok (.iconst 4, 1) := by decide +kernel
theorem dX6_learns_75 : decode cX6_learns 75 = .ok (.if_icmp .ne 7, 3) := by decide +kernel
theorem dX6_learns_78 : decode cX6_learns 78 = .ok (.iconst 1, 1) := by decide +kernel
theorem dX6_learns_79 : decode cX6_learns 79 = .ok (.goto 4, 3) := by decide +kernel
theorem dX6_learns_82 : decode cX6_learns 82 = .ok (.iconst 0, 1) := by decide +kernel
theorem dX6_learns_83 : decode cX6_learns 83 = .ok (.istore 7, 2) := by decide +kernel
theorem dX6_learns_85 : decode cX6_learns 85 = .ok (.aload_n 0, 1) := by decide +kernel
theorem dX6_learns_86 : decode cX6_learns 86 = .ok (.getfield 7, 3) := by decide +kernel
theorem dX6_learns_89 : decode cX6_learns 89 = .ok (.iload_n 3, 1) := by decide +kernel
theorem dX6_learns_90 : decode cX6_learns 90 = .ok (.bipush 11, 2) := by decide +kernel
theorem dX6_learns_92 : decode cX6_learns 92 = .ok (.iadd, 1) := by decide +kernel
theorem dX6_learns_93 : decode cX6_learns 93 = .ok (.iconst 4, 1) := by decide +kernel
theorem dX6_learns_94 : decode cX6_learns 94 = .ok (.iload 4, 2) := by decide +kernel
theorem dX6_learns_96 : decode cX6_learns 96 = .ok (.imul, 1) := by decide +kernel
theorem dX6_learns_97 : decode cX6_learns 97 = .ok (.iadd, 1) := by decide +kernel
theorem dX6_learns_98 : decode cX6_learns 98 = .ok (.iaload, 1) := by decide +kernel
theorem dX6_learns_99 : decode cX6_learns 99 = .ok (.istore 8, 2) := by decide +kernel
theorem dX6_learns_101 : decode cX6_learns 101 = .ok (.aload_n 0, 1) := by decide +kernel
theorem dX6_learns_102 : decode cX6_learns 102 = .ok (.iload_n 3, 1) := by decide +kernel
theorem dX6_learns_103 : decode cX6_learns 103 = .ok (.iload 4, 2) := by decide +kernel
theorem dX6_learns_105 : decode cX6_learns 105 = .ok (.iload 5, 2) := by decide +kernel
theorem dX6_learns_107 : decode cX6_learns 107 = .ok (.invokevirtual 53, 3) := by decide +kernel
theorem dX6_learns_110 : decode cX6_learns 110 = .ok (.aload_n 0, 1) := by decide +kernel
theorem dX6_learns_111 : decode cX6_learns 111 = .ok (.getfield 7, 3) := by decide +kernel
theorem dX6_learns_114 : decode cX6_learns 114 = .ok (.iconst 3, 1) := by decide +kernel
theorem dX6_learns_115 : decode cX6_learns 115 = .ok (.iaload, 1) := by decide +kernel
theorem dX6_learns_116 : decode cX6_learns 116 = .ok (.if_icmp .lt 7, 3) := by decide +kernel
theorem dX6_learns_119 : decode cX6_learns 119 = .ok (.iconst 0, 1) := by decide +kernel
theorem dX6_learns_120 : decode cX6_learns 120 = .ok (.goto 42, 3) := by decide +kernel
theorem dX6_learns_123 : decode cX6_learns 123 = .ok (.aload_n 0, 1) := by decide +kernel
theorem dX6_learns_124 : decode cX6_learns 124 = .ok (.iload_n 3, 1) := by decide +kernel
theorem dX6_learns_125 : decode cX6_learns 125 = .ok (.iload 5, 2) := by decide +kernel
theorem dX6_learns_127 : decode cX6_learns 127 = .ok (.invokevirtual 72, 3) := by decide +kernel
theorem dX6_learns_130 : decode cX6_learns 130 = .ok (.aload_n 0, 1) := by decide +kernel
theorem dX6_learns_131 : decode cX6_learns 131 = .ok (.getfield 7, 3) := by decide +kernel
theorem dX6_learns_134 : decode cX6_learns 134 = .ok (.iconst 4, 1) := by decide +kernel
theorem dX6_learns_135 : decode cX6_learns 135 = .ok (.iaload, 1) := by decide +kernel
theorem dX6_learns_136 : decode cX6_learns 136 = .ok (.if_icmp .lt 7, 3) := by decide +kernel
theorem dX6_learns_139 : decode cX6_learns 139 = .ok (.iconst 1, 1) := by decide +kernel
theorem dX6_learns_140 : decode cX6_learns 140 = .ok (.goto 22, 3) := by decide +kernel
theorem dX6_learns_143 : decode cX6_learns 143 = .ok (.iload 7, 2) := by decide +kernel
theorem dX6_learns_145 : decode cX6_learns 145 = .ok (.ifCond .eq 16, 3) := by decide +kernel
theorem dX6_learns_148 : decode cX6_learns 148 = .ok (.aload_n 0, 1) := by decide +kernel
theorem dX6_learns_149 : decode cX6_learns 149 = .ok (.iload 8, 2) := by decide +kernel
theorem dX6_learns_151 : decode cX6_learns 151 = .ok (.invokevirtual 75, 3) := by decide +kernel
theorem dX6_learns_154 : decode cX6_learns 154 = .ok (.ifCond .eq 7, 3) := by decide +kernel
theorem dX6_learns_157 : decode cX6_learns 157 = .ok (.iconst 2, 1) := by decide +kernel
theorem dX6_learns_158 : decode cX6_learns 158 = .ok (.goto 4, 3) := by decide +kernel
theorem dX6_learns_161 : decode cX6_learns 161 = .ok (.iconst (-1), 1) := by decide +kernel
theorem dX6_learns_162 : decode cX6_learns 162 = .ok (.istore 9, 2) := by decide +kernel
theorem dX6_learns_164 : decode cX6_learns 164 = .ok (.iload 9, 2) := by decide +kernel
theorem dX6_learns_166 : decode cX6_learns 166 = .ok (.iconst (-1), 1) := by decide +kernel
theorem dX6_learns_167 : decode cX6_learns 167 = .ok (.if_icmp .eq 17, 3) := by decide +kernel
theorem dX6_learns_170 : decode cX6_learns 170 = .ok (.aload_n 0, 1) := by decide +kernel
theorem dX6_learns_171 : decode cX6_learns 171 = .ok (.getfield 7, 3) := by decide +kernel
theorem dX6_learns_174 : decode cX6_learns 174 = .ok (.bipush 12, 2) := by decide +kernel
theorem dX6_learns_176 : decode cX6_learns 176 = .ok (.iload 9, 2) := by decide +kernel
theorem dX6_learns_178 : decode cX6_learns 178 = .ok (.iadd, 1) := by decide +kernel
theorem dX6_learns_179 : decode cX6_learns 179 = .ok (.dup2, 1) := by decide +kernel
theorem dX6_learns_180 : decode cX6_learns 180 = .ok (.iaload, 1) := by decide +kernel
theorem dX6_learns_181 : decode cX6_learns 181 = .ok (.iconst 1, 1) := by decide +kernel
theorem dX6_learns_182 : decode cX6_learns 182 = .ok (.iadd, 1) := by decide +kernel
theorem dX6_learns_183 : decode cX6_learns 183 = .ok (.iastore, 1) := by decide +kernel
theorem dX6_learns_184 : decode cX6_learns 184 = .ok (.iload 7, 2) := by decide +kernel
theorem dX6_learns_186 : decode cX6_learns 186 = .ok (.ifCond .eq 55, 3) := by decide +kernel
theorem dX6_learns_189 : decode cX6_learns 189 = .ok (.iload 9, 2) := by decide +kernel
theorem dX6_learns_191 : decode cX6_learns 191 = .ok (.ifCond .eq 50, 3) := by decide +kernel
theorem dX6_learns_194 : decode cX6_learns 194 = .ok (.iload 9, 2) := by decide +kernel
theorem dX6_learns_196 : decode cX6_learns 196 = .ok (.iconst 1, 1) := by decide +kernel
theorem dX6_learns_197 : decode cX6_learns 197 = .ok (.if_icmp .eq 44, 3) := by decide +kernel
theorem dX6_learns_200 : decode cX6_learns 200 = .ok (.aload_n 0, 1) := by decide +kernel
theorem dX6_learns_201 : decode cX6_learns 201 = .ok (.getfield 7, 3) := by decide +kernel
theorem dX6_learns_204 : decode cX6_learns 204 = .ok (.iload_n 3, 1) := by decide +kernel
theorem dX6_learns_205 : decode cX6_learns 205 = .ok (.bipush 43, 2) := by decide +kernel
theorem dX6_learns_207 : decode cX6_learns 207 = .ok (.iadd, 1) := by decide +kernel
theorem dX6_learns_208 : decode cX6_learns 208 = .ok (.iconst 4, 1) := by decide +kernel
theorem dX6_learns_209 : decode cX6_learns 209 = .ok (.iload 4, 2) := by decide +kernel
theorem dX6_learns_211 : decode cX6_learns 211 = .ok (.imul, 1) := by decide +kernel
theorem dX6_learns_212 : decode cX6_learns 212 = .ok (.iadd, 1) := by decide +kernel
theorem dX6_learns_213 : decode cX6_learns 213 = .ok (.iaload, 1) := by decide +kernel
theorem dX6_learns_214 : decode cX6_learns 214 = .ok (.istore 10, 2) := by decide +kernel
theorem dX6_learns_216 : decode cX6_learns 216 = .ok (.aload_n 0, 1) := by decide +kernel
theorem dX6_learns_217 : decode cX6_learns 217 = .ok (.iload_n 3, 1) := by decide +kernel
theorem dX6_learns_218 : decode cX6_learns 218 = .ok (.iload 4, 2) := by decide +kernel
theorem dX6_learns_220 : decode cX6_learns 220 = .ok (.iconst 0, 1) := by decide +kernel
theorem dX6_learns_221 : decode cX6_learns 221 = .ok (.invokevirtual 64, 3) := by decide +kernel
theorem dX6_learns_224 : decode cX6_learns 224 = .ok (.iload 9, 2) := by decide +kernel
theorem dX6_learns_226 : decode cX6_learns 226 = .ok (.iconst 2, 1) := by decide +kernel
theorem dX6_learns_227 : decode cX6_learns 227 = .ok (.if_icmp .ne 14, 3) := by decide +kernel
theorem dX6_learns_230 : decode cX6_learns 230 = .ok (.aload_n 0, 1) := by decide +kernel
theorem dX6_learns_231 : decode cX6_learns 231 = .ok (.iload_n 3, 1) := by decide +kernel
theorem dX6_learns_232 : decode cX6_learns 232 = .ok (.iload 4, 2) := by decide +kernel
theorem dX6_learns_234 : decode cX6_learns 234 = .ok (.iload 8, 2) := by decide +kernel
theorem dX6_learns_236 : decode cX6_learns 236 = .ok (.iload 10, 2) := by decide +kernel
theorem dX6_learns_238 : decode cX6_learns 238 = .ok (.invokevirtual 68, 3) := by decide +kernel
theorem dX6_learns_241 : decode cX6_learns 241 = .ok (.iload 9, 2) := by decide +kernel
theorem dX6_learns_243 : decode cX6_learns 243 = .ok (.iconst (-1), 1) := by decide +kernel
theorem dX6_learns_244 : decode cX6_learns 244 = .ok (.if_icmp .ne 13, 3) := by decide +kernel
theorem dX6_learns_247 : decode cX6_learns 247 = .ok (.aload_n 0, 1) := by decide +kernel
theorem dX6_learns_248 : decode cX6_learns 248 = .ok (.iload_n 3, 1) := by decide +kernel
theorem dX6_learns_249 : decode cX6_learns 249 = .ok (.iload 4, 2) := by decide +kernel
theorem dX6_learns_251 : decode cX6_learns 251 = .ok (.iload_n 2, 1) := by decide +kernel
theorem dX6_learns_252 : decode cX6_learns 252 = .ok (.iload 5, 2) := by decide +kernel
theorem dX6_learns_254 : decode cX6_learns 254 = .ok (.invokevirtual 68, 3) := by decide +kernel
theorem dX6_learns_257 : decode cX6_learns 257 = .ok (.return_, 1) := by decide +kernel
theorem dX6_knows_0 : decode cX6_knows 0 = .ok (.aload_n 0, 1) := by decide +kernel
theorem dX6_knows_1 : decode cX6_knows 1 = .ok (.getfield 22, 3) := by decide +kernel
theorem dX6_knows_4 : decode cX6_knows 4 = .ok (.iload_n 1, 1) := by decide +kernel
theorem dX6_knows_5 : decode cX6_knows 5 = .ok (.aload_n 0, 1) := by decide +kernel
theorem dX6_knows_6 : decode cX6_knows 6 = .ok (.getfield 22, 3) := by decide +kernel
theorem dX6_knows_9 : decode cX6_knows 9 = .ok (.iload_n 1, 1) := by decide +kernel
theorem dX6_knows_10 : decode cX6_knows 10 = .ok (.iaload, 1) := by decide +kernel
theorem dX6_knows_11 : decode cX6_knows 11 = .ok (.ifCond .ne 7, 3) := by decide +kernel
theorem dX6_knows_14 : decode cX6_knows 14 = .ok (.iconst 1, 1) := by decide +kernel
theorem dX6_knows_15 : decode cX6_knows 15 = .ok (.goto 9, 3) := by decide +kernel
theorem dX6_knows_18 : decode cX6_knows 18 = .ok (.aload_n 0, 1) := by decide +kernel
theorem dX6_knows_19 : decode cX6_knows 19 = .ok (.getfield 22, 3) := by decide +kernel
theorem dX6_knows_22 : decode cX6_knows 22 = .ok (.iload_n 1, 1) := by decide +kernel
theorem dX6_knows_23 : decode cX6_knows 23 = .ok (.iaload, 1) := by decide +kernel
theorem dX6_knows_24 : decode cX6_knows 24 = .ok (.iastore, 1) := by decide +kernel
theorem dX6_knows_25 : decode cX6_knows 25 = .ok (.return_, 1) := by decide +kernel
set_option maxRecDepth 20000 in
theorem ggX6_shows_X6_bucketOf : GoodIn wsX6_shows wsX6_bucketOf := goodIn_r _ [5] (by decide +kernel) (by decide +kernel)
set_option maxRecDepth 20000 in
theorem gX6_shows_X6_bucketOf : GoodIn wsX6_shows (va_wsS RX6 57 yX6_bucketOf wsX6_bucketOf) := goodIn_app (goodIn_of _ (by decide +kernel)) ggX6_shows_X6_bucketOf
set_option maxRecDepth 20000 in
theorem ggX6_shows_X6_placeIn : GoodIn wsX6_shows wsX6_placeIn := goodIn_r _ [9, 1, 15, 16, 17, 18, 19, 20, 21, 22, 23, 24, 25, 26, 27, 28, 29] (by decide +kernel) (by decide +kernel)
set_option maxRecDepth 20000 in
theorem gX6_shows_X6_placeIn : GoodIn wsX6_shows (wsV RX6 61 RX6 yX6_placeIn wsX6_placeIn) := goodIn_app (goodIn_of _ (by decide +kernel)) ggX6_shows_X6_placeIn
set_option maxRecDepth 20000 in
theorem ggX6_shows_X6_knows : GoodIn wsX6_shows wsX6_knows := goodIn_r _ [13, 14, 15, 16, 17, 18, 19, 20, 21, 22, 23, 24, 25, 26, 27, 28, 29] (by decide +kernel) (by decide +kernel)
set_option maxRecDepth 20000 in
theorem gX6_shows_X6_knows : GoodIn wsX6_shows (wsV RX6 78 RX6 yX6_knows wsX6_knows) := goodIn_app (goodIn_of _ (by decide +kernel)) ggX6_shows_X6_knows
theorem dX6_shows_0 : decode cX6_shows 0 = .ok (.iconst 3, 1) := by decide +kernel
theorem dX6_shows_1 : decode cX6_shows 1 = .ok (.istore 4, 2) := by decide +kernel
theorem dX6_shows_3 : decode cX6_shows 3 = .ok (.iconst 0, 1) := by decide +kernel
theorem dX6_shows_4 : decode cX6_shows 4 = .ok (.istore 5, 2) := by decide +kernel
theorem dX6_shows_6 : decode cX6_shows 6 = .ok (.iload 5, 2) := by decide +kernel
theorem dX6_shows_8 : decode cX6_shows 8 = .ok (.sipush 256, 3) := by decide +kernel
theorem dX6_shows_11 : decode cX6_shows 11 = .ok (.if_icmp .ge 96, 3) := by decide +kernel
theorem dX6_shows_14 : decode cX6_shows 14 = .ok (.iload 4, 2) := by decide +kernel
theorem dX6_shows_16 : decode cX6_shows 16 = .ok (.ifCond .le 91, 3) := by decide +kernel
theorem dX6_shows_19 : decode cX6_shows 19 = .ok (.iload_n 2, 1) := by decide +kernel
theorem dX6_shows_20 : decode cX6_shows 20 = .ok (.iload 5, 2) := by decide +kernel
theorem dX6_shows_22 : decode cX6_shows 22 = .ok (.ixor, 1) := by decide +kernel
theorem dX6_shows_23 : decode cX6_shows 23 = .ok (.istore 6, 2) := by decide +kernel
theorem dX6_shows_25 : decode cX6_shows 25 = .ok (.iload 6, 2) := by decide +kernel
theorem dX6_shows_27 : decode cX6_shows 27 = .ok (.aload_n 0, 1) := by decide +kernel
theorem dX6_shows_28 : decode cX6_shows 28 = .ok (.getfield 7, 3) := by decide +kernel
theorem dX6_shows_31 : decode cX6_shows 31 = .ok (.iload_n 1, 1) := by decide +kernel
theorem dX6_shows_32 : decode cX6_shows 32 = .ok (.iaload, 1) := by decide +kernel
theorem dX6_shows_33 : decode cX6_shows 33 = .ok (.iconst 1, 1) := by decide +kernel
theorem dX6_shows_34 : decode cX6_shows 34 = .ok (.isub, 1) := by decide +kernel
theorem dX6_shows_35 : decode cX6_shows 35 = .ok (.if_icmp .eq 31, 3) := by decide +kernel
theorem dX6_shows_38 : decode cX6_shows 38 = .ok (.aload_n 0, 1) := by decide +kernel
theorem dX6_shows_39 : decode cX6_shows 39 = .ok (.iload_n 1, 1) := by decide +kernel
theorem dX6_shows_40 : decode cX6_shows 40 = .ok (.aload_n 0, 1) := by decide +kernel
theorem dX6_shows_41 : decode cX6_shows 41 = .ok (.getfield 7, 3) := by decide +kernel
theorem dX6_shows_44 : decode cX6_shows 44 = .ok (.iload_n 1, 1) := by decide +kernel
theorem dX6_shows_45 : decode cX6_shows 45 = .ok (.iaload, 1) := by decide +kernel
theorem dX6_shows_46 : decode cX6_shows 46 = .ok (.iconst 1, 1) := by decide +kernel
theorem dX6_shows_47 : decode cX6_shows 47 = .ok (.isub, 1) := by decide +kernel
theorem dX6_shows_48 : decode cX6_shows 48 = .ok (.iload 6, 2) := by decide +kernel
theorem dX6_shows_50 : decode cX6_shows 50 = .ok (.invokestatic 57, 3) := by decide +kernel
theorem dX6_shows_53 : decode cX6_shows 53 = .ok (.iload 6, 2) := by decide +kernel
theorem dX6_shows_55 : decode cX6_shows 55 = .ok (.invokevirtual 61, 3) := by decide +kernel
theorem dX6_shows_58 : decode cX6_shows 58 = .ok (.iconst (-1), 1) := by decide +kernel
theorem dX6_shows_59 : decode cX6_shows 59 = .ok (.if_icmp .eq 7, 3) := by decide +kernel
theorem dX6_shows_62 : decode cX6_shows 62 = .ok (.iconst 1, 1) := by decide +kernel
theorem dX6_shows_63 : decode cX6_shows 63 = .ok (.goto 4, 3) := by decide +kernel
theorem dX6_shows_66 : decode cX6_shows 66 = .ok (.iconst 0, 1) := by decide +kernel
theorem dX6_shows_67 : decode cX6_shows 67 = .ok (.istore 7, 2) := by decide +kernel
theorem dX6_shows_69 : decode cX6_shows 69 = .ok (.iload 4, 2) := by decide +kernel
theorem dX6_shows_71 : decode cX6_shows 71 = .ok (.iload 7, 2) := by decide +kernel
theorem dX6_shows_73 : decode cX6_shows 73 = .ok (.ifCond .eq 7, 3) := by decide +kernel
theorem dX6_shows_76 : decode cX6_shows 76 = .ok (.iconst 1, 1) := by decide +kernel
theorem dX6_shows_77 : decode cX6_shows 77 = .ok (.goto 4, 3) := by decide +kernel
theorem dX6_shows_80 : decode cX6_shows 80 = .ok (.iconst 0, 1) := by decide +kernel
theorem dX6_shows_81 : decode cX6_shows 81 = .ok (.isub, 1) := by decide +kernel
theorem dX6_shows_82 : decode cX6_shows 82 = .ok (.istore 4, 2) := by decide +kernel
theorem dX6_shows_84 : decode cX6_shows 84 = .ok (.iload 7, 2) := by decide +kernel
theorem dX6_shows_86 : decode cX6_shows 86 = .ok (.ifCond .eq 15, 3) := by decide +kernel
theorem dX6_shows_89 : decode cX6_shows 89 = .ok (.iload 6, 2) := by decide +kernel
theorem dX6_shows_91 : decode cX6_shows 91 = .ok (.iload_n 3, 1) := by decide +kernel
theorem dX6_shows_92 : decode cX6_shows 92 = .ok (.if_icmp .eq 9, 3) := by decide +kernel
theorem dX6_shows_95 : decode cX6_shows 95 = .ok (.aload_n 0, 1) := by decide +kernel
theorem dX6_shows_96 : decode cX6_shows 96 = .ok (.iload 6, 2) := by decide +kernel
theorem dX6_shows_98 : decode cX6_shows 98 = .ok (.invokevirtual 78, 3) := by decide +kernel
theorem dX6_shows_101 : decode cX6_shows 101 = .ok (.iinc 5 1, 3) := by decide +kernel
theorem dX6_shows_104 : decode cX6_shows 104 = .ok (.goto (-98), 3) := by decide +kernel
theorem dX6_shows_107 : decode cX6_shows 107 = .ok (.return_, 1) := by decide +kernel
theorem dX6_nextFor_0 : decode cX6_nextFor 0 = .ok (.iconst 3, 1) := by decide +kernel
theorem dX6_nextFor_1 : decode cX6_nextFor 1 = .ok (.istore_n 2, 1) := by decide +kernel
theorem dX6_nextFor_2 : decode cX6_nextFor 2 = .ok (.iconst 0, 1) := by decide +kernel
theorem dX6_nextFor_3 : decode cX6_nextFor 3 = .ok (.istore_n 3, 1) := by decide +kernel
theorem dX6_nextFor_4 : decode cX6_nextFor 4 = .ok (.iload_n 3, 1) := by decide +kernel
theorem dX6_nextFor_5 : decode cX6_nextFor 5 = .ok (.sipush 256, 3) := by decide +kernel
theorem dX6_nextFor_8 : decode cX6_nextFor 8 = .ok (.if_icmp .ge 47, 3) := by decide +kernel
theorem dX6_nextFor_11 : decode cX6_nextFor 11 = .ok (.iload_n 2, 1) := by decide +kernel
theorem dX6_nextFor_12 : decode cX6_nextFor 12 = .ok (.ifCond .le 43, 3) := by decide +kernel
theorem dX6_nextFor_15 : decode cX6_nextFor 15 = .ok (.aload_n 0, 1) := by decide +kernel
theorem dX6_nextFor_16 : decode cX6_nextFor 16 = .ok (.getfield 22, 3) := by decide +kernel
theorem dX6_nextFor_19 : decode cX6_nextFor 19 = .ok (.iload_n 1, 1) := by decide +kernel
theorem dX6_nextFor_20 : decode cX6_nextFor 20 = .ok (.iload_n 3, 1) := by decide +kernel
theorem dX6_nextFor_21 : decode cX6_nextFor 21 = .ok (.ixor, 1) := by decide +kernel
theorem dX6_nextFor_22 : decode cX6_nextFor 22 = .ok (.iaload, 1) := by decide +kernel
theorem dX6_nextFor_23 : decode cX6_nextFor 23 = .ok (.istore 4, 2) := by decide +kernel
theorem dX6_nextFor_25 : decode cX6_nextFor 25 = .ok (.iload 4, 2) := by decide +kernel
theorem dX6_nextFor_27 : decode cX6_nextFor 27 = .ok (.iconst 1, 1) := by decide +kernel
theorem dX6_nextFor_28 : decode cX6_nextFor 28 = .ok (.if_icmp .ne 7, 3) := by decide +kernel
theorem dX6_nextFor_31 : decode cX6_nextFor 31 = .ok (.iload_n 1, 1) := by decide +kernel
theorem dX6_nextFor_32 : decode cX6_nextFor 32 = .ok (.iload_n 3, 1) := by decide +kernel
theorem dX6_nextFor_33 : decode cX6_nextFor 33 = .ok (.ixor, 1) := by decide +kernel
theorem dX6_nextFor_34 : decode cX6_nextFor 34 = .ok (.ireturn, 1) := by decide +kernel
theorem dX6_nextFor_35 : decode cX6_nextFor 35 = .ok (.iload_n 2, 1) := by decide +kernel
theorem dX6_nextFor_36 : decode cX6_nextFor 36 = .ok (.iload 4, 2) := by decide +kernel
theorem dX6_nextFor_38 : decode cX6_nextFor 38 = .ok (.iconst 2, 1) := by decide +kernel
theorem dX6_nextFor_39 : decode cX6_nextFor 39 = .ok (.if_icmp .ne 7, 3) := by decide +kernel
theorem dX6_nextFor_42 : decode cX6_nextFor 42 = .ok (.iconst 1, 1) := by decide +kernel
theorem dX6_nextFor_43 : decode cX6_nextFor 43 = .ok (.goto 4, 3) := by decide +kernel
theorem dX6_nextFor_46 : decode cX6_nextFor 46 = .ok (.iconst 0, 1) := by decide +kernel
theorem dX6_nextFor_47 : decode cX6_nextFor 47 = .ok (.isub, 1) := by decide +kernel
theorem dX6_nextFor_48 : decode cX6_nextFor 48 = .ok (.istore_n 2, 1) := by decide +kernel
theorem dX6_nextFor_49 : decode cX6_nextFor 49 = .ok (.iinc 3 1, 3) := by decide +kernel
theorem dX6_nextFor_52 : decode cX6_nextFor 52 = .ok (.goto (-48), 3) := by decide +kernel
theorem dX6_nextFor_55 : decode cX6_nextFor 55 = .ok (.iconst (-1), 1) := by decide +kernel
theorem dX6_nextFor_56 : decode cX6_nextFor 56 = .ok (.ireturn, 1) := by decide +kernel
set_option maxRecDepth 20000 in
theorem ggX6_contacts_X6_placeOf : GoodIn wsX6_contacts wsX6_placeOf := goodIn_r _ [9, 2, 10, 11, 8, 12, 58, 59, 60, 61, 62, 63, 64, 65, 66, 67, 68, 69, 70, 71, 72] (by decide +kernel) (by decide +kernel)
set_option maxRecDepth 20000 in
theorem gX6_contacts_X6_placeOf : GoodIn wsX6_contacts (wsV RX6 50 RX6 yX6_placeOf wsX6_placeOf) := goodIn_app (goodIn_of _ (by decide +kernel)) ggX6_contacts_X6_placeOf
set_option maxRecDepth 20000 in
theorem ggX6_contacts_X6_bucketOf : GoodIn wsX6_contacts wsX6_bucketOf := goodIn_r _ [15] (by decide +kernel) (by decide +kernel)
set_option maxRecDepth 20000 in
theorem gX6_contacts_X6_bucketOf : GoodIn wsX6_contacts (va_wsS RX6 57 yX6_bucketOf wsX6_bucketOf) := goodIn_app (goodIn_of _ (by decide +kernel)) ggX6_contacts_X6_bucketOf
set_option maxRecDepth 20000 in
theorem ggX6_contacts_X6_placeIn : GoodIn wsX6_contacts wsX6_placeIn := goodIn_r _ [19, 2, 58, 59, 60, 61, 62, 63, 64, 65, 66, 67, 68, 69, 70, 71, 72] (by decide +kernel) (by decide +kernel)
set_option maxRecDepth 20000 in
theorem gX6_contacts_X6_placeIn : GoodIn wsX6_contacts (wsV RX6 61 RX6 yX6_placeIn wsX6_placeIn) := goodIn_app (goodIn_of _ (by decide +kernel)) ggX6_contacts_X6_placeIn
set_option maxRecDepth 20000 in
theorem ggX6_contacts_X6_drops : GoodIn wsX6_contacts wsX6_drops := goodIn_r _ [23, 2, 58, 59, 60, 61, 62, 63, 64, 65, 66, 67, 68, 69, 70, 71, 72] (by decide +kernel) (by decide +kernel)
set_option maxRecDepth 20000 in
theorem gX6_contacts_X6_drops : GoodIn wsX6_contacts (wsV RX6 64 RX6 yX6_drops wsX6_drops) := goodIn_app (goodIn_of _ (by decide +kernel)) ggX6_contacts_X6_drops
set_option maxRecDepth 20000 in
theorem ggX6_contacts_X6_shows : GoodIn wsX6_contacts wsX6_shows := goodIn_r _ [27, 2, 13, 14, 8, 15, 16, 17, 18, 19, 28, 29, 30, 31, 3, 58, 59, 60, 61, 62, 63, 64, 65, 66, 67, 68, 69, 70, 71, 72] (by decide +kernel) (by decide +kernel)
set_option maxRecDepth 20000 in
theorem gX6_contacts_X6_shows : GoodIn wsX6_contacts (wsV RX6 88 RX6 yX6_shows wsX6_shows) := goodIn_app (goodIn_of _ (by decide +kernel)) ggX6_contacts_X6_shows
set_option maxRecDepth 20000 in
theorem ggX6_contacts_X6_learns : GoodIn wsX6_contacts wsX6_learns := goodIn_r _ [35, 2, 5, 6, 7, 8, 9, 10, 11, 12, 13, 14, 15, 16, 17, 18, 19, 20, 21, 22, 23, 36, 37, 38, 39, 40, 41, 42, 43, 44, 45, 46, 47, 48, 49, 50, 51, 52, 53, 54, 55, 56, 57, 58, 59, 60, 61, 62, 63, 64, 65, 66, 67, 68, 69, 70, 71, 72] (by decide +kernel) (by decide +kernel)
set_option maxRecDepth 20000 in
theorem gX6_contacts_X6_learns : GoodIn wsX6_contacts (wsV RX6 91 RX6 yX6_learns wsX6_learns) := goodIn_app (goodIn_of _ (by decide +kernel)) ggX6_contacts_X6_learns
theorem dX6_contacts_0 : decode cX6_contacts 0 = .ok (.aload_n 0, 1) := by decide +kernel
theorem dX6_contacts_1 : decode cX6_contacts 1 = .ok (.dup, 1) := by decide +kernel
theorem dX6_contacts_2 : decode cX6_contacts 2 = .ok (.getfield 82, 3) := by decide +kernel
theorem dX6_contacts_5 : decode cX6_contacts 5 = .ok (.iconst 1, 1) := by decide +kernel
theorem dX6_contacts_6 : decode cX6_contacts 6 = .ok (.iadd, 1) := by decide +kernel
theorem dX6_contacts_7 : decode cX6_contacts 7 = .ok (.putfield 82, 3) := by decide +kernel
theorem dX6_contacts_10 : decode cX6_contacts 10 = .ok (.aload_n 0, 1) := by decide +kernel
theorem dX6_contacts_11 : decode cX6_contacts 11 = .ok (.getfield 7, 3) := by decide +kernel
theorem dX6_contacts_14 : decode cX6_contacts 14 = .ok (.bipush 10, 2) := by decide +kernel
theorem dX6_contacts_16 : decode cX6_contacts 16 = .ok (.dup2, 1) := by decide +kernel
theorem dX6_contacts_17 : decode cX6_contacts 17 = .ok (.iaload, 1) := by decide +kernel
theorem dX6_contacts_18 : decode cX6_contacts 18 = .ok (.iconst 1, 1) := by decide +kernel
theorem dX6_contacts_19 : decode cX6_contacts 19 = .ok (.iadd, 1) := by decide +kernel
theorem dX6_contacts_20 : decode cX6_contacts 20 = .ok (.iastore, 1) := by decide +kernel
theorem dX6_contacts_21 : decode cX6_contacts 21 = .ok (.aload_n 0, 1) := by decide +kernel
theorem dX6_contacts_22 : decode cX6_contacts 22 = .ok (.iload_n 3, 1) := by decide +kernel
theorem dX6_contacts_23 : decode cX6_contacts 23 = .ok (.invokevirtual 50, 3) := by decide +kernel
theorem dX6_contacts_26 : decode cX6_contacts 26 = .ok (.istore 4, 2) := by decide +kernel
theorem dX6_contacts_28 : decode cX6_contacts 28 = .ok (.iload 4, 2) := by decide +kernel
theorem dX6_contacts_30 : decode cX6_contacts 30 = .ok (.iconst (-1), 1) := by decide +kernel
theorem dX6_contacts_31 : decode cX6_contacts 31 = .ok (.if_icmp .ne 74, 3) := by decide +kernel
theorem dX6_contacts_34 : decode cX6_contacts 34 = .ok (.aload_n 0, 1) := by decide +kernel
theorem dX6_contacts_35 : decode cX6_contacts 35 = .ok (.getfield 22, 3) := by decide +kernel
theorem dX6_contacts_38 : decode cX6_contacts 38 = .ok (.iload_n 3, 1) := by decide +kernel
theorem dX6_contacts_39 : decode cX6_contacts 39 = .ok (.iconst 3, 1) := by decide +kernel
theorem dX6_contacts_40 : decode cX6_contacts 40 = .ok (.iastore, 1) := by decide +kernel
theorem dX6_contacts_41 : decode cX6_contacts 41 = .ok (.aload_n 0, 1) := by decide +kernel
theorem dX6_contacts_42 : decode cX6_contacts 42 = .ok (.dup, 1) := by decide +kernel
theorem dX6_contacts_43 : decode cX6_contacts 43 = .ok (.getfield 85, 3) := by decide +kernel
theorem dX6_contacts_46 : decode cX6_contacts 46 = .ok (.iconst 1, 1) := by decide +kernel
theorem dX6_contacts_47 : decode cX6_contacts 47 = .ok (.iadd, 1) := by decide +kernel
theorem dX6_contacts_48 : decode cX6_contacts 48 = .ok (.putfield 85, 3) := by decide +kernel
theorem dX6_contacts_51 : decode cX6_contacts 51 = .ok (.aload_n 0, 1) := by decide +kernel
theorem dX6_contacts_52 : decode cX6_contacts 52 = .ok (.getfield 7, 3) := by decide +kernel
theorem dX6_contacts_55 : decode cX6_contacts 55 = .ok (.bipush 11, 2) := by decide +kernel
theorem dX6_contacts_57 : decode cX6_contacts 57 = .ok (.dup2, 1) := by decide +kernel
theorem dX6_contacts_58 : decode cX6_contacts 58 = .ok (.iaload, 1) := by decide +kernel
theorem dX6_contacts_59 : decode cX6_contacts 59 = .ok (.iconst 1, 1) := by decide +kernel
theorem dX6_contacts_60 : decode cX6_contacts 60 = .ok (.iadd, 1) := by decide +kernel
theorem dX6_contacts_61 : decode cX6_contacts 61 = .ok (.iastore, 1) := by decide +kernel
theorem dX6_contacts_62 : decode cX6_contacts 62 = .ok (.iload_n 1, 1) := by decide +kernel
theorem dX6_contacts_63 : decode cX6_contacts 63 = .ok (.iload_n 3, 1) := by decide +kernel
theorem dX6_contacts_64 : decode cX6_contacts 64 = .ok (.invokestatic 57, 3) := by decide +kernel
theorem dX6_contacts_67 : decode cX6_contacts 67 = .ok (.istore 5, 2) := by decide +kernel
theorem dX6_contacts_69 : decode cX6_contacts 69 = .ok (.aload_n 0, 1) := by decide +kernel
theorem dX6_contacts_70 : decode cX6_contacts 70 = .ok (.aload_n 0, 1) := by decide +kernel
theorem dX6_contacts_71 : decode cX6_contacts 71 = .ok (.iload_n 1, 1) := by decide +kernel
theorem dX6_contacts_72 : decode cX6_contacts 72 = .ok (.invokevirtual 50, 3) := by decide +kernel
theorem dX6_contacts_75 : decode cX6_contacts 75 = .ok (.iload 5, 2) := by decide +kernel
theorem dX6_contacts_77 : decode cX6_contacts 77 = .ok (.iload_n 3, 1) := by decide +kernel
theorem dX6_contacts_78 : decode cX6_contacts 78 = .ok (.invokevirtual 61, 3) := by decide +kernel
theorem dX6_contacts_81 : decode cX6_contacts 81 = .ok (.istore 6, 2) := by decide +kernel
theorem dX6_contacts_83 : decode cX6_contacts 83 = .ok (.iload 6, 2) := by decide +kernel
theorem dX6_contacts_85 : decode cX6_contacts 85 = .ok (.iconst (-1), 1) := by decide +kernel
theorem dX6_contacts_86 : decode cX6_contacts 86 = .ok (.if_icmp .eq 16, 3) := by decide +kernel
theorem dX6_contacts_89 : decode cX6_contacts 89 = .ok (.aload_n 0, 1) := by decide +kernel
theorem dX6_contacts_90 : decode cX6_contacts 90 = .ok (.aload_n 0, 1) := by decide +kernel
theorem dX6_contacts_91 : decode cX6_contacts 91 = .ok (.iload_n 1, 1) := by decide +kernel
theorem dX6_contacts_92 : decode cX6_contacts 92 = .ok (.invokevirtual 50, 3) := by decide +kernel
theorem dX6_contacts_95 : decode cX6_contacts 95 = .ok (.iload 5, 2) := by decide +kernel
theorem dX6_contacts_97 : decode cX6_contacts 97 = .ok (.iload 6, 2) := by decide +kernel
theorem dX6_contacts_99 : decode cX6_contacts 99 = .ok (.invokevirtual 64, 3) := by decide +kernel
theorem dX6_contacts_102 : decode cX6_contacts 102 = .ok (.goto 30, 3) := by decide +kernel
theorem dX6_contacts_105 : decode cX6_contacts 105 = .ok (.aload_n 0, 1) := by decide +kernel
theorem dX6_contacts_106 : decode cX6_contacts 106 = .ok (.getfield 22, 3) := by decide +kernel
theorem dX6_contacts_109 : decode cX6_contacts 109 = .ok (.iload_n 3, 1) := by decide +kernel
theorem dX6_contacts_110 : decode cX6_contacts 110 = .ok (.iconst 2, 1) := by decide +kernel
theorem dX6_contacts_111 : decode cX6_contacts 111 = .ok (.iastore, 1) := by decide +kernel
theorem dX6_contacts_112 : decode cX6_contacts 112 = .ok (.aload_n 0, 1) := by decide +kernel
theorem dX6_contacts_113 : decode cX6_contacts 113 = .ok (.iload 4, 2) := by decide +kernel
theorem dX6_contacts_115 : decode cX6_contacts 115 = .ok (.iload_n 2, 1) := by decide +kernel
theorem dX6_contacts_116 : decode cX6_contacts 116 = .ok (.iload_n 1, 1) := by decide +kernel
theorem dX6_contacts_117 : decode cX6_contacts 117 = .ok (.invokevirtual 88, 3) := by decide +kernel
theorem dX6_contacts_120 : decode cX6_contacts 120 = .ok (.aload_n 0, 1) := by decide +kernel
theorem dX6_contacts_121 : decode cX6_contacts 121 = .ok (.iload_n 3, 1) := by decide +kernel
theorem dX6_contacts_122 : decode cX6_contacts 122 = .ok (.iload_n 1, 1) := by decide +kernel
theorem dX6_contacts_123 : decode cX6_contacts 123 = .ok (.invokevirtual 91, 3) := by decide +kernel
theorem dX6_contacts_126 : decode cX6_contacts 126 = .ok (.aload_n 0, 1) := by decide +kernel
theorem dX6_contacts_127 : decode cX6_contacts 127 = .ok (.iload_n 1, 1) := by decide +kernel
theorem dX6_contacts_128 : decode cX6_contacts 128 = .ok (.iload_n 3, 1) := by decide +kernel
theorem dX6_contacts_129 : decode cX6_contacts 129 = .ok (.invokevirtual 91, 3) := by decide +kernel
theorem dX6_contacts_132 : decode cX6_contacts 132 = .ok (.return_, 1) := by decide +kernel
set_option maxRecDepth 20000 in
theorem ggX6_looks_X6_placeOf : GoodIn wsX6_looks wsX6_placeOf := goodIn_r _ [10, 4, 11, 12, 9, 13, 67, 68, 69, 70, 71, 72, 73, 74, 75, 76, 77, 78, 79, 80, 81] (by decide +kernel) (by decide +kernel)
set_option maxRecDepth 20000 in
theorem gX6_looks_X6_placeOf : GoodIn wsX6_looks (wsV RX6 50 RX6 yX6_placeOf wsX6_placeOf) := goodIn_app (goodIn_of _ (by decide +kernel)) ggX6_looks_X6_placeOf
set_option maxRecDepth 20000 in
theorem ggX6_looks_X6_shows : GoodIn wsX6_looks wsX6_shows := goodIn_r _ [17, 4, 18, 19, 9, 20, 21, 22, 23, 24, 25, 26, 27, 28, 1, 67, 68, 69, 70, 71, 72, 73, 74, 75, 76, 77, 78, 79, 80, 81] (by decide +kernel) (by decide +kernel)
set_option maxRecDepth 20000 in
theorem gX6_looks_X6_shows : GoodIn wsX6_looks (wsV RX6 88 RX6 yX6_shows wsX6_shows) := goodIn_app (goodIn_of _ (by decide +kernel)) ggX6_looks_X6_shows
set_option maxRecDepth 20000 in
theorem ggX6_looks_X6_nextFor : GoodIn wsX6_looks wsX6_nextFor := goodIn_r _ [32, 1, 67, 68, 69, 70, 71, 72, 73, 74, 75, 76, 77, 78, 79, 80, 81] (by decide +kernel) (by decide +kernel)
set_option maxRecDepth 20000 in
theorem gX6_looks_X6_nextFor : GoodIn wsX6_looks (wsV RX6 95 RX6 yX6_nextFor wsX6_nextFor) := goodIn_app (goodIn_of _ (by decide +kernel)) ggX6_looks_X6_nextFor
set_option maxRecDepth 20000 in
theorem ggX6_looks_X6_contacts : GoodIn wsX6_looks wsX6_contacts := goodIn_r _ [36, 2, 4, 1, 3, 6, 7, 8, 9, 10, 11, 12, 13, 18, 19, 20, 21, 22, 23, 24, 37, 38, 39, 40, 14, 15, 16, 17, 25, 26, 27, 28, 41, 42, 43, 44, 45, 46, 47, 48, 49, 50, 51, 52, 53, 54, 55, 56, 57, 58, 59, 60, 61, 62, 63, 64, 65, 66, 67, 68, 69, 70, 71, 72, 73, 74, 75, 76, 77, 78, 79, 80, 81] (by decide +kernel) (by decide +kernel)
set_option maxRecDepth 20000 in
theorem gX6_looks_X6_contacts : GoodIn wsX6_looks (wsV RX6 98 RX6 yX6_contacts wsX6_contacts) := goodIn_app (goodIn_of _ (by decide +kernel)) ggX6_looks_X6_contacts
set_option maxRecDepth 20000 in
theorem ggX6_looks_X6_isMember : GoodIn wsX6_looks wsX6_isMember := goodIn_r _ [60, 61, 62, 9, 63, 64, 65, 66, 6, 7, 8, 10, 4, 11, 12, 13, 67, 68, 69, 70, 71, 72, 73, 74, 75, 76, 77, 78, 79, 80, 81] (by decide +kernel) (by decide +kernel)
set_option maxRecDepth 20000 in
theorem gX6_looks_X6_isMember : GoodIn wsX6_looks (wsV RX6 75 RX6 yX6_isMember wsX6_isMember) := goodIn_app (goodIn_of _ (by decide +kernel)) ggX6_looks_X6_isMember
theorem dX6_looks_0 : decode cX6_looks 0 = .ok (.iconst 0, 1) := by decide +kernel
theorem dX6_looks_1 : decode cX6_looks 1 = .ok (.istore_n 3, 1) := by decide +kernel
theorem dX6_looks_2 : decode cX6_looks 2 = .ok (.iload_n 3, 1) := by decide +kernel
theorem dX6_looks_3 : decode cX6_looks 3 = .ok (.sipush 256, 3) := by decide +kernel
theorem dX6_looks_6 : decode cX6_looks 6 = .ok (.if_icmp .ge 16, 3) := by decide +kernel
theorem dX6_looks_9 : decode cX6_looks 9 = .ok (.aload_n 0, 1) := by decide +kernel
theorem dX6_looks_10 : decode cX6_looks 10 = .ok (.getfield 22, 3) := by decide +kernel
theorem dX6_looks_13 : decode cX6_looks 13 = .ok (.iload_n 3, 1) := by decide +kernel
theorem dX6_looks_14 : decode cX6_looks 14 = .ok (.iconst 0, 1) := by decide +kernel
theorem dX6_looks_15 : decode cX6_looks 15 = .ok (.iastore, 1) := by decide +kernel
theorem dX6_looks_16 : decode cX6_looks 16 = .ok (.iinc 3 1, 3) := by decide +kernel
theorem dX6_looks_19 : decode cX6_looks 19 = .ok (.goto (-17), 3) := by decide +kernel
theorem dX6_looks_22 : decode cX6_looks 22 = .ok (.aload_n 0, 1) := by decide +kernel
theorem dX6_looks_23 : decode cX6_looks 23 = .ok (.iconst 0, 1) := by decide +kernel
theorem dX6_looks_24 : decode cX6_looks 24 = .ok (.putfield 82, 3) := by decide +kernel
theorem dX6_looks_27 : decode cX6_looks 27 = .ok (.aload_n 0, 1) := by decide +kernel
theorem dX6_looks_28 : decode cX6_looks 28 = .ok (.iconst 0, 1) := by decide +kernel
theorem dX6_looks_29 : decode cX6_looks 29 = .ok (.putfield 85, 3) := by decide +kernel
theorem dX6_looks_32 : decode cX6_looks 32 = .ok (.aload_n 0, 1) := by decide +kernel
theorem dX6_looks_33 : decode cX6_looks 33 = .ok (.getfield 7, 3) := by decide +kernel
theorem dX6_looks_36 : decode cX6_looks 36 = .ok (.bipush 9, 2) := by decide +kernel
theorem dX6_looks_38 : decode cX6_looks 38 = .ok (.dup2, 1) := by decide +kernel
theorem dX6_looks_39 : decode cX6_looks 39 = .ok (.iaload, 1) := by decide +kernel
theorem dX6_looks_40 : decode cX6_looks 40 = .ok (.iconst 1, 1) := by decide +kernel
theorem dX6_looks_41 : decode cX6_looks 41 = .ok (.iadd, 1) := by decide +kernel
theorem dX6_looks_42 : decode cX6_looks 42 = .ok (.iastore, 1) := by decide +kernel
theorem dX6_looks_43 : decode cX6_looks 43 = .ok (.aload_n 0, 1) := by decide +kernel
theorem dX6_looks_44 : decode cX6_looks 44 = .ok (.aload_n 0, 1) := by decide +kernel
theorem dX6_looks_45 : decode cX6_looks 45 = .ok (.iload_n 1, 1) := by decide +kernel
theorem dX6_looks_46 : decode cX6_looks 46 = .ok (.invokevirtual 50, 3) := by decide +kernel
theorem dX6_looks_49 : decode cX6_looks 49 = .ok (.iload_n 2, 1) := by decide +kernel
theorem dX6_looks_50 : decode cX6_looks 50 = .ok (.iconst (-1), 1) := by decide +kernel
theorem dX6_looks_51 : decode cX6_looks 51 = .ok (.invokevirtual 88, 3) := by decide +kernel
theorem dX6_looks_54 : decode cX6_looks 54 = .ok (.iload_n 1, 1) := by decide +kernel
theorem dX6_looks_55 : decode cX6_looks 55 = .ok (.istore_n 3, 1) := by decide +kernel
theorem dX6_looks_56 : decode cX6_looks 56 = .ok (.aload_n 0, 1) := by decide +kernel
theorem dX6_looks_57 : decode cX6_looks 57 = .ok (.iload_n 2, 1) := by decide +kernel
theorem dX6_looks_58 : decode cX6_looks 58 = .ok (.invokevirtual 95, 3) := by decide +kernel
theorem dX6_looks_61 : decode cX6_looks 61 = .ok (.istore 4, 2) := by decide +kernel
theorem dX6_looks_63 : decode cX6_looks 63 = .ok (.iload 4, 2) := by decide +kernel
theorem dX6_looks_65 : decode cX6_looks 65 = .ok (.iconst (-1), 1) := by decide +kernel
theorem dX6_looks_66 : decode cX6_looks 66 = .ok (.if_icmp .eq 58, 3) := by decide +kernel
theorem dX6_looks_69 : decode cX6_looks 69 = .ok (.aload_n 0, 1) := by decide +kernel
theorem dX6_looks_70 : decode cX6_looks 70 = .ok (.getfield 82, 3) := by decide +kernel
theorem dX6_looks_73 : decode cX6_looks 73 = .ok (.bipush 12, 2) := by decide +kernel
theorem dX6_looks_75 : decode cX6_looks 75 = .ok (.if_icmp .ge 49, 3) := by decide +kernel
theorem dX6_looks_78 : decode cX6_looks 78 = .ok (.aload_n 0, 1) := by decide +kernel
theorem dX6_looks_79 : decode cX6_looks 79 = .ok (.iload_n 1, 1) := by decide +kernel
theorem dX6_looks_80 : decode cX6_looks 80 = .ok (.iload_n 2, 1) := by decide +kernel
theorem dX6_looks_81 : decode cX6_looks 81 = .ok (.iload 4, 2) := by decide +kernel
theorem dX6_looks_83 : decode cX6_looks 83 = .ok (.invokevirtual 98, 3) := by decide +kernel
theorem dX6_looks_86 : decode cX6_looks 86 = .ok (.aload_n 0, 1) := by decide +kernel
theorem dX6_looks_87 : decode cX6_looks 87 = .ok (.getfield 22, 3) := by decide +kernel
theorem dX6_looks_90 : decode cX6_looks 90 = .ok (.iload 4, 2) := by decide +kernel
theorem dX6_looks_92 : decode cX6_looks 92 = .ok (.iaload, 1) := by decide +kernel
theorem dX6_looks_93 : decode cX6_looks 93 = .ok (.iconst 2, 1) := by decide +kernel
theorem dX6_looks_94 : decode cX6_looks 94 = .ok (.if_icmp .ne 18, 3) := by decide +kernel
theorem dX6_looks_97 : decode cX6_looks 97 = .ok (.iload 4, 2) := by decide +kernel
theorem dX6_looks_99 : decode cX6_looks 99 = .ok (.iload_n 2, 1) := by decide +kernel
theorem dX6_looks_100 : decode cX6_looks 100 = .ok (.ixor, 1) := by decide +kernel
theorem dX6_looks_101 : decode cX6_looks 101 = .ok (.iload_n 3, 1) := by decide +kernel
theorem dX6_looks_102 : decode cX6_looks 102 = .ok (.iload_n 2, 1) := by decide +kernel
theorem dX6_looks_103 : decode cX6_looks 103 = .ok (.ixor, 1) := by decide +kernel
theorem dX6_looks_104 : decode cX6_looks 104 = .ok (.if_icmp .ge 8, 3) := by decide +kernel
theorem dX6_looks_107 : decode cX6_looks 107 = .ok (.iload 4, 2) := by decide +kernel
theorem dX6_looks_109 : decode cX6_looks 109 = .ok (.goto 4, 3) := by decide +kernel
theorem dX6_looks_112 : decode cX6_looks 112 = .ok (.iload_n 3, 1) := by decide +kernel
theorem dX6_looks_113 : decode cX6_looks 113 = .ok (.istore_n 3, 1) := by decide +kernel
theorem dX6_looks_114 : decode cX6_looks 114 = .ok (.aload_n 0, 1) := by decide +kernel
theorem dX6_looks_115 : decode cX6_looks 115 = .ok (.iload_n 2, 1) := by decide +kernel
theorem dX6_looks_116 : decode cX6_looks 116 = .ok (.invokevirtual 95, 3) := by decide +kernel
theorem dX6_looks_119 : decode cX6_looks 119 = .ok (.istore 4, 2) := by decide +kernel
theorem dX6_looks_121 : decode cX6_looks 121 = .ok (.goto (-58), 3) := by decide +kernel
theorem dX6_looks_124 : decode cX6_looks 124 = .ok (.aload_n 0, 1) := by decide +kernel
theorem dX6_looks_125 : decode cX6_looks 125 = .ok (.iconst 1, 1) := by decide +kernel
theorem dX6_looks_126 : decode cX6_looks 126 = .ok (.putfield 101, 3) := by decide +kernel
theorem dX6_looks_129 : decode cX6_looks 129 = .ok (.iconst 0, 1) := by decide +kernel
theorem dX6_looks_130 : decode cX6_looks 130 = .ok (.istore 5, 2) := by decide +kernel
theorem dX6_looks_132 : decode cX6_looks 132 = .ok (.iload 5, 2) := by decide +kernel
theorem dX6_looks_134 : decode cX6_looks 134 = .ok (.iload_n 3, 1) := by decide +kernel
theorem dX6_looks_135 : decode cX6_looks 135 = .ok (.iload_n 2, 1) := by decide +kernel
theorem dX6_looks_136 : decode cX6_looks 136 = .ok (.ixor, 1) := by decide +kernel
theorem dX6_looks_137 : decode cX6_looks 137 = .ok (.if_icmp .ge 36, 3) := by decide +kernel
theorem dX6_looks_140 : decode cX6_looks 140 = .ok (.aload_n 0, 1) := by decide +kernel
theorem dX6_looks_141 : decode cX6_looks 141 = .ok (.aload_n 0, 1) := by decide +kernel
theorem dX6_looks_142 : decode cX6_looks 142 = .ok (.getfield 101, 3) := by decide +kernel
theorem dX6_looks_145 : decode cX6_looks 145 = .ok (.ifCond .eq 18, 3) := by decide +kernel
theorem dX6_looks_148 : decode cX6_looks 148 = .ok (.aload_n 0, 1) := by decide +kernel
theorem dX6_looks_149 : decode cX6_looks 149 = .ok (.iload_n 2, 1) := by decide +kernel
theorem dX6_looks_150 : decode cX6_looks 150 = .ok (.iload 5, 2) := by decide +kernel
theorem dX6_looks_152 : decode cX6_looks 152 = .ok (.ixor, 1) := by decide +kernel
theorem dX6_looks_153 : decode cX6_looks 153 = .ok (.invokevirtual 75, 3) := by decide +kernel
theorem dX6_looks_156 : decode cX6_looks 156 = .ok (.ifCond .ne 7, 3) := by decide +kernel
theorem dX6_looks_159 : decode cX6_looks 159 = .ok (.iconst 1, 1) := by decide +kernel
theorem dX6_looks_160 : decode cX6_looks 160 = .ok (.goto 4, 3) := by decide +kernel
theorem dX6_looks_163 : decode cX6_looks 163 = .ok (.iconst 0, 1) := by decide +kernel
theorem dX6_looks_164 : decode cX6_looks 164 = .ok (.putfield 101, 3) := by decide +kernel
theorem dX6_looks_167 : decode cX6_looks 167 = .ok (.iinc 5 1, 3) := by decide +kernel
theorem dX6_looks_170 : decode cX6_looks 170 = .ok (.goto (-38), 3) := by decide +kernel
theorem dX6_looks_173 : decode cX6_looks 173 = .ok (.aload_n 0, 1) := by decide +kernel
theorem dX6_looks_174 : decode cX6_looks 174 = .ok (.getfield 7, 3) := by decide +kernel
theorem dX6_looks_177 : decode cX6_looks 177 = .ok (.bipush 15, 2) := by decide +kernel
theorem dX6_looks_179 : decode cX6_looks 179 = .ok (.dup2, 1) := by decide +kernel
theorem dX6_looks_180 : decode cX6_looks 180 = .ok (.iaload, 1) := by decide +kernel
theorem dX6_looks_181 : decode cX6_looks 181 = .ok (.aload_n 0, 1) := by decide +kernel
theorem dX6_looks_182 : decode cX6_looks 182 = .ok (.getfield 101, 3) := by decide +kernel
theorem dX6_looks_185 : decode cX6_looks 185 = .ok (.ifCond .eq 7, 3) := by decide +kernel
theorem dX6_looks_188 : decode cX6_looks 188 = .ok (.iconst 1, 1) := by decide +kernel
theorem dX6_looks_189 : decode cX6_looks 189 = .ok (.goto 4, 3) := by decide +kernel
theorem dX6_looks_192 : decode cX6_looks 192 = .ok (.iconst 0, 1) := by decide +kernel
theorem dX6_looks_193 : decode cX6_looks 193 = .ok (.iadd, 1) := by decide +kernel
theorem dX6_looks_194 : decode cX6_looks 194 = .ok (.iastore, 1) := by decide +kernel
theorem dX6_looks_195 : decode cX6_looks 195 = .ok (.iload_n 3, 1) := by decide +kernel
theorem dX6_looks_196 : decode cX6_looks 196 = .ok (.ireturn, 1) := by decide +kernel
theorem dX6_epochNow_0 : decode cX6_epochNow 0 = .ok (.aload_n 0, 1) := by decide +kernel
theorem dX6_epochNow_1 : decode cX6_epochNow 1 = .ok (.getfield 7, 3) := by decide +kernel
theorem dX6_epochNow_4 : decode cX6_epochNow 4 = .ok (.iconst 5, 1) := by decide +kernel
theorem dX6_epochNow_5 : decode cX6_epochNow 5 = .ok (.iaload, 1) := by decide +kernel
theorem dX6_epochNow_6 : decode cX6_epochNow 6 = .ok (.aload_n 0, 1) := by decide +kernel
theorem dX6_epochNow_7 : decode cX6_epochNow 7 = .ok (.getfield 7, 3) := by decide +kernel
theorem dX6_epochNow_10 : decode cX6_epochNow 10 = .ok (.iconst 2, 1) := by decide +kernel
theorem dX6_epochNow_11 : decode cX6_epochNow 11 = .ok (.iaload, 1) := by decide +kernel
theorem dX6_epochNow_12 : decode cX6_epochNow 12 = .ok (.idiv, 1) := by decide +kernel
theorem dX6_epochNow_13 : decode cX6_epochNow 13 = .ok (.ireturn, 1) := by decide +kernel
theorem dX6_difficulty_0 : decode cX6_difficulty 0 = .ok (.aload_n 0, 1) := by decide +kernel
theorem dX6_difficulty_1 : decode cX6_difficulty 1 = .ok (.getfield 7, 3) := by decide +kernel
theorem dX6_difficulty_4 : decode cX6_difficulty 4 = .ok (.iconst 0, 1) := by decide +kernel
theorem dX6_difficulty_5 : decode cX6_difficulty 5 = .ok (.iaload, 1) := by decide +kernel
theorem dX6_difficulty_6 : decode cX6_difficulty 6 = .ok (.aload_n 0, 1) := by decide +kernel
theorem dX6_difficulty_7 : decode cX6_difficulty 7 = .ok (.getfield 7, 3) := by decide +kernel
theorem dX6_difficulty_10 : decode cX6_difficulty 10 = .ok (.bipush 6, 2) := by decide +kernel
theorem dX6_difficulty_12 : decode cX6_difficulty 12 = .ok (.iaload, 1) := by decide +kernel
theorem dX6_difficulty_13 : decode cX6_difficulty 13 = .ok (.iconst 4, 1) := by decide +kernel
theorem dX6_difficulty_14 : decode cX6_difficulty 14 = .ok (.idiv, 1) := by decide +kernel
theorem dX6_difficulty_15 : decode cX6_difficulty 15 = .ok (.iadd, 1) := by decide +kernel
theorem dX6_difficulty_16 : decode cX6_difficulty 16 = .ok (.istore_n 1, 1) := by decide +kernel
theorem dX6_difficulty_17 : decode cX6_difficulty 17 = .ok (.iload_n 1, 1) := by decide +kernel
theorem dX6_difficulty_18 : decode cX6_difficulty 18 = .ok (.bipush 12, 2) := by decide +kernel
theorem dX6_difficulty_20 : decode cX6_difficulty 20 = .ok (.if_icmp .ge 7, 3) := by decide +kernel
theorem dX6_difficulty_23 : decode cX6_difficulty 23 = .ok (.iload_n 1, 1) := by decide +kernel
theorem dX6_difficulty_24 : decode cX6_difficulty 24 = .ok (.goto 5, 3) := by decide +kernel
theorem dX6_difficulty_27 : decode cX6_difficulty 27 = .ok (.bipush 12, 2) := by decide +kernel
theorem dX6_difficulty_29 : decode cX6_difficulty 29 = .ok (.ireturn, 1) := by decide +kernel
theorem dX6_zerosOf_0 : decode cX6_zerosOf 0 = .ok (.iload_n 0, 1) := by decide +kernel
theorem dX6_zerosOf_1 : decode cX6_zerosOf 1 = .ok (.ldc 105, 2) := by decide +kernel
theorem dX6_zerosOf_3 : decode cX6_zerosOf 3 = .ok (.imul, 1) := by decide +kernel
theorem dX6_zerosOf_4 : decode cX6_zerosOf 4 = .ok (.iload_n 1, 1) := by decide +kernel
theorem dX6_zerosOf_5 : decode cX6_zerosOf 5 = .ok (.ldc 106, 2) := by decide +kernel
theorem dX6_zerosOf_7 : decode cX6_zerosOf 7 = .ok (.imul, 1) := by decide +kernel
theorem dX6_zerosOf_8 : decode cX6_zerosOf 8 = .ok (.iadd, 1) := by decide +kernel
theorem dX6_zerosOf_9 : decode cX6_zerosOf 9 = .ok (.iload_n 2, 1) := by decide +kernel
theorem dX6_zerosOf_10 : decode cX6_zerosOf 10 = .ok (.ldc 107, 2) := by decide +kernel
theorem dX6_zerosOf_12 : decode cX6_zerosOf 12 = .ok (.imul, 1) := by decide +kernel
theorem dX6_zerosOf_13 : decode cX6_zerosOf 13 = .ok (.iadd, 1) := by decide +kernel
theorem dX6_zerosOf_14 : decode cX6_zerosOf 14 = .ok (.istore_n 3, 1) := by decide +kernel
theorem dX6_zerosOf_15 : decode cX6_zerosOf 15 = .ok (.iload_n 3, 1) := by decide +kernel
theorem dX6_zerosOf_16 : decode cX6_zerosOf 16 = .ok (.iload_n 3, 1) := by decide +kernel
theorem dX6_zerosOf_17 : decode cX6_zerosOf 17 = .ok (.bipush 15, 2) := by decide +kernel
theorem dX6_zerosOf_19 : decode cX6_zerosOf 19 = .ok (.iushr, 1) := by decide +kernel
theorem dX6_zerosOf_20 : decode cX6_zerosOf 20 = .ok (.ixor, 1) := by decide +kernel
theorem dX6_zerosOf_21 : decode cX6_zerosOf 21 = .ok (.istore_n 3, 1) := by decide +kernel
theorem dX6_zerosOf_22 : decode cX6_zerosOf 22 = .ok (.iload_n 3, 1) := by decide +kernel
theorem dX6_zerosOf_23 : decode cX6_zerosOf 23 = .ok (.ldc 108, 2) := by decide +kernel
theorem dX6_zerosOf_25 : decode cX6_zerosOf 25 = .ok (.imul, 1) := by decide +kernel
theorem dX6_zerosOf_26 : decode cX6_zerosOf 26 = .ok (.istore_n 3, 1) := by decide +kernel
theorem dX6_zerosOf_27 : decode cX6_zerosOf 27 = .ok (.iload_n 3, 1) := by decide +kernel
theorem dX6_zerosOf_28 : decode cX6_zerosOf 28 = .ok (.iload_n 3, 1) := by decide +kernel
theorem dX6_zerosOf_29 : decode cX6_zerosOf 29 = .ok (.bipush 13, 2) := by decide +kernel
theorem dX6_zerosOf_31 : decode cX6_zerosOf 31 = .ok (.iushr, 1) := by decide +kernel
theorem dX6_zerosOf_32 : decode cX6_zerosOf 32 = .ok (.ixor, 1) := by decide +kernel
theorem dX6_zerosOf_33 : decode cX6_zerosOf 33 = .ok (.istore_n 3, 1) := by decide +kernel
theorem dX6_zerosOf_34 : decode cX6_zerosOf 34 = .ok (.iconst 0, 1) := by decide +kernel
theorem dX6_zerosOf_35 : decode cX6_zerosOf 35 = .ok (.istore 4, 2) := by decide +kernel
theorem dX6_zerosOf_37 : decode cX6_zerosOf 37 = .ok (.iload 4, 2) := by decide +kernel
theorem dX6_zerosOf_39 : decode cX6_zerosOf 39 = .ok (.bipush 32, 2) := by decide +kernel
theorem dX6_zerosOf_41 : decode cX6_zerosOf 41 = .ok (.if_icmp .ge 21, 3) := by decide +kernel
theorem dX6_zerosOf_44 : decode cX6_zerosOf 44 = .ok (.iload_n 3, 1) := by decide +kernel
theorem dX6_zerosOf_45 : decode cX6_zerosOf 45 = .ok (.bipush 31, 2) := by decide +kernel
theorem dX6_zerosOf_47 : decode cX6_zerosOf 47 = .ok (.iload 4, 2) := by decide +kernel
theorem dX6_zerosOf_49 : decode cX6_zerosOf 49 = .ok (.isub, 1) := by decide +kernel
theorem dX6_zerosOf_50 : decode cX6_zerosOf 50 = .ok (.iushr, 1) := by decide +kernel
theorem dX6_zerosOf_51 : decode cX6_zerosOf 51 = .ok (.iconst 1, 1) := by decide +kernel
theorem dX6_zerosOf_52 : decode cX6_zerosOf 52 = .ok (.iand, 1) := by decide +kernel
theorem dX6_zerosOf_53 : decode cX6_zerosOf 53 = .ok (.ifCond .ne 9, 3) := by decide +kernel
theorem dX6_zerosOf_56 : decode cX6_zerosOf 56 = .ok (.iinc 4 1, 3) := by decide +kernel
theorem dX6_zerosOf_59 : decode cX6_zerosOf 59 = .ok (.goto (-22), 3) := by decide +kernel
theorem dX6_zerosOf_62 : decode cX6_zerosOf 62 = .ok (.iload 4, 2) := by decide +kernel
theorem dX6_zerosOf_64 : decode cX6_zerosOf 64 = .ok (.ireturn, 1) := by decide +kernel
set_option maxRecDepth 20000 in
theorem ggX6_solution_X6_difficulty : GoodIn wsX6_solution wsX6_difficulty := goodIn_r _ [6, 7, 19, 20, 21, 22, 23, 24, 25, 26, 27, 28, 29, 30, 31, 32, 33] (by decide +kernel) (by decide +kernel)
set_option maxRecDepth 20000 in
theorem gX6_solution_X6_difficulty : GoodIn wsX6_solution (wsV RX6 109 RX6 yX6_difficulty wsX6_difficulty) := goodIn_app (goodIn_of _ (by decide +kernel)) ggX6_solution_X6_difficulty
set_option maxRecDepth 20000 in
theorem ggX6_solution_X6_epochNow : GoodIn wsX6_solution wsX6_epochNow := goodIn_r _ [11, 7, 19, 20, 21, 22, 23, 24, 25, 26, 27, 28, 29, 30, 31, 32, 33] (by decide +kernel) (by decide +kernel)
set_option maxRecDepth 20000 in
theorem gX6_solution_X6_epochNow : GoodIn wsX6_solution (wsV RX6 114 RX6 yX6_epochNow wsX6_epochNow) := goodIn_app (goodIn_of _ (by decide +kernel)) ggX6_solution_X6_epochNow
set_option maxRecDepth 20000 in
theorem ggX6_solution_X6_zerosOf : GoodIn wsX6_solution wsX6_zerosOf := goodIn_r _ [14, 15, 16, 17, 18] (by decide +kernel) (by decide +kernel)
set_option maxRecDepth 20000 in
theorem gX6_solution_X6_zerosOf : GoodIn wsX6_solution (va_wsS RX6 117 yX6_zerosOf wsX6_zerosOf) := goodIn_app (goodIn_of _ (by decide +kernel)) ggX6_solution_X6_zerosOf
theorem dX6_solution_0 : decode cX6_solution 0 = .ok (.aload_n 0, 1) := by decide +kernel
theorem dX6_solution_1 : decode cX6_solution 1 = .ok (.invokevirtual 109, 3) := by decide +kernel
theorem dX6_solution_4 : decode cX6_solution 4 = .ok (.istore_n 2, 1) := by decide +kernel
theorem dX6_solution_5 : decode cX6_solution 5 = .ok (.iconst 0, 1) := by decide +kernel
theorem dX6_solution_6 : decode cX6_solution 6 = .ok (.istore_n 3, 1) := by decide +kernel
theorem dX6_solution_7 : decode cX6_solution 7 = .ok (.iload_n 3, 1) := by decide +kernel
theorem dX6_solution_8 : decode cX6_solution 8 = .ok (.ldc 113, 2) := by decide +kernel
theorem dX6_solution_10 : decode cX6_solution 10 = .ok (.if_icmp .ge 24, 3) := by decide +kernel
theorem dX6_solution_13 : decode cX6_solution 13 = .ok (.iload_n 1, 1) := by decide +kernel
theorem dX6_solution_14 : decode cX6_solution 14 = .ok (.iload_n 3, 1) := by decide +kernel
theorem dX6_solution_15 : decode cX6_solution 15 = .ok (.aload_n 0, 1) := by decide +kernel
theorem dX6_solution_16 : decode cX6_solution 16 = .ok (.invokevirtual 114, 3) := by decide +kernel
theorem dX6_solution_19 : decode cX6_solution 19 = .ok (.invokestatic 117, 3) := by decide +kernel
theorem dX6_solution_22 : decode cX6_solution 22 = .ok (.iload_n 2, 1) := by decide +kernel
theorem dX6_solution_23 : decode cX6_solution 23 = .ok (.if_icmp .lt 5, 3) := by decide +kernel
theorem dX6_solution_26 : decode cX6_solution 26 = .ok (.iload_n 3, 1) := by decide +kernel
theorem dX6_solution_27 : decode cX6_solution 27 = .ok (.ireturn, 1) := by decide +kernel
theorem dX6_solution_28 : decode cX6_solution 28 = .ok (.iinc 3 1, 3) := by decide +kernel
theorem dX6_solution_31 : decode cX6_solution 31 = .ok (.goto (-24), 3) := by decide +kernel
theorem dX6_solution_34 : decode cX6_solution 34 = .ok (.iconst (-1), 1) := by decide +kernel
theorem dX6_solution_35 : decode cX6_solution 35 = .ok (.ireturn, 1) := by decide +kernel
set_option maxRecDepth 20000 in
theorem ggX6_solve_X6_isId : GoodIn wsX6_solve wsX6_isId := goodIn_r _ [4, 5, 6, 3, 7] (by decide +kernel) (by decide +kernel)
set_option maxRecDepth 20000 in
theorem gX6_solve_X6_isId : GoodIn wsX6_solve (va_wsS RX6 47 yX6_isId wsX6_isId) := goodIn_app (goodIn_of _ (by decide +kernel)) ggX6_solve_X6_isId
set_option maxRecDepth 20000 in
theorem ggX6_solve_X6_refused : GoodIn wsX6_solve wsX6_refused := goodIn_r _ [11, 12, 34, 35, 36, 37, 38, 39, 40, 41, 42, 43, 44, 45, 46, 47, 48] (by decide +kernel) (by decide +kernel)
set_option maxRecDepth 20000 in
theorem gX6_solve_X6_refused : GoodIn wsX6_solve (wsV RX6 39 RX6 yX6_refused wsX6_refused) := goodIn_app (goodIn_of _ (by decide +kernel)) ggX6_solve_X6_refused
set_option maxRecDepth 20000 in
theorem ggX6_solve_X6_solution : GoodIn wsX6_solve wsX6_solution := goodIn_r _ [16, 17, 18, 19, 20, 3, 21, 22, 23, 24, 25, 26, 27, 28, 29, 30, 31, 32, 33, 34, 35, 36, 37, 38, 39, 40, 41, 42, 43, 44, 45, 46, 47, 48] (by decide +kernel) (by decide +kernel)
set_option maxRecDepth 20000 in
theorem gX6_solve_X6_solution : GoodIn wsX6_solve (wsV RX6 120 RX6 yX6_solution wsX6_solution) := goodIn_app (goodIn_of _ (by decide +kernel)) ggX6_solve_X6_solution
theorem dX6_solve_0 : decode cX6_solve 0 = .ok (.aload_n 0, 1) := by decide +kernel
theorem dX6_solve_1 : decode cX6_solve 1 = .ok (.iload_n 1, 1) := by decide +kernel
theorem dX6_solve_2 : decode cX6_solve 2 = .ok (.invokestatic 47, 3) := by decide +kernel
theorem dX6_solve_5 : decode cX6_solve 5 = .ok (.ifCond .eq 7, 3) := by decide +kernel
theorem dX6_solve_8 : decode cX6_solve 8 = .ok (.iconst 0, 1) := by decide +kernel
theorem dX6_solve_9 : decode cX6_solve 9 = .ok (.goto 4, 3) := by decide +kernel
theorem dX6_solve_12 : decode cX6_solve 12 = .ok (.iconst 1, 1) := by decide +kernel
theorem dX6_solve_13 : decode cX6_solve 13 = .ok (.invokevirtual 39, 3) := by decide +kernel
theorem dX6_solve_16 : decode cX6_solve 16 = .ok (.ifCond .eq 7, 3) := by decide +kernel
theorem dX6_solve_19 : decode cX6_solve 19 = .ok (.iconst 0, 1) := by decide +kernel
theorem dX6_solve_20 : decode cX6_solve 20 = .ok (.goto 8, 3) := by decide +kernel
theorem dX6_solve_23 : decode cX6_solve 23 = .ok (.aload_n 0, 1) := by decide +kernel
theorem dX6_solve_24 : decode cX6_solve 24 = .ok (.iload_n 1, 1) := by decide +kernel
theorem dX6_solve_25 : decode cX6_solve 25 = .ok (.invokevirtual 120, 3) := by decide +kernel
theorem dX6_solve_28 : decode cX6_solve 28 = .ok (.ireturn, 1) := by decide +kernel
set_option maxRecDepth 20000 in
theorem ggX6_isNonce_X6_in : GoodIn wsX6_isNonce wsX6_in := goodIn_r _ [5] (by decide +kernel) (by decide +kernel)
set_option maxRecDepth 20000 in
theorem gX6_isNonce_X6_in : GoodIn wsX6_isNonce (va_wsS RX6 32 yX6_in wsX6_in) := goodIn_app (goodIn_of _ (by decide +kernel)) ggX6_isNonce_X6_in
theorem dX6_isNonce_0 : decode cX6_isNonce 0 = .ok (.iload_n 0, 1) := by decide +kernel
theorem dX6_isNonce_1 : decode cX6_isNonce 1 = .ok (.iconst 0, 1) := by decide +kernel
theorem dX6_isNonce_2 : decode cX6_isNonce 2 = .ok (.ldc 123, 2) := by decide +kernel
theorem dX6_isNonce_4 : decode cX6_isNonce 4 = .ok (.invokestatic 32, 3) := by decide +kernel
theorem dX6_isNonce_7 : decode cX6_isNonce 7 = .ok (.ireturn, 1) := by decide +kernel
set_option maxRecDepth 20000 in
theorem ggX6_zeros_X6_isId : GoodIn wsX6_zeros wsX6_isId := goodIn_r _ [4, 5, 6, 3, 7] (by decide +kernel) (by decide +kernel)
set_option maxRecDepth 20000 in
theorem gX6_zeros_X6_isId : GoodIn wsX6_zeros (va_wsS RX6 47 yX6_isId wsX6_isId) := goodIn_app (goodIn_of _ (by decide +kernel)) ggX6_zeros_X6_isId
set_option maxRecDepth 20000 in
theorem ggX6_zeros_X6_isNonce : GoodIn wsX6_zeros wsX6_isNonce := goodIn_r _ [10, 11, 5, 6, 3, 7] (by decide +kernel) (by decide +kernel)
set_option maxRecDepth 20000 in
theorem gX6_zeros_X6_isNonce : GoodIn wsX6_zeros (va_wsS RX6 124 yX6_isNonce wsX6_isNonce) := goodIn_app (goodIn_of _ (by decide +kernel)) ggX6_zeros_X6_isNonce
set_option maxRecDepth 20000 in
theorem ggX6_zeros_X6_refused : GoodIn wsX6_zeros wsX6_refused := goodIn_r _ [15, 16, 24, 25, 26, 27, 28, 29, 30, 31, 32, 33, 34, 35, 36, 37, 38] (by decide +kernel) (by decide +kernel)
set_option maxRecDepth 20000 in
theorem gX6_zeros_X6_refused : GoodIn wsX6_zeros (wsV RX6 39 RX6 yX6_refused wsX6_refused) := goodIn_app (goodIn_of _ (by decide +kernel)) ggX6_zeros_X6_refused
set_option maxRecDepth 20000 in
theorem ggX6_zeros_X6_zerosOf : GoodIn wsX6_zeros wsX6_zerosOf := goodIn_r _ [19, 20, 21, 22, 23] (by decide +kernel) (by decide +kernel)
set_option maxRecDepth 20000 in
theorem gX6_zeros_X6_zerosOf : GoodIn wsX6_zeros (va_wsS RX6 117 yX6_zerosOf wsX6_zerosOf) := goodIn_app (goodIn_of _ (by decide +kernel)) ggX6_zeros_X6_zerosOf
theorem dX6_zeros_0 : decode cX6_zeros 0 = .ok (.aload_n 0, 1) := by decide +kernel
theorem dX6_zeros_1 : decode cX6_zeros 1 = .ok (.iload_n 1, 1) := by decide +kernel
theorem dX6_zeros_2 : decode cX6_zeros 2 = .ok (.invokestatic 47, 3) := by decide +kernel
theorem dX6_zeros_5 : decode cX6_zeros 5 = .ok (.ifCond .eq 18, 3) := by decide +kernel
theorem dX6_zeros_8 : decode cX6_zeros 8 = .ok (.iload_n 2, 1) := by decide +kernel
theorem dX6_zeros_9 : decode cX6_zeros 9 = .ok (.invokestatic 124, 3) := by decide +kernel
theorem dX6_zeros_12 : decode cX6_zeros 12 = .ok (.ifCond .eq 11, 3) := by decide +kernel
theorem dX6_zeros_15 : decode cX6_zeros 15 = .ok (.iload_n 3, 1) := by decide +kernel
theorem dX6_zeros_16 : decode cX6_zeros 16 = .ok (.ifCond .lt 7, 3) := by decide +kernel
theorem dX6_zeros_19 : decode cX6_zeros 19 = .ok (.iconst 0, 1) := by decide +kernel
theorem dX6_zeros_20 : decode cX6_zeros 20 = .ok (.goto 4, 3) := by decide +kernel
theorem dX6_zeros_23 : decode cX6_zeros 23 = .ok (.iconst 1, 1) := by decide +kernel
theorem dX6_zeros_24 : decode cX6_zeros 24 = .ok (.invokevirtual 39, 3) := by decide +kernel
theorem dX6_zeros_27 : decode cX6_zeros 27 = .ok (.ifCond .eq 7, 3) := by decide +kernel
theorem dX6_zeros_30 : decode cX6_zeros 30 = .ok (.iconst 0, 1) := by decide +kernel
theorem dX6_zeros_31 : decode cX6_zeros 31 = .ok (.goto 9, 3) := by decide +kernel
theorem dX6_zeros_34 : decode cX6_zeros 34 = .ok (.iload_n 1, 1) := by decide +kernel
theorem dX6_zeros_35 : decode cX6_zeros 35 = .ok (.iload_n 2, 1) := by decide +kernel
theorem dX6_zeros_36 : decode cX6_zeros 36 = .ok (.iload_n 3, 1) := by decide +kernel
theorem dX6_zeros_37 : decode cX6_zeros 37 = .ok (.invokestatic 117, 3) := by decide +kernel
theorem dX6_zeros_40 : decode cX6_zeros 40 = .ok (.ireturn, 1) := by decide +kernel
set_option maxRecDepth 20000 in
theorem ggX6_turnsTo_X6_epochNow : GoodIn wsX6_turnsTo wsX6_epochNow := goodIn_r _ [6, 1, 7, 8, 9, 10, 11, 12, 13, 14, 15, 16, 17, 18, 19, 20, 21] (by decide +kernel) (by decide +kernel)
set_option maxRecDepth 20000 in
theorem gX6_turnsTo_X6_epochNow : GoodIn wsX6_turnsTo (wsV RX6 114 RX6 yX6_epochNow wsX6_epochNow) := goodIn_app (goodIn_of _ (by decide +kernel)) ggX6_turnsTo_X6_epochNow
theorem dX6_turnsTo_0 : decode cX6_turnsTo 0 = .ok (.aload_n 0, 1) := by decide +kernel
theorem dX6_turnsTo_1 : decode cX6_turnsTo 1 = .ok (.getfield 7, 3) := by decide +kernel
theorem dX6_turnsTo_4 : decode cX6_turnsTo 4 = .ok (.bipush 6, 2) := by decide +kernel
theorem dX6_turnsTo_6 : decode cX6_turnsTo 6 = .ok (.aload_n 0, 1) := by decide +kernel
theorem dX6_turnsTo_7 : decode cX6_turnsTo 7 = .ok (.invokevirtual 114, 3) := by decide +kernel
theorem dX6_turnsTo_10 : decode cX6_turnsTo 10 = .ok (.iload_n 1, 1) := by decide +kernel
theorem dX6_turnsTo_11 : decode cX6_turnsTo 11 = .ok (.if_icmp .ne 13, 3) := by decide +kernel
theorem dX6_turnsTo_14 : decode cX6_turnsTo 14 = .ok (.aload_n 0, 1) := by decide +kernel
theorem dX6_turnsTo_15 : decode cX6_turnsTo 15 = .ok (.getfield 7, 3) := by decide +kernel
theorem dX6_turnsTo_18 : decode cX6_turnsTo 18 = .ok (.bipush 6, 2) := by decide +kernel
theorem dX6_turnsTo_20 : decode cX6_turnsTo 20 = .ok (.iaload, 1) := by decide +kernel
theorem dX6_turnsTo_21 : decode cX6_turnsTo 21 = .ok (.goto 4, 3) := by decide +kernel
theorem dX6_turnsTo_24 : decode cX6_turnsTo 24 = .ok (.iconst 0, 1) := by decide +kernel
theorem dX6_turnsTo_25 : decode cX6_turnsTo 25 = .ok (.iastore, 1) := by decide +kernel
theorem dX6_turnsTo_26 : decode cX6_turnsTo 26 = .ok (.return_, 1) := by decide +kernel
set_option maxRecDepth 20000 in
theorem ggX6_setPuzzles_X6_in : GoodIn wsX6_setPuzzles wsX6_in := goodIn_r _ [5] (by decide +kernel) (by decide +kernel)
set_option maxRecDepth 20000 in
theorem gX6_setPuzzles_X6_in : GoodIn wsX6_setPuzzles (va_wsS RX6 32 yX6_in wsX6_in) := goodIn_app (goodIn_of _ (by decide +kernel)) ggX6_setPuzzles_X6_in
set_option maxRecDepth 20000 in
theorem ggX6_setPuzzles_X6_refused : GoodIn wsX6_setPuzzles wsX6_refused := goodIn_r _ [9, 10, 25, 26, 27, 28, 29, 30, 31, 32, 33, 34, 35, 36, 37, 38, 39] (by decide +kernel) (by decide +kernel)
set_option maxRecDepth 20000 in
theorem gX6_setPuzzles_X6_refused : GoodIn wsX6_setPuzzles (wsV RX6 39 RX6 yX6_refused wsX6_refused) := goodIn_app (goodIn_of _ (by decide +kernel)) ggX6_setPuzzles_X6_refused
set_option maxRecDepth 20000 in
theorem ggX6_setPuzzles_X6_saves : GoodIn wsX6_setPuzzles wsX6_saves := goodIn_r _ [14, 15, 16, 1, 25, 26, 27, 28, 29, 30, 31, 32, 33, 34, 35, 36, 37, 38, 39] (by decide +kernel) (by decide +kernel)
set_option maxRecDepth 20000 in
theorem gX6_setPuzzles_X6_saves : GoodIn wsX6_setPuzzles (wsV RX6 127 RX6 yX6_saves wsX6_saves) := goodIn_app (goodIn_of _ (by decide +kernel)) ggX6_setPuzzles_X6_saves
set_option maxRecDepth 20000 in
theorem ggX6_setPuzzles_X6_epochNow : GoodIn wsX6_setPuzzles wsX6_epochNow := goodIn_r _ [20, 1, 25, 26, 27, 28, 29, 30, 31, 32, 33, 34, 35, 36, 37, 38, 39] (by decide +kernel) (by decide +kernel)
set_option maxRecDepth 20000 in
theorem gX6_setPuzzles_X6_epochNow : GoodIn wsX6_setPuzzles (wsV RX6 114 RX6 yX6_epochNow wsX6_epochNow) := goodIn_app (goodIn_of _ (by decide +kernel)) ggX6_setPuzzles_X6_epochNow
set_option maxRecDepth 20000 in
theorem ggX6_setPuzzles_X6_turnsTo : GoodIn wsX6_setPuzzles wsX6_turnsTo := goodIn_r _ [24, 1, 17, 18, 19, 4, 20, 25, 26, 27, 28, 29, 30, 31, 32, 33, 34, 35, 36, 37, 38, 39] (by decide +kernel) (by decide +kernel)
set_option maxRecDepth 20000 in
theorem gX6_setPuzzles_X6_turnsTo : GoodIn wsX6_setPuzzles (wsV RX6 130 RX6 yX6_turnsTo wsX6_turnsTo) := goodIn_app (goodIn_of _ (by decide +kernel)) ggX6_setPuzzles_X6_turnsTo
theorem dX6_setPuzzles_0 : decode cX6_setPuzzles 0 = .ok (.aload_n 0, 1) := by decide +kernel
theorem dX6_setPuzzles_1 : decode cX6_setPuzzles 1 = .ok (.iload_n 1, 1) := by decide +kernel
theorem dX6_setPuzzles_2 : decode cX6_setPuzzles 2 = .ok (.iconst 0, 1) := by decide +kernel
theorem dX6_setPuzzles_3 : decode cX6_setPuzzles 3 = .ok (.bipush 6, 2) := by decide +kernel
theorem dX6_setPuzzles_5 : decode cX6_setPuzzles 5 = .ok (.invokestatic 32, 3) := by decide +kernel
theorem dX6_setPuzzles_8 : decode cX6_setPuzzles 8 = .ok (.ifCond .eq 29, 3) := by decide +kernel
theorem dX6_setPuzzles_11 : decode cX6_setPuzzles 11 = .ok (.iload_n 2, 1) := by decide +kernel
theorem dX6_setPuzzles_12 : decode cX6_setPuzzles 12 = .ok (.bipush 10, 2) := by decide +kernel
theorem dX6_setPuzzles_14 : decode cX6_setPuzzles 14 = .ok (.sipush 1000, 3) := by decide +kernel
theorem dX6_setPuzzles_17 : decode cX6_setPuzzles 17 = .ok (.invokestatic 32, 3) := by decide +kernel
theorem dX6_setPuzzles_20 : decode cX6_setPuzzles 20 = .ok (.ifCond .eq 17, 3) := by decide +kernel
theorem dX6_setPuzzles_23 : decode cX6_setPuzzles 23 = .ok (.iload_n 3, 1) := by decide +kernel
theorem dX6_setPuzzles_24 : decode cX6_setPuzzles 24 = .ok (.iconst 5, 1) := by decide +kernel
theorem dX6_setPuzzles_25 : decode cX6_setPuzzles 25 = .ok (.bipush 100, 2) := by decide +kernel
theorem dX6_setPuzzles_27 : decode cX6_setPuzzles 27 = .ok (.invokestatic 32, 3) := by decide +kernel
theorem dX6_setPuzzles_30 : decode cX6_setPuzzles 30 = .ok (.ifCond .eq 7, 3) := by decide +kernel
theorem dX6_setPuzzles_33 : decode cX6_setPuzzles 33 = .ok (.iconst 0, 1) := by decide +kernel
theorem dX6_setPuzzles_34 : decode cX6_setPuzzles 34 = .ok (.goto 4, 3) := by decide +kernel
theorem dX6_setPuzzles_37 : decode cX6_setPuzzles 37 = .ok (.iconst 1, 1) := by decide +kernel
theorem dX6_setPuzzles_38 : decode cX6_setPuzzles 38 = .ok (.invokevirtual 39, 3) := by decide +kernel
theorem dX6_setPuzzles_41 : decode cX6_setPuzzles 41 = .ok (.ifCond .eq 5, 3) := by decide +kernel
theorem dX6_setPuzzles_44 : decode cX6_setPuzzles 44 = .ok (.iconst 0, 1) := by decide +kernel
theorem dX6_setPuzzles_45 : decode cX6_setPuzzles 45 = .ok (.ireturn, 1) := by decide +kernel
theorem dX6_setPuzzles_46 : decode cX6_setPuzzles 46 = .ok (.aload_n 0, 1) := by decide +kernel
theorem dX6_setPuzzles_47 : decode cX6_setPuzzles 47 = .ok (.invokevirtual 127, 3) := by decide +kernel
theorem dX6_setPuzzles_50 : decode cX6_setPuzzles 50 = .ok (.aload_n 0, 1) := by decide +kernel
theorem dX6_setPuzzles_51 : decode cX6_setPuzzles 51 = .ok (.getfield 7, 3) := by decide +kernel
theorem dX6_setPuzzles_54 : decode cX6_setPuzzles 54 = .ok (.iconst 0, 1) := by decide +kernel
theorem dX6_setPuzzles_55 : decode cX6_setPuzzles 55 = .ok (.iaload, 1) := by decide +kernel
theorem dX6_setPuzzles_56 : decode cX6_setPuzzles 56 = .ok (.istore 4, 2) := by decide +kernel
theorem dX6_setPuzzles_58 : decode cX6_setPuzzles 58 = .ok (.aload_n 0, 1) := by decide +kernel
theorem dX6_setPuzzles_59 : decode cX6_setPuzzles 59 = .ok (.invokevirtual 114, 3) := by decide +kernel
theorem dX6_setPuzzles_62 : decode cX6_setPuzzles 62 = .ok (.istore 5, 2) := by decide +kernel
theorem dX6_setPuzzles_64 : decode cX6_setPuzzles 64 = .ok (.aload_n 0, 1) := by decide +kernel
theorem dX6_setPuzzles_65 : decode cX6_setPuzzles 65 = .ok (.getfield 7, 3) := by decide +kernel
theorem dX6_setPuzzles_68 : decode cX6_setPuzzles 68 = .ok (.iconst 0, 1) := by decide +kernel
theorem dX6_setPuzzles_69 : decode cX6_setPuzzles 69 = .ok (.iload_n 1, 1) := by decide +kernel
theorem dX6_setPuzzles_70 : decode cX6_setPuzzles 70 = .ok (.iastore, 1) := by decide +kernel
theorem dX6_setPuzzles_71 : decode cX6_setPuzzles 71 = .ok (.aload_n 0, 1) := by decide +kernel
theorem dX6_setPuzzles_72 : decode cX6_setPuzzles 72 = .ok (.getfield 7, 3) := by decide +kernel
theorem dX6_setPuzzles_75 : decode cX6_setPuzzles 75 = .ok (.iconst 1, 1) := by decide +kernel
theorem dX6_setPuzzles_76 : decode cX6_setPuzzles 76 = .ok (.iload_n 2, 1) := by decide +kernel
theorem dX6_setPuzzles_77 : decode cX6_setPuzzles 77 = .ok (.iastore, 1) := by decide +kernel
theorem dX6_setPuzzles_78 : decode cX6_setPuzzles 78 = .ok (.aload_n 0, 1) := by decide +kernel
theorem dX6_setPuzzles_79 : decode cX6_setPuzzles 79 = .ok (.getfield 7, 3) := by decide +kernel
theorem dX6_setPuzzles_82 : decode cX6_setPuzzles 82 = .ok (.iconst 2, 1) := by decide +kernel
theorem dX6_setPuzzles_83 : decode cX6_setPuzzles 83 = .ok (.iload_n 3, 1) := by decide +kernel
theorem dX6_setPuzzles_84 : decode cX6_setPuzzles 84 = .ok (.iastore, 1) := by decide +kernel
theorem dX6_setPuzzles_85 : decode cX6_setPuzzles 85 = .ok (.aload_n 0, 1) := by decide +kernel
theorem dX6_setPuzzles_86 : decode cX6_setPuzzles 86 = .ok (.iload 5, 2) := by decide +kernel
theorem dX6_setPuzzles_88 : decode cX6_setPuzzles 88 = .ok (.invokevirtual 130, 3) := by decide +kernel
theorem dX6_setPuzzles_91 : decode cX6_setPuzzles 91 = .ok (.iload 4, 2) := by decide +kernel
theorem dX6_setPuzzles_93 : decode cX6_setPuzzles 93 = .ok (.ireturn, 1) := by decide +kernel
set_option maxRecDepth 20000 in
theorem ggX6_setQuotas_X6_in : GoodIn wsX6_setQuotas wsX6_in := goodIn_r _ [5] (by decide +kernel) (by decide +kernel)
set_option maxRecDepth 20000 in
theorem gX6_setQuotas_X6_in : GoodIn wsX6_setQuotas (va_wsS RX6 32 yX6_in wsX6_in) := goodIn_app (goodIn_of _ (by decide +kernel)) ggX6_setQuotas_X6_in
set_option maxRecDepth 20000 in
theorem ggX6_setQuotas_X6_refused : GoodIn wsX6_setQuotas wsX6_refused := goodIn_r _ [9, 10, 17, 18, 19, 20, 21, 22, 23, 24, 25, 26, 27, 28, 29, 30, 31] (by decide +kernel) (by decide +kernel)
set_option maxRecDepth 20000 in
theorem gX6_setQuotas_X6_refused : GoodIn wsX6_setQuotas (wsV RX6 39 RX6 yX6_refused wsX6_refused) := goodIn_app (goodIn_of _ (by decide +kernel)) ggX6_setQuotas_X6_refused
set_option maxRecDepth 20000 in
theorem ggX6_setQuotas_X6_saves : GoodIn wsX6_setQuotas wsX6_saves := goodIn_r _ [14, 15, 16, 1, 17, 18, 19, 20, 21, 22, 23, 24, 25, 26, 27, 28, 29, 30, 31] (by decide +kernel) (by decide +kernel)
set_option maxRecDepth 20000 in
theorem gX6_setQuotas_X6_saves : GoodIn wsX6_setQuotas (wsV RX6 127 RX6 yX6_saves wsX6_saves) := goodIn_app (goodIn_of _ (by decide +kernel)) ggX6_setQuotas_X6_saves
theorem dX6_setQuotas_0 : decode cX6_setQuotas 0 = .ok (.aload_n 0, 1) := by decide +kernel
theorem dX6_setQuotas_1 : decode cX6_setQuotas 1 = .ok (.iload_n 1, 1) := by decide +kernel
theorem dX6_setQuotas_2 : decode cX6_setQuotas 2 = .ok (.iconst 1, 1) := by decide +kernel
theorem dX6_setQuotas_3 : decode cX6_setQuotas 3 = .ok (.iconst 4, 1) := by decide +kernel
theorem dX6_setQuotas_4 : decode cX6_setQuotas 4 = .ok (.invokestatic 32, 3) := by decide +kernel
theorem dX6_setQuotas_7 : decode cX6_setQuotas 7 = .ok (.ifCond .eq 17, 3) := by decide +kernel
theorem dX6_setQuotas_10 : decode cX6_setQuotas 10 = .ok (.iload_n 2, 1) := by decide +kernel
theorem dX6_setQuotas_11 : decode cX6_setQuotas 11 = .ok (.iconst 1, 1) := by decide +kernel
theorem dX6_setQuotas_12 : decode cX6_setQuotas 12 = .ok (.bipush 32, 2) := by decide +kernel
theorem dX6_setQuotas_14 : decode cX6_setQuotas 14 = .ok (.invokestatic 32, 3) := by decide +kernel
theorem dX6_setQuotas_17 : decode cX6_setQuotas 17 = .ok (.ifCond .eq 7, 3) := by decide +kernel
theorem dX6_setQuotas_20 : decode cX6_setQuotas 20 = .ok (.iconst 0, 1) := by decide +kernel
theorem dX6_setQuotas_21 : decode cX6_setQuotas 21 = .ok (.goto 4, 3) := by decide +kernel
theorem dX6_setQuotas_24 : decode cX6_setQuotas 24 = .ok (.iconst 1, 1) := by decide +kernel
theorem dX6_setQuotas_25 : decode cX6_setQuotas 25 = .ok (.invokevirtual 39, 3) := by decide +kernel
theorem dX6_setQuotas_28 : decode cX6_setQuotas 28 = .ok (.ifCond .eq 5, 3) := by decide +kernel
theorem dX6_setQuotas_31 : decode cX6_setQuotas 31 = .ok (.iconst 0, 1) := by decide +kernel
theorem dX6_setQuotas_32 : decode cX6_setQuotas 32 = .ok (.ireturn, 1) := by decide +kernel
theorem dX6_setQuotas_33 : decode cX6_setQuotas 33 = .ok (.aload_n 0, 1) := by decide +kernel
theorem dX6_setQuotas_34 : decode cX6_setQuotas 34 = .ok (.invokevirtual 127, 3) := by decide +kernel
theorem dX6_setQuotas_37 : decode cX6_setQuotas 37 = .ok (.bipush 10, 2) := by decide +kernel
theorem dX6_setQuotas_39 : decode cX6_setQuotas 39 = .ok (.aload_n 0, 1) := by decide +kernel
theorem dX6_setQuotas_40 : decode cX6_setQuotas 40 = .ok (.getfield 7, 3) := by decide +kernel
theorem dX6_setQuotas_43 : decode cX6_setQuotas 43 = .ok (.iconst 4, 1) := by decide +kernel
theorem dX6_setQuotas_44 : decode cX6_setQuotas 44 = .ok (.iaload, 1) := by decide +kernel
theorem dX6_setQuotas_45 : decode cX6_setQuotas 45 = .ok (.imul, 1) := by decide +kernel
theorem dX6_setQuotas_46 : decode cX6_setQuotas 46 = .ok (.aload_n 0, 1) := by decide +kernel
theorem dX6_setQuotas_47 : decode cX6_setQuotas 47 = .ok (.getfield 7, 3) := by decide +kernel
theorem dX6_setQuotas_50 : decode cX6_setQuotas 50 = .ok (.iconst 3, 1) := by decide +kernel
theorem dX6_setQuotas_51 : decode cX6_setQuotas 51 = .ok (.iaload, 1) := by decide +kernel
theorem dX6_setQuotas_52 : decode cX6_setQuotas 52 = .ok (.iadd, 1) := by decide +kernel
theorem dX6_setQuotas_53 : decode cX6_setQuotas 53 = .ok (.istore_n 3, 1) := by decide +kernel
theorem dX6_setQuotas_54 : decode cX6_setQuotas 54 = .ok (.aload_n 0, 1) := by decide +kernel
theorem dX6_setQuotas_55 : decode cX6_setQuotas 55 = .ok (.getfield 7, 3) := by decide +kernel
theorem dX6_setQuotas_58 : decode cX6_setQuotas 58 = .ok (.iconst 3, 1) := by decide +kernel
theorem dX6_setQuotas_59 : decode cX6_setQuotas 59 = .ok (.iload_n 1, 1) := by decide +kernel
theorem dX6_setQuotas_60 : decode cX6_setQuotas 60 = .ok (.iastore, 1) := by decide +kernel
theorem dX6_setQuotas_61 : decode cX6_setQuotas 61 = .ok (.aload_n 0, 1) := by decide +kernel
theorem dX6_setQuotas_62 : decode cX6_setQuotas 62 = .ok (.getfield 7, 3) := by decide +kernel
theorem dX6_setQuotas_65 : decode cX6_setQuotas 65 = .ok (.iconst 4, 1) := by decide +kernel
theorem dX6_setQuotas_66 : decode cX6_setQuotas 66 = .ok (.iload_n 2, 1) := by decide +kernel
theorem dX6_setQuotas_67 : decode cX6_setQuotas 67 = .ok (.iastore, 1) := by decide +kernel
theorem dX6_setQuotas_68 : decode cX6_setQuotas 68 = .ok (.iload_n 3, 1) := by decide +kernel
theorem dX6_setQuotas_69 : decode cX6_setQuotas 69 = .ok (.ireturn, 1) := by decide +kernel
set_option maxRecDepth 20000 in
theorem ggX6_areTicks_X6_in : GoodIn wsX6_areTicks wsX6_in := goodIn_r _ [4] (by decide +kernel) (by decide +kernel)
set_option maxRecDepth 20000 in
theorem gX6_areTicks_X6_in : GoodIn wsX6_areTicks (va_wsS RX6 32 yX6_in wsX6_in) := goodIn_app (goodIn_of _ (by decide +kernel)) ggX6_areTicks_X6_in
theorem dX6_areTicks_0 : decode cX6_areTicks 0 = .ok (.iload_n 0, 1) := by decide +kernel
theorem dX6_areTicks_1 : decode cX6_areTicks 1 = .ok (.iconst 1, 1) := by decide +kernel
theorem dX6_areTicks_2 : decode cX6_areTicks 2 = .ok (.sipush 500, 3) := by decide +kernel
theorem dX6_areTicks_5 : decode cX6_areTicks 5 = .ok (.invokestatic 32, 3) := by decide +kernel
theorem dX6_areTicks_8 : decode cX6_areTicks 8 = .ok (.ireturn, 1) := by decide +kernel
set_option maxRecDepth 20000 in
theorem ggX6_passes_X6_epochNow : GoodIn wsX6_passes wsX6_epochNow := goodIn_r _ [6, 1, 18, 19, 20, 21, 22, 23, 24, 25, 26, 27, 28, 29, 30, 31, 32] (by decide +kernel) (by decide +kernel)
set_option maxRecDepth 20000 in
theorem gX6_passes_X6_epochNow : GoodIn wsX6_passes (wsV RX6 114 RX6 yX6_epochNow wsX6_epochNow) := goodIn_app (goodIn_of _ (by decide +kernel)) ggX6_passes_X6_epochNow
set_option maxRecDepth 20000 in
theorem ggX6_passes_X6_turnsTo : GoodIn wsX6_passes wsX6_turnsTo := goodIn_r _ [10, 1, 2, 3, 4, 5, 6, 18, 19, 20, 21, 22, 23, 24, 25, 26, 27, 28, 29, 30, 31, 32] (by decide +kernel) (by decide +kernel)
set_option maxRecDepth 20000 in
theorem gX6_passes_X6_turnsTo : GoodIn wsX6_passes (wsV RX6 130 RX6 yX6_turnsTo wsX6_turnsTo) := goodIn_app (goodIn_of _ (by decide +kernel)) ggX6_passes_X6_turnsTo
set_option maxRecDepth 20000 in
theorem ggX6_passes_X6_of : GoodIn wsX6_passes wsX6_of := goodIn_r _ [13] (by decide +kernel) (by decide +kernel)
set_option maxRecDepth 20000 in
theorem gX6_passes_X6_of : GoodIn wsX6_passes (va_wsS RX6 43 yX6_of wsX6_of) := goodIn_app (goodIn_of _ (by decide +kernel)) ggX6_passes_X6_of
set_option maxRecDepth 20000 in
theorem ggX6_passes_X6_ends : GoodIn wsX6_passes wsX6_ends := goodIn_r _ [17, 1, 18, 19, 20, 21, 22, 23, 24, 25, 26, 27, 28, 29, 30, 31, 32] (by decide +kernel) (by decide +kernel)
set_option maxRecDepth 20000 in
theorem gX6_passes_X6_ends : GoodIn wsX6_passes (wsV RX6 133 RX6 yX6_ends wsX6_ends) := goodIn_app (goodIn_of _ (by decide +kernel)) ggX6_passes_X6_ends
theorem dX6_passes_0 : decode cX6_passes 0 = .ok (.aload_n 0, 1) := by decide +kernel
theorem dX6_passes_1 : decode cX6_passes 1 = .ok (.invokevirtual 114, 3) := by decide +kernel
theorem dX6_passes_4 : decode cX6_passes 4 = .ok (.istore_n 2, 1) := by decide +kernel
theorem dX6_passes_5 : decode cX6_passes 5 = .ok (.aload_n 0, 1) := by decide +kernel
theorem dX6_passes_6 : decode cX6_passes 6 = .ok (.getfield 7, 3) := by decide +kernel
theorem dX6_passes_9 : decode cX6_passes 9 = .ok (.iconst 5, 1) := by decide +kernel
theorem dX6_passes_10 : decode cX6_passes 10 = .ok (.dup2, 1) := by decide +kernel
theorem dX6_passes_11 : decode cX6_passes 11 = .ok (.iaload, 1) := by decide +kernel
theorem dX6_passes_12 : decode cX6_passes 12 = .ok (.iload_n 1, 1) := by decide +kernel
theorem dX6_passes_13 : decode cX6_passes 13 = .ok (.iadd, 1) := by decide +kernel
theorem dX6_passes_14 : decode cX6_passes 14 = .ok (.iastore, 1) := by decide +kernel
theorem dX6_passes_15 : decode cX6_passes 15 = .ok (.aload_n 0, 1) := by decide +kernel
theorem dX6_passes_16 : decode cX6_passes 16 = .ok (.iload_n 2, 1) := by decide +kernel
theorem dX6_passes_17 : decode cX6_passes 17 = .ok (.invokevirtual 130, 3) := by decide +kernel
theorem dX6_passes_20 : decode cX6_passes 20 = .ok (.iconst 0, 1) := by decide +kernel
theorem dX6_passes_21 : decode cX6_passes 21 = .ok (.istore_n 3, 1) := by decide +kernel
theorem dX6_passes_22 : decode cX6_passes 22 = .ok (.iconst 0, 1) := by decide +kernel
theorem dX6_passes_23 : decode cX6_passes 23 = .ok (.istore 4, 2) := by decide +kernel
theorem dX6_passes_25 : decode cX6_passes 25 = .ok (.iload 4, 2) := by decide +kernel
theorem dX6_passes_27 : decode cX6_passes 27 = .ok (.bipush 24, 2) := by decide +kernel
theorem dX6_passes_29 : decode cX6_passes 29 = .ok (.if_icmp .ge 60, 3) := by decide +kernel
theorem dX6_passes_32 : decode cX6_passes 32 = .ok (.iload 4, 2) := by decide +kernel
theorem dX6_passes_34 : decode cX6_passes 34 = .ok (.invokestatic 43, 3) := by decide +kernel
theorem dX6_passes_37 : decode cX6_passes 37 = .ok (.istore 5, 2) := by decide +kernel
theorem dX6_passes_39 : decode cX6_passes 39 = .ok (.aload_n 0, 1) := by decide +kernel
theorem dX6_passes_40 : decode cX6_passes 40 = .ok (.getfield 7, 3) := by decide +kernel
theorem dX6_passes_43 : decode cX6_passes 43 = .ok (.iload 5, 2) := by decide +kernel
theorem dX6_passes_45 : decode cX6_passes 45 = .ok (.iaload, 1) := by decide +kernel
theorem dX6_passes_46 : decode cX6_passes 46 = .ok (.ifCond .le 37, 3) := by decide +kernel
theorem dX6_passes_49 : decode cX6_passes 49 = .ok (.aload_n 0, 1) := by decide +kernel
theorem dX6_passes_50 : decode cX6_passes 50 = .ok (.getfield 7, 3) := by decide +kernel
theorem dX6_passes_53 : decode cX6_passes 53 = .ok (.iload 5, 2) := by decide +kernel
theorem dX6_passes_55 : decode cX6_passes 55 = .ok (.iconst 2, 1) := by decide +kernel
theorem dX6_passes_56 : decode cX6_passes 56 = .ok (.iadd, 1) := by decide +kernel
theorem dX6_passes_57 : decode cX6_passes 57 = .ok (.iaload, 1) := by decide +kernel
theorem dX6_passes_58 : decode cX6_passes 58 = .ok (.aload_n 0, 1) := by decide +kernel
theorem dX6_passes_59 : decode cX6_passes 59 = .ok (.getfield 7, 3) := by decide +kernel
theorem dX6_passes_62 : decode cX6_passes 62 = .ok (.iconst 1, 1) := by decide +kernel
theorem dX6_passes_63 : decode cX6_passes 63 = .ok (.iaload, 1) := by decide +kernel
theorem dX6_passes_64 : decode cX6_passes 64 = .ok (.iadd, 1) := by decide +kernel
theorem dX6_passes_65 : decode cX6_passes 65 = .ok (.aload_n 0, 1) := by decide +kernel
theorem dX6_passes_66 : decode cX6_passes 66 = .ok (.getfield 7, 3) := by decide +kernel
theorem dX6_passes_69 : decode cX6_passes 69 = .ok (.iconst 5, 1) := by decide +kernel
theorem dX6_passes_70 : decode cX6_passes 70 = .ok (.iaload, 1) := by decide +kernel
theorem dX6_passes_71 : decode cX6_passes 71 = .ok (.if_icmp .gt 12, 3) := by decide +kernel
theorem dX6_passes_74 : decode cX6_passes 74 = .ok (.aload_n 0, 1) := by decide +kernel
theorem dX6_passes_75 : decode cX6_passes 75 = .ok (.iload 5, 2) := by decide +kernel
theorem dX6_passes_77 : decode cX6_passes 77 = .ok (.invokevirtual 133, 3) := by decide +kernel
theorem dX6_passes_80 : decode cX6_passes 80 = .ok (.iinc 3 1, 3) := by decide +kernel
theorem dX6_passes_83 : decode cX6_passes 83 = .ok (.iinc 4 1, 3) := by decide +kernel
theorem dX6_passes_86 : decode cX6_passes 86 = .ok (.goto (-61), 3) := by decide +kernel
theorem dX6_passes_89 : decode cX6_passes 89 = .ok (.iload_n 3, 1) := by decide +kernel
theorem dX6_passes_90 : decode cX6_passes 90 = .ok (.ireturn, 1) := by decide +kernel
set_option maxRecDepth 20000 in
theorem ggX6_tick_X6_areTicks : GoodIn wsX6_tick wsX6_areTicks := goodIn_r _ [4, 5, 6, 3, 7] (by decide +kernel) (by decide +kernel)
set_option maxRecDepth 20000 in
theorem gX6_tick_X6_areTicks : GoodIn wsX6_tick (va_wsS RX6 136 yX6_areTicks wsX6_areTicks) := goodIn_app (goodIn_of _ (by decide +kernel)) ggX6_tick_X6_areTicks
set_option maxRecDepth 20000 in
theorem ggX6_tick_X6_refused : GoodIn wsX6_tick wsX6_refused := goodIn_r _ [11, 12, 39, 40, 41, 42, 43, 44, 45, 46, 47, 48, 49, 50, 51, 52, 53] (by decide +kernel) (by decide +kernel)
set_option maxRecDepth 20000 in
theorem gX6_tick_X6_refused : GoodIn wsX6_tick (wsV RX6 39 RX6 yX6_refused wsX6_refused) := goodIn_app (goodIn_of _ (by decide +kernel)) ggX6_tick_X6_refused
set_option maxRecDepth 20000 in
theorem ggX6_tick_X6_saves : GoodIn wsX6_tick wsX6_saves := goodIn_r _ [16, 17, 18, 19, 39, 40, 41, 42, 43, 44, 45, 46, 47, 48, 49, 50, 51, 52, 53] (by decide +kernel) (by decide +kernel)
set_option maxRecDepth 20000 in
theorem gX6_tick_X6_saves : GoodIn wsX6_tick (wsV RX6 127 RX6 yX6_saves wsX6_saves) := goodIn_app (goodIn_of _ (by decide +kernel)) ggX6_tick_X6_saves
set_option maxRecDepth 20000 in
theorem ggX6_tick_X6_passes : GoodIn wsX6_tick wsX6_passes := goodIn_r _ [23, 19, 24, 25, 26, 3, 27, 28, 29, 30, 31, 32, 33, 34, 35, 36, 37, 38, 39, 40, 41, 42, 43, 44, 45, 46, 47, 48, 49, 50, 51, 52, 53] (by decide +kernel) (by decide +kernel)
set_option maxRecDepth 20000 in
theorem gX6_tick_X6_passes : GoodIn wsX6_tick (wsV RX6 139 RX6 yX6_passes wsX6_passes) := goodIn_app (goodIn_of _ (by decide +kernel)) ggX6_tick_X6_passes
theorem dX6_tick_0 : decode cX6_tick 0 = .ok (.aload_n 0, 1) := by decide +kernel
theorem dX6_tick_1 : decode cX6_tick 1 = .ok (.iload_n 1, 1) := by decide +kernel
theorem dX6_tick_2 : decode cX6_tick 2 = .ok (.invokestatic 136, 3) := by decide +kernel
theorem dX6_tick_5 : decode cX6_tick 5 = .ok (.ifCond .eq 7, 3) := by decide +kernel
theorem dX6_tick_8 : decode cX6_tick 8 = .ok (.iconst 0, 1) := by decide +kernel
theorem dX6_tick_9 : decode cX6_tick 9 = .ok (.goto 4, 3) := by decide +kernel
theorem dX6_tick_12 : decode cX6_tick 12 = .ok (.iconst 1, 1) := by decide +kernel
theorem dX6_tick_13 : decode cX6_tick 13 = .ok (.invokevirtual 39, 3) := by decide +kernel
theorem dX6_tick_16 : decode cX6_tick 16 = .ok (.ifCond .eq 5, 3) := by decide +kernel
theorem dX6_tick_19 : decode cX6_tick 19 = .ok (.iconst 0, 1) := by decide +kernel
theorem dX6_tick_20 : decode cX6_tick 20 = .ok (.ireturn, 1) := by decide +kernel
theorem dX6_tick_21 : decode cX6_tick 21 = .ok (.aload_n 0, 1) := by decide +kernel
theorem dX6_tick_22 : decode cX6_tick 22 = .ok (.invokevirtual 127, 3) := by decide +kernel
theorem dX6_tick_25 : decode cX6_tick 25 = .ok (.aload_n 0, 1) := by decide +kernel
theorem dX6_tick_26 : decode cX6_tick 26 = .ok (.iload_n 1, 1) := by decide +kernel
theorem dX6_tick_27 : decode cX6_tick 27 = .ok (.invokevirtual 139, 3) := by decide +kernel
theorem dX6_tick_30 : decode cX6_tick 30 = .ok (.ireturn, 1) := by decide +kernel
set_option maxRecDepth 20000 in
theorem ggX6_isSponsor_X6_memberMany : GoodIn wsX6_isSponsor wsX6_memberMany := goodIn_r _ [5, 6, 7, 8, 4, 9, 24, 25, 26, 27, 28, 29, 30, 31, 32, 33, 34, 35, 36, 37, 38] (by decide +kernel) (by decide +kernel)
set_option maxRecDepth 20000 in
theorem gX6_isSponsor_X6_memberMany : GoodIn wsX6_isSponsor (wsV RX6 142 RX6 yX6_memberMany wsX6_memberMany) := goodIn_app (goodIn_of _ (by decide +kernel)) ggX6_isSponsor_X6_memberMany
set_option maxRecDepth 20000 in
theorem ggX6_isSponsor_X6_isMember : GoodIn wsX6_isSponsor wsX6_isMember := goodIn_r _ [13, 14, 15, 4, 16, 17, 18, 19, 20, 21, 22, 23, 6, 7, 8, 9, 24, 25, 26, 27, 28, 29, 30, 31, 32, 33, 34, 35, 36, 37, 38] (by decide +kernel) (by decide +kernel)
set_option maxRecDepth 20000 in
theorem gX6_isSponsor_X6_isMember : GoodIn wsX6_isSponsor (wsV RX6 75 RX6 yX6_isMember wsX6_isMember) := goodIn_app (goodIn_of _ (by decide +kernel)) ggX6_isSponsor_X6_isMember
theorem dX6_isSponsor_0 : decode cX6_isSponsor 0 = .ok (.aload_n 0, 1) := by decide +kernel
theorem dX6_isSponsor_1 : decode cX6_isSponsor 1 = .ok (.invokevirtual 142, 3) := by decide +kernel
theorem dX6_isSponsor_4 : decode cX6_isSponsor 4 = .ok (.ifCond .ne 16, 3) := by decide +kernel
theorem dX6_isSponsor_7 : decode cX6_isSponsor 7 = .ok (.iload_n 1, 1) := by decide +kernel
theorem dX6_isSponsor_8 : decode cX6_isSponsor 8 = .ok (.iconst (-1), 1) := by decide +kernel
theorem dX6_isSponsor_9 : decode cX6_isSponsor 9 = .ok (.if_icmp .ne 7, 3) := by decide +kernel
theorem dX6_isSponsor_12 : decode cX6_isSponsor 12 = .ok (.iconst 1, 1) := by decide +kernel
theorem dX6_isSponsor_13 : decode cX6_isSponsor 13 = .ok (.goto 12, 3) := by decide +kernel
theorem dX6_isSponsor_16 : decode cX6_isSponsor 16 = .ok (.iconst 0, 1) := by decide +kernel
theorem dX6_isSponsor_17 : decode cX6_isSponsor 17 = .ok (.goto 8, 3) := by decide +kernel
theorem dX6_isSponsor_20 : decode cX6_isSponsor 20 = .ok (.aload_n 0, 1) := by decide +kernel
theorem dX6_isSponsor_21 : decode cX6_isSponsor 21 = .ok (.iload_n 1, 1) := by decide +kernel
theorem dX6_isSponsor_22 : decode cX6_isSponsor 22 = .ok (.invokevirtual 75, 3) := by decide +kernel
theorem dX6_isSponsor_25 : decode cX6_isSponsor 25 = .ok (.ireturn, 1) := by decide +kernel
set_option maxRecDepth 20000 in
theorem ggX6_bad_X6_isId : GoodIn wsX6_bad wsX6_isId := goodIn_r _ [4, 5, 6, 3, 7] (by decide +kernel) (by decide +kernel)
set_option maxRecDepth 20000 in
theorem gX6_bad_X6_isId : GoodIn wsX6_bad (va_wsS RX6 47 yX6_isId wsX6_isId) := goodIn_app (goodIn_of _ (by decide +kernel)) ggX6_bad_X6_isId
set_option maxRecDepth 20000 in
theorem ggX6_bad_X6_in : GoodIn wsX6_bad wsX6_in := goodIn_r _ [7] (by decide +kernel) (by decide +kernel)
set_option maxRecDepth 20000 in
theorem gX6_bad_X6_in : GoodIn wsX6_bad (va_wsS RX6 32 yX6_in wsX6_in) := goodIn_app (goodIn_of _ (by decide +kernel)) ggX6_bad_X6_in
set_option maxRecDepth 20000 in
theorem ggX6_bad_X6_isMember : GoodIn wsX6_bad wsX6_isMember := goodIn_r _ [11, 1, 2, 3, 4, 5, 6, 7, 12, 13, 14, 15, 16, 17, 18, 19, 28, 29, 30, 31, 32, 33, 34, 35, 36, 37, 38, 39, 40, 41, 42] (by decide +kernel) (by decide +kernel)
set_option maxRecDepth 20000 in
theorem gX6_bad_X6_isMember : GoodIn wsX6_bad (wsV RX6 75 RX6 yX6_isMember wsX6_isMember) := goodIn_app (goodIn_of _ (by decide +kernel)) ggX6_bad_X6_isMember
set_option maxRecDepth 20000 in
theorem ggX6_bad_X6_memberMany : GoodIn wsX6_bad wsX6_memberMany := goodIn_r _ [23, 16, 17, 18, 3, 19, 28, 29, 30, 31, 32, 33, 34, 35, 36, 37, 38, 39, 40, 41, 42] (by decide +kernel) (by decide +kernel)
set_option maxRecDepth 20000 in
theorem gX6_bad_X6_memberMany : GoodIn wsX6_bad (wsV RX6 142 RX6 yX6_memberMany wsX6_memberMany) := goodIn_app (goodIn_of _ (by decide +kernel)) ggX6_bad_X6_memberMany
set_option maxRecDepth 20000 in
theorem ggX6_bad_X6_isSponsor : GoodIn wsX6_bad wsX6_isSponsor := goodIn_r _ [27, 20, 21, 22, 3, 23, 16, 17, 18, 19, 8, 9, 10, 11, 1, 2, 4, 5, 6, 7, 12, 13, 14, 15, 28, 29, 30, 31, 32, 33, 34, 35, 36, 37, 38, 39, 40, 41, 42] (by decide +kernel) (by decide +kernel)
set_option maxRecDepth 20000 in
theorem gX6_bad_X6_isSponsor : GoodIn wsX6_bad (wsV RX6 145 RX6 yX6_isSponsor wsX6_isSponsor) := goodIn_app (goodIn_of _ (by decide +kernel)) ggX6_bad_X6_isSponsor
theorem dX6_bad_0 : decode cX6_bad 0 = .ok (.iload_n 1, 1) := by decide +kernel
theorem dX6_bad_1 : decode cX6_bad 1 = .ok (.invokestatic 47, 3) := by decide +kernel
theorem dX6_bad_4 : decode cX6_bad 4 = .ok (.ifCond .eq 28, 3) := by decide +kernel
theorem dX6_bad_7 : decode cX6_bad 7 = .ok (.iload_n 2, 1) := by decide +kernel
theorem dX6_bad_8 : decode cX6_bad 8 = .ok (.iconst 0, 1) := by decide +kernel
theorem dX6_bad_9 : decode cX6_bad 9 = .ok (.bipush 7, 2) := by decide +kernel
theorem dX6_bad_11 : decode cX6_bad 11 = .ok (.invokestatic 32, 3) := by decide +kernel
theorem dX6_bad_14 : decode cX6_bad 14 = .ok (.ifCond .eq 18, 3) := by decide +kernel
theorem dX6_bad_17 : decode cX6_bad 17 = .ok (.iload_n 3, 1) := by decide +kernel
theorem dX6_bad_18 : decode cX6_bad 18 = .ok (.iconst (-1), 1) := by decide +kernel
theorem dX6_bad_19 : decode cX6_bad 19 = .ok (.sipush 255, 3) := by decide +kernel
theorem dX6_bad_22 : decode cX6_bad 22 = .ok (.invokestatic 32, 3) := by decide +kernel
theorem dX6_bad_25 : decode cX6_bad 25 = .ok (.ifCond .eq 7, 3) := by decide +kernel
theorem dX6_bad_28 : decode cX6_bad 28 = .ok (.iconst 1, 1) := by decide +kernel
theorem dX6_bad_29 : decode cX6_bad 29 = .ok (.goto 4, 3) := by decide +kernel
theorem dX6_bad_32 : decode cX6_bad 32 = .ok (.iconst 0, 1) := by decide +kernel
theorem dX6_bad_33 : decode cX6_bad 33 = .ok (.istore 4, 2) := by decide +kernel
theorem dX6_bad_35 : decode cX6_bad 35 = .ok (.iload 4, 2) := by decide +kernel
theorem dX6_bad_37 : decode cX6_bad 37 = .ok (.ifCond .ne 7, 3) := by decide +kernel
theorem dX6_bad_40 : decode cX6_bad 40 = .ok (.iconst 1, 1) := by decide +kernel
theorem dX6_bad_41 : decode cX6_bad 41 = .ok (.goto 37, 3) := by decide +kernel
theorem dX6_bad_44 : decode cX6_bad 44 = .ok (.aload_n 0, 1) := by decide +kernel
theorem dX6_bad_45 : decode cX6_bad 45 = .ok (.iload_n 1, 1) := by decide +kernel
theorem dX6_bad_46 : decode cX6_bad 46 = .ok (.invokevirtual 75, 3) := by decide +kernel
theorem dX6_bad_49 : decode cX6_bad 49 = .ok (.ifCond .ne 12, 3) := by decide +kernel
theorem dX6_bad_52 : decode cX6_bad 52 = .ok (.aload_n 0, 1) := by decide +kernel
theorem dX6_bad_53 : decode cX6_bad 53 = .ok (.invokevirtual 142, 3) := by decide +kernel
theorem dX6_bad_56 : decode cX6_bad 56 = .ok (.bipush 24, 2) := by decide +kernel
theorem dX6_bad_58 : decode cX6_bad 58 = .ok (.if_icmp .ne 7, 3) := by decide +kernel
theorem dX6_bad_61 : decode cX6_bad 61 = .ok (.iconst 2, 1) := by decide +kernel
theorem dX6_bad_62 : decode cX6_bad 62 = .ok (.goto 16, 3) := by decide +kernel
theorem dX6_bad_65 : decode cX6_bad 65 = .ok (.aload_n 0, 1) := by decide +kernel
theorem dX6_bad_66 : decode cX6_bad 66 = .ok (.iload_n 3, 1) := by decide +kernel
theorem dX6_bad_67 : decode cX6_bad 67 = .ok (.invokevirtual 145, 3) := by decide +kernel
theorem dX6_bad_70 : decode cX6_bad 70 = .ok (.ifCond .eq 7, 3) := by decide +kernel
theorem dX6_bad_73 : decode cX6_bad 73 = .ok (.iconst 0, 1) := by decide +kernel
theorem dX6_bad_74 : decode cX6_bad 74 = .ok (.goto 4, 3) := by decide +kernel
theorem dX6_bad_77 : decode cX6_bad 77 = .ok (.iconst 3, 1) := by decide +kernel
theorem dX6_bad_78 : decode cX6_bad 78 = .ok (.ireturn, 1) := by decide +kernel
set_option maxRecDepth 20000 in
theorem ggX6_joins_X6_of : GoodIn wsX6_joins wsX6_of := goodIn_r _ [5] (by decide +kernel) (by decide +kernel)
set_option maxRecDepth 20000 in
theorem gX6_joins_X6_of : GoodIn wsX6_joins (va_wsS RX6 43 yX6_of wsX6_of) := goodIn_app (goodIn_of _ (by decide +kernel)) ggX6_joins_X6_of
set_option maxRecDepth 20000 in
theorem ggX6_joins_X6_learns : GoodIn wsX6_joins wsX6_learns := goodIn_r _ [9, 1, 10, 11, 12, 4, 13, 2, 3, 5, 14, 15, 16, 17, 18, 19, 20, 21, 22, 23, 24, 25, 26, 27, 28, 29, 30, 31, 32, 33, 34, 35, 36, 37, 38, 39, 40, 41, 42, 43, 44, 45, 46, 75, 76, 77, 78, 79, 80, 81, 82, 83, 84, 85, 86, 87, 88, 89] (by decide +kernel) (by decide +kernel)
set_option maxRecDepth 20000 in
theorem gX6_joins_X6_learns : GoodIn wsX6_joins (wsV RX6 91 RX6 yX6_learns wsX6_learns) := goodIn_app (goodIn_of _ (by decide +kernel)) ggX6_joins_X6_learns
set_option maxRecDepth 20000 in
theorem ggX6_joins_X6_looks : GoodIn wsX6_joins wsX6_looks := goodIn_r _ [50, 51, 52, 53, 1, 54, 10, 11, 12, 4, 13, 2, 3, 5, 55, 56, 57, 58, 14, 15, 16, 17, 18, 19, 20, 59, 60, 61, 62, 63, 64, 65, 66, 67, 68, 69, 70, 21, 22, 23, 24, 6, 7, 8, 9, 25, 26, 27, 28, 29, 30, 31, 32, 33, 34, 35, 36, 37, 38, 39, 40, 41, 42, 43, 44, 45, 46, 75, 76, 77, 78, 79, 80, 81, 82, 83, 84, 85, 86, 87, 88, 89] (by decide +kernel) (by decide +kernel)
set_option maxRecDepth 20000 in
theorem gX6_joins_X6_looks : GoodIn wsX6_joins (wsV RX6 148 RX6 yX6_looks wsX6_looks) := goodIn_app (goodIn_of _ (by decide +kernel)) ggX6_joins_X6_looks
set_option maxRecDepth 20000 in
theorem ggX6_joins_X6_entries : GoodIn wsX6_joins wsX6_entries := goodIn_r _ [74, 1, 75, 76, 77, 78, 79, 80, 81, 82, 83, 84, 85, 86, 87, 88, 89] (by decide +kernel) (by decide +kernel)
set_option maxRecDepth 20000 in
theorem gX6_joins_X6_entries : GoodIn wsX6_joins (wsV RX6 151 RX6 yX6_entries wsX6_entries) := goodIn_app (goodIn_of _ (by decide +kernel)) ggX6_joins_X6_entries
theorem dX6_joins_0 : decode cX6_joins 0 = .ok (.iconst 0, 1) := by decide +kernel
theorem dX6_joins_1 : decode cX6_joins 1 = .ok (.istore 4, 2) := by decide +kernel
theorem dX6_joins_3 : decode cX6_joins 3 = .ok (.aload_n 0, 1) := by decide +kernel
theorem dX6_joins_4 : decode cX6_joins 4 = .ok (.getfield 7, 3) := by decide +kernel
theorem dX6_joins_7 : decode cX6_joins 7 = .ok (.iload 4, 2) := by decide +kernel
theorem dX6_joins_9 : decode cX6_joins 9 = .ok (.invokestatic 43, 3) := by decide +kernel
theorem dX6_joins_12 : decode cX6_joins 12 = .ok (.iaload, 1) := by decide +kernel
theorem dX6_joins_13 : decode cX6_joins 13 = .ok (.ifCond .le 9, 3) := by decide +kernel
theorem dX6_joins_16 : decode cX6_joins 16 = .ok (.iinc 4 1, 3) := by decide +kernel
theorem dX6_joins_19 : decode cX6_joins 19 = .ok (.goto (-16), 3) := by decide +kernel
theorem dX6_joins_22 : decode cX6_joins 22 = .ok (.iload 4, 2) := by decide +kernel
theorem dX6_joins_24 : decode cX6_joins 24 = .ok (.invokestatic 43, 3) := by decide +kernel
theorem dX6_joins_27 : decode cX6_joins 27 = .ok (.istore 5, 2) := by decide +kernel
theorem dX6_joins_29 : decode cX6_joins 29 = .ok (.aload_n 0, 1) := by decide +kernel
theorem dX6_joins_30 : decode cX6_joins 30 = .ok (.getfield 7, 3) := by decide +kernel
theorem dX6_joins_33 : decode cX6_joins 33 = .ok (.iload 5, 2) := by decide +kernel
theorem dX6_joins_35 : decode cX6_joins 35 = .ok (.iload_n 1, 1) := by decide +kernel
theorem dX6_joins_36 : decode cX6_joins 36 = .ok (.iconst 1, 1) := by decide +kernel
theorem dX6_joins_37 : decode cX6_joins 37 = .ok (.iadd, 1) := by decide +kernel
theorem dX6_joins_38 : decode cX6_joins 38 = .ok (.iastore, 1) := by decide +kernel
theorem dX6_joins_39 : decode cX6_joins 39 = .ok (.aload_n 0, 1) := by decide +kernel
theorem dX6_joins_40 : decode cX6_joins 40 = .ok (.getfield 7, 3) := by decide +kernel
theorem dX6_joins_43 : decode cX6_joins 43 = .ok (.iload 5, 2) := by decide +kernel
theorem dX6_joins_45 : decode cX6_joins 45 = .ok (.iconst 1, 1) := by decide +kernel
theorem dX6_joins_46 : decode cX6_joins 46 = .ok (.iadd, 1) := by decide +kernel
theorem dX6_joins_47 : decode cX6_joins 47 = .ok (.iload_n 2, 1) := by decide +kernel
theorem dX6_joins_48 : decode cX6_joins 48 = .ok (.iastore, 1) := by decide +kernel
theorem dX6_joins_49 : decode cX6_joins 49 = .ok (.aload_n 0, 1) := by decide +kernel
theorem dX6_joins_50 : decode cX6_joins 50 = .ok (.getfield 7, 3) := by decide +kernel
theorem dX6_joins_53 : decode cX6_joins 53 = .ok (.iload 5, 2) := by decide +kernel
theorem dX6_joins_55 : decode cX6_joins 55 = .ok (.iconst 2, 1) := by decide +kernel
theorem dX6_joins_56 : decode cX6_joins 56 = .ok (.iadd, 1) := by decide +kernel
theorem dX6_joins_57 : decode cX6_joins 57 = .ok (.aload_n 0, 1) := by decide +kernel
theorem dX6_joins_58 : decode cX6_joins 58 = .ok (.getfield 7, 3) := by decide +kernel
theorem dX6_joins_61 : decode cX6_joins 61 = .ok (.iconst 5, 1) := by decide +kernel
theorem dX6_joins_62 : decode cX6_joins 62 = .ok (.iaload, 1) := by decide +kernel
theorem dX6_joins_63 : decode cX6_joins 63 = .ok (.iastore, 1) := by decide +kernel
theorem dX6_joins_64 : decode cX6_joins 64 = .ok (.aload_n 0, 1) := by decide +kernel
theorem dX6_joins_65 : decode cX6_joins 65 = .ok (.getfield 7, 3) := by decide +kernel
theorem dX6_joins_68 : decode cX6_joins 68 = .ok (.bipush 6, 2) := by decide +kernel
theorem dX6_joins_70 : decode cX6_joins 70 = .ok (.dup2, 1) := by decide +kernel
theorem dX6_joins_71 : decode cX6_joins 71 = .ok (.iaload, 1) := by decide +kernel
theorem dX6_joins_72 : decode cX6_joins 72 = .ok (.iconst 1, 1) := by decide +kernel
theorem dX6_joins_73 : decode cX6_joins 73 = .ok (.iadd, 1) := by decide +kernel
theorem dX6_joins_74 : decode cX6_joins 74 = .ok (.iastore, 1) := by decide +kernel
theorem dX6_joins_75 : decode cX6_joins 75 = .ok (.aload_n 0, 1) := by decide +kernel
theorem dX6_joins_76 : decode cX6_joins 76 = .ok (.getfield 7, 3) := by decide +kernel
theorem dX6_joins_79 : decode cX6_joins 79 = .ok (.bipush 7, 2) := by decide +kernel
theorem dX6_joins_81 : decode cX6_joins 81 = .ok (.dup2, 1) := by decide +kernel
theorem dX6_joins_82 : decode cX6_joins 82 = .ok (.iaload, 1) := by decide +kernel
theorem dX6_joins_83 : decode cX6_joins 83 = .ok (.iconst 1, 1) := by decide +kernel
theorem dX6_joins_84 : decode cX6_joins 84 = .ok (.iadd, 1) := by decide +kernel
theorem dX6_joins_85 : decode cX6_joins 85 = .ok (.iastore, 1) := by decide +kernel
theorem dX6_joins_86 : decode cX6_joins 86 = .ok (.iload_n 3, 1) := by decide +kernel
theorem dX6_joins_87 : decode cX6_joins 87 = .ok (.iconst (-1), 1) := by decide +kernel
theorem dX6_joins_88 : decode cX6_joins 88 = .ok (.if_icmp .eq 23, 3) := by decide +kernel
theorem dX6_joins_91 : decode cX6_joins 91 = .ok (.aload_n 0, 1) := by decide +kernel
theorem dX6_joins_92 : decode cX6_joins 92 = .ok (.iload_n 3, 1) := by decide +kernel
theorem dX6_joins_93 : decode cX6_joins 93 = .ok (.iload_n 1, 1) := by decide +kernel
theorem dX6_joins_94 : decode cX6_joins 94 = .ok (.invokevirtual 91, 3) := by decide +kernel
theorem dX6_joins_97 : decode cX6_joins 97 = .ok (.aload_n 0, 1) := by decide +kernel
theorem dX6_joins_98 : decode cX6_joins 98 = .ok (.iload_n 1, 1) := by decide +kernel
theorem dX6_joins_99 : decode cX6_joins 99 = .ok (.iload_n 3, 1) := by decide +kernel
theorem dX6_joins_100 : decode cX6_joins 100 = .ok (.invokevirtual 91, 3) := by decide +kernel
theorem dX6_joins_103 : decode cX6_joins 103 = .ok (.aload_n 0, 1) := by decide +kernel
theorem dX6_joins_104 : decode cX6_joins 104 = .ok (.iload_n 1, 1) := by decide +kernel
theorem dX6_joins_105 : decode cX6_joins 105 = .ok (.iload_n 1, 1) := by decide +kernel
theorem dX6_joins_106 : decode cX6_joins 106 = .ok (.invokevirtual 148, 3) := by decide +kernel
theorem dX6_joins_109 : decode cX6_joins 109 = .ok (.istore 6, 2) := by decide +kernel
theorem dX6_joins_111 : decode cX6_joins 111 = .ok (.aload_n 0, 1) := by decide +kernel
theorem dX6_joins_112 : decode cX6_joins 112 = .ok (.iload 5, 2) := by decide +kernel
theorem dX6_joins_114 : decode cX6_joins 114 = .ok (.invokevirtual 151, 3) := by decide +kernel
theorem dX6_joins_117 : decode cX6_joins 117 = .ok (.ireturn, 1) := by decide +kernel
set_option maxRecDepth 20000 in
theorem ggX6_join_X6_isNonce : GoodIn wsX6_join wsX6_isNonce := goodIn_r _ [4, 5, 6, 7, 3, 8] (by decide +kernel) (by decide +kernel)
set_option maxRecDepth 20000 in
theorem gX6_join_X6_isNonce : GoodIn wsX6_join (va_wsS RX6 124 yX6_isNonce wsX6_isNonce) := goodIn_app (goodIn_of _ (by decide +kernel)) ggX6_join_X6_isNonce
set_option maxRecDepth 20000 in
theorem ggX6_join_X6_bad : GoodIn wsX6_join wsX6_bad := goodIn_r _ [12, 13, 14, 3, 15, 6, 7, 8, 16, 17, 18, 19, 20, 21, 22, 23, 24, 25, 26, 27, 28, 29, 30, 31, 32, 33, 34, 35, 121, 122, 123, 124, 125, 126, 127, 128, 129, 130, 131, 132, 133, 134, 135] (by decide +kernel) (by decide +kernel)
set_option maxRecDepth 20000 in
theorem gX6_join_X6_bad : GoodIn wsX6_join (wsV RX6 154 RX6 yX6_bad wsX6_bad) := goodIn_app (goodIn_of _ (by decide +kernel)) ggX6_join_X6_bad
set_option maxRecDepth 20000 in
theorem ggX6_join_X6_epochNow : GoodIn wsX6_join wsX6_epochNow := goodIn_r _ [39, 24, 121, 122, 123, 124, 125, 126, 127, 128, 129, 130, 131, 132, 133, 134, 135] (by decide +kernel) (by decide +kernel)
set_option maxRecDepth 20000 in
theorem gX6_join_X6_epochNow : GoodIn wsX6_join (wsV RX6 114 RX6 yX6_epochNow wsX6_epochNow) := goodIn_app (goodIn_of _ (by decide +kernel)) ggX6_join_X6_epochNow
set_option maxRecDepth 20000 in
theorem ggX6_join_X6_zerosOf : GoodIn wsX6_join wsX6_zerosOf := goodIn_r _ [42, 43, 44, 45, 46] (by decide +kernel) (by decide +kernel)
set_option maxRecDepth 20000 in
theorem gX6_join_X6_zerosOf : GoodIn wsX6_join (va_wsS RX6 117 yX6_zerosOf wsX6_zerosOf) := goodIn_app (goodIn_of _ (by decide +kernel)) ggX6_join_X6_zerosOf
set_option maxRecDepth 20000 in
theorem ggX6_join_X6_difficulty : GoodIn wsX6_join wsX6_difficulty := goodIn_r _ [50, 24, 121, 122, 123, 124, 125, 126, 127, 128, 129, 130, 131, 132, 133, 134, 135] (by decide +kernel) (by decide +kernel)
set_option maxRecDepth 20000 in
theorem gX6_join_X6_difficulty : GoodIn wsX6_join (wsV RX6 109 RX6 yX6_difficulty wsX6_difficulty) := goodIn_app (goodIn_of _ (by decide +kernel)) ggX6_join_X6_difficulty
set_option maxRecDepth 20000 in
theorem ggX6_join_X6_refused : GoodIn wsX6_join wsX6_refused := goodIn_r _ [54, 55, 121, 122, 123, 124, 125, 126, 127, 128, 129, 130, 131, 132, 133, 134, 135] (by decide +kernel) (by decide +kernel)
set_option maxRecDepth 20000 in
theorem gX6_join_X6_refused : GoodIn wsX6_join (wsV RX6 39 RX6 yX6_refused wsX6_refused) := goodIn_app (goodIn_of _ (by decide +kernel)) ggX6_join_X6_refused
set_option maxRecDepth 20000 in
theorem ggX6_join_X6_saves : GoodIn wsX6_join wsX6_saves := goodIn_r _ [59, 60, 61, 24, 121, 122, 123, 124, 125, 126, 127, 128, 129, 130, 131, 132, 133, 134, 135] (by decide +kernel) (by decide +kernel)
set_option maxRecDepth 20000 in
theorem gX6_join_X6_saves : GoodIn wsX6_join (wsV RX6 127 RX6 yX6_saves wsX6_saves) := goodIn_app (goodIn_of _ (by decide +kernel)) ggX6_join_X6_saves
set_option maxRecDepth 20000 in
theorem ggX6_join_X6_joins : GoodIn wsX6_join wsX6_joins := goodIn_r _ [65, 24, 25, 26, 3, 27, 66, 67, 68, 69, 20, 21, 22, 23, 70, 71, 72, 73, 74, 75, 76, 77, 78, 79, 80, 81, 82, 83, 84, 85, 86, 87, 88, 89, 90, 91, 92, 16, 17, 18, 19, 13, 14, 15, 6, 7, 8, 93, 94, 95, 96, 97, 98, 99, 100, 101, 102, 103, 104, 105, 106, 107, 108, 109, 110, 111, 112, 113, 114, 115, 116, 117, 118, 119, 120, 121, 122, 123, 124, 125, 126, 127, 128, 129, 130, 131, 132, 133, 134, 135] (by decide +kernel) (by decide +kernel)
set_option maxRecDepth 20000 in
theorem gX6_join_X6_joins : GoodIn wsX6_join (wsV RX6 157 RX6 yX6_joins wsX6_joins) := goodIn_app (goodIn_of _ (by decide +kernel)) ggX6_join_X6_joins
theorem dX6_join_0 : decode cX6_join 0 = .ok (.iload_n 3, 1) := by decide +kernel
theorem dX6_join_1 : decode cX6_join 1 = .ok (.invokestatic 124, 3) := by decide +kernel
theorem dX6_join_4 : decode cX6_join 4 = .ok (.ifCond .eq 14, 3) := by decide +kernel
theorem dX6_join_7 : decode cX6_join 7 = .ok (.aload_n 0, 1) := by decide +kernel
theorem dX6_join_8 : decode cX6_join 8 = .ok (.iload_n 1, 1) := by decide +kernel
theorem dX6_join_9 : decode cX6_join 9 = .ok (.iload_n 2, 1) := by decide +kernel
theorem dX6_join_10 : decode cX6_join 10 = .ok (.iload 4, 2) := by decide +kernel
theorem dX6_join_12 : decode cX6_join 12 = .ok (.invokevirtual 154, 3) := by decide +kernel
theorem dX6_join_15 : decode cX6_join 15 = .ok (.goto 4, 3) := by decide +kernel
theorem dX6_join_18 : decode cX6_join 18 = .ok (.iconst 1, 1) := by decide +kernel
theorem dX6_join_19 : decode cX6_join 19 = .ok (.istore 5, 2) := by decide +kernel
theorem dX6_join_21 : decode cX6_join 21 = .ok (.iload 5, 2) := by decide +kernel
theorem dX6_join_23 : decode cX6_join 23 = .ok (.ifCond .ne 23, 3) := by decide +kernel
theorem dX6_join_26 : decode cX6_join 26 = .ok (.iload_n 1, 1) := by decide +kernel
theorem dX6_join_27 : decode cX6_join 27 = .ok (.iload_n 3, 1) := by decide +kernel
theorem dX6_join_28 : decode cX6_join 28 = .ok (.aload_n 0, 1) := by decide +kernel
theorem dX6_join_29 : decode cX6_join 29 = .ok (.invokevirtual 114, 3) := by decide +kernel
theorem dX6_join_32 : decode cX6_join 32 = .ok (.invokestatic 117, 3) := by decide +kernel
theorem dX6_join_35 : decode cX6_join 35 = .ok (.aload_n 0, 1) := by decide +kernel
theorem dX6_join_36 : decode cX6_join 36 = .ok (.invokevirtual 109, 3) := by decide +kernel
theorem dX6_join_39 : decode cX6_join 39 = .ok (.if_icmp .ge 7, 3) := by decide +kernel
theorem dX6_join_42 : decode cX6_join 42 = .ok (.iconst 3, 1) := by decide +kernel
theorem dX6_join_43 : decode cX6_join 43 = .ok (.goto 5, 3) := by decide +kernel
theorem dX6_join_46 : decode cX6_join 46 = .ok (.iload 5, 2) := by decide +kernel
theorem dX6_join_48 : decode cX6_join 48 = .ok (.istore 5, 2) := by decide +kernel
theorem dX6_join_50 : decode cX6_join 50 = .ok (.aload_n 0, 1) := by decide +kernel
theorem dX6_join_51 : decode cX6_join 51 = .ok (.iload 5, 2) := by decide +kernel
theorem dX6_join_53 : decode cX6_join 53 = .ok (.invokevirtual 39, 3) := by decide +kernel
theorem dX6_join_56 : decode cX6_join 56 = .ok (.ifCond .eq 5, 3) := by decide +kernel
theorem dX6_join_59 : decode cX6_join 59 = .ok (.iconst 0, 1) := by decide +kernel
theorem dX6_join_60 : decode cX6_join 60 = .ok (.ireturn, 1) := by decide +kernel
theorem dX6_join_61 : decode cX6_join 61 = .ok (.aload_n 0, 1) := by decide +kernel
theorem dX6_join_62 : decode cX6_join 62 = .ok (.invokevirtual 127, 3) := by decide +kernel
theorem dX6_join_65 : decode cX6_join 65 = .ok (.aload_n 0, 1) := by decide +kernel
theorem dX6_join_66 : decode cX6_join 66 = .ok (.iload_n 1, 1) := by decide +kernel
theorem dX6_join_67 : decode cX6_join 67 = .ok (.iload_n 2, 1) := by decide +kernel
theorem dX6_join_68 : decode cX6_join 68 = .ok (.iload 4, 2) := by decide +kernel
theorem dX6_join_70 : decode cX6_join 70 = .ok (.invokevirtual 157, 3) := by decide +kernel
theorem dX6_join_73 : decode cX6_join 73 = .ok (.ireturn, 1) := by decide +kernel
set_option maxRecDepth 20000 in
theorem ggX6_badAdmission_X6_bad : GoodIn wsX6_badAdmission wsX6_bad := goodIn_r _ [5, 6, 7, 4, 8, 9, 10, 11, 12, 13, 14, 15, 16, 17, 18, 19, 20, 21, 22, 23, 24, 25, 26, 27, 28, 29, 30, 31, 52, 53, 54, 55, 56, 57, 58, 59, 60, 61, 62, 63, 64, 65, 66] (by decide +kernel) (by decide +kernel)
set_option maxRecDepth 20000 in
theorem gX6_badAdmission_X6_bad : GoodIn wsX6_badAdmission (wsV RX6 154 RX6 yX6_bad wsX6_bad) := goodIn_app (goodIn_of _ (by decide +kernel)) ggX6_badAdmission_X6_bad
set_option maxRecDepth 20000 in
theorem ggX6_badAdmission_X6_solution : GoodIn wsX6_badAdmission wsX6_solution := goodIn_r _ [35, 36, 37, 38, 39, 4, 40, 20, 41, 42, 43, 44, 45, 46, 47, 48, 49, 50, 51, 52, 53, 54, 55, 56, 57, 58, 59, 60, 61, 62, 63, 64, 65, 66] (by decide +kernel) (by decide +kernel)
set_option maxRecDepth 20000 in
theorem gX6_badAdmission_X6_solution : GoodIn wsX6_badAdmission (wsV RX6 120 RX6 yX6_solution wsX6_solution) := goodIn_app (goodIn_of _ (by decide +kernel)) ggX6_badAdmission_X6_solution
theorem dX6_badAdmission_0 : decode cX6_badAdmission 0 = .ok (.aload_n 0, 1) := by decide +kernel
theorem dX6_badAdmission_1 : decode cX6_badAdmission 1 = .ok (.iload_n 1, 1) := by decide +kernel
theorem dX6_badAdmission_2 : decode cX6_badAdmission 2 = .ok (.iload_n 2, 1) := by decide +kernel
theorem dX6_badAdmission_3 : decode cX6_badAdmission 3 = .ok (.iload_n 3, 1) := by decide +kernel
theorem dX6_badAdmission_4 : decode cX6_badAdmission 4 = .ok (.invokevirtual 154, 3) := by decide +kernel
theorem dX6_badAdmission_7 : decode cX6_badAdmission 7 = .ok (.istore 4, 2) := by decide +kernel
theorem dX6_badAdmission_9 : decode cX6_badAdmission 9 = .ok (.iload 4, 2) := by decide +kernel
theorem dX6_badAdmission_11 : decode cX6_badAdmission 11 = .ok (.ifCond .ne 16, 3) := by decide +kernel
theorem dX6_badAdmission_14 : decode cX6_badAdmission 14 = .ok (.aload_n 0, 1) := by decide +kernel
theorem dX6_badAdmission_15 : decode cX6_badAdmission 15 = .ok (.iload_n 1, 1) := by decide +kernel
theorem dX6_badAdmission_16 : decode cX6_badAdmission 16 = .ok (.invokevirtual 120, 3) := by decide +kernel
theorem dX6_badAdmission_19 : decode cX6_badAdmission 19 = .ok (.iconst (-1), 1) := by decide +kernel
theorem dX6_badAdmission_20 : decode cX6_badAdmission 20 = .ok (.if_icmp .ne 7, 3) := by decide +kernel
theorem dX6_badAdmission_23 : decode cX6_badAdmission 23 = .ok (.iconst 3, 1) := by decide +kernel
theorem dX6_badAdmission_24 : decode cX6_badAdmission 24 = .ok (.goto 5, 3) := by decide +kernel
theorem dX6_badAdmission_27 : decode cX6_badAdmission 27 = .ok (.iload 4, 2) := by decide +kernel
theorem dX6_badAdmission_29 : decode cX6_badAdmission 29 = .ok (.ireturn, 1) := by decide +kernel
set_option maxRecDepth 20000 in
theorem ggX6_admit_X6_badAdmission : GoodIn wsX6_admit wsX6_badAdmission := goodIn_r _ [5, 6, 7, 8, 4, 9, 10, 11, 12, 13, 14, 15, 16, 17, 18, 19, 20, 21, 22, 23, 24, 25, 26, 27, 28, 29, 30, 31, 32, 33, 34, 35, 36, 37, 38, 39, 40, 41, 42, 43, 44, 45, 46, 47, 48, 49, 50, 51, 52, 53, 54, 55, 126, 127, 128, 129, 130, 131, 132, 133, 134, 135, 136, 137, 138, 139, 140] (by decide +kernel) (by decide +kernel)
set_option maxRecDepth 20000 in
theorem gX6_admit_X6_badAdmission : GoodIn wsX6_admit (wsV RX6 160 RX6 yX6_badAdmission wsX6_badAdmission) := goodIn_app (goodIn_of _ (by decide +kernel)) ggX6_admit_X6_badAdmission
set_option maxRecDepth 20000 in
theorem ggX6_admit_X6_refused : GoodIn wsX6_admit wsX6_refused := goodIn_r _ [59, 60, 126, 127, 128, 129, 130, 131, 132, 133, 134, 135, 136, 137, 138, 139, 140] (by decide +kernel) (by decide +kernel)
set_option maxRecDepth 20000 in
theorem gX6_admit_X6_refused : GoodIn wsX6_admit (wsV RX6 39 RX6 yX6_refused wsX6_refused) := goodIn_app (goodIn_of _ (by decide +kernel)) ggX6_admit_X6_refused
set_option maxRecDepth 20000 in
theorem ggX6_admit_X6_saves : GoodIn wsX6_admit wsX6_saves := goodIn_r _ [64, 65, 66, 24, 126, 127, 128, 129, 130, 131, 132, 133, 134, 135, 136, 137, 138, 139, 140] (by decide +kernel) (by decide +kernel)
set_option maxRecDepth 20000 in
theorem gX6_admit_X6_saves : GoodIn wsX6_admit (wsV RX6 127 RX6 yX6_saves wsX6_saves) := goodIn_app (goodIn_of _ (by decide +kernel)) ggX6_admit_X6_saves
set_option maxRecDepth 20000 in
theorem ggX6_admit_X6_joins : GoodIn wsX6_admit wsX6_joins := goodIn_r _ [70, 24, 25, 26, 4, 27, 71, 72, 73, 74, 20, 21, 22, 23, 75, 76, 77, 78, 79, 80, 81, 82, 83, 84, 85, 86, 87, 88, 89, 90, 91, 92, 93, 94, 95, 96, 97, 16, 17, 18, 19, 10, 11, 12, 13, 14, 15, 98, 99, 100, 101, 102, 103, 104, 105, 106, 107, 108, 109, 110, 111, 112, 113, 114, 115, 116, 117, 118, 119, 120, 121, 122, 123, 124, 125, 126, 127, 128, 129, 130, 131, 132, 133, 134, 135, 136, 137, 138, 139, 140] (by decide +kernel) (by decide +kernel)
set_option maxRecDepth 20000 in
theorem gX6_admit_X6_joins : GoodIn wsX6_admit (wsV RX6 157 RX6 yX6_joins wsX6_joins) := goodIn_app (goodIn_of _ (by decide +kernel)) ggX6_admit_X6_joins
theorem dX6_admit_0 : decode cX6_admit 0 = .ok (.aload_n 0, 1) := by decide +kernel
theorem dX6_admit_1 : decode cX6_admit 1 = .ok (.aload_n 0, 1) := by decide +kernel
theorem dX6_admit_2 : decode cX6_admit 2 = .ok (.iload_n 1, 1) := by decide +kernel
theorem dX6_admit_3 : decode cX6_admit 3 = .ok (.iload_n 2, 1) := by decide +kernel
theorem dX6_admit_4 : decode cX6_admit 4 = .ok (.iload_n 3, 1) := by decide +kernel
theorem dX6_admit_5 : decode cX6_admit 5 = .ok (.invokevirtual 160, 3) := by decide +kernel
theorem dX6_admit_8 : decode cX6_admit 8 = .ok (.invokevirtual 39, 3) := by decide +kernel
theorem dX6_admit_11 : decode cX6_admit 11 = .ok (.ifCond .eq 5, 3) := by decide +kernel
theorem dX6_admit_14 : decode cX6_admit 14 = .ok (.iconst 0, 1) := by decide +kernel
theorem dX6_admit_15 : decode cX6_admit 15 = .ok (.ireturn, 1) := by decide +kernel
theorem dX6_admit_16 : decode cX6_admit 16 = .ok (.aload_n 0, 1) := by decide +kernel
theorem dX6_admit_17 : decode cX6_admit 17 = .ok (.invokevirtual 127, 3) := by decide +kernel
theorem dX6_admit_20 : decode cX6_admit 20 = .ok (.aload_n 0, 1) := by decide +kernel
