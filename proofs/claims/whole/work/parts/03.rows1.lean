theorem dX4_trace_68 : decode cX4_trace 68 = .ok (.aload_n 0, 1) := by decide +kernel
theorem dX4_trace_69 : decode cX4_trace 69 = .ok (.getfield 11, 3) := by decide +kernel
theorem dX4_trace_72 : decode cX4_trace 72 = .ok (.iload 5, 2) := by decide +kernel
theorem dX4_trace_74 : decode cX4_trace 74 = .ok (.iload 8, 2) := by decide +kernel
theorem dX4_trace_76 : decode cX4_trace 76 = .ok (.iastore, 1) := by decide +kernel
theorem dX4_trace_77 : decode cX4_trace 77 = .ok (.aload_n 0, 1) := by decide +kernel
theorem dX4_trace_78 : decode cX4_trace 78 = .ok (.dup, 1) := by decide +kernel
theorem dX4_trace_79 : decode cX4_trace 79 = .ok (.getfield 15, 3) := by decide +kernel
theorem dX4_trace_82 : decode cX4_trace 82 = .ok (.iconst 1, 1) := by decide +kernel
theorem dX4_trace_83 : decode cX4_trace 83 = .ok (.iadd, 1) := by decide +kernel
theorem dX4_trace_84 : decode cX4_trace 84 = .ok (.putfield 15, 3) := by decide +kernel
theorem dX4_trace_87 : decode cX4_trace 87 = .ok (.aload_n 1, 1) := by decide +kernel
theorem dX4_trace_88 : decode cX4_trace 88 = .ok (.iload 8, 2) := by decide +kernel
theorem dX4_trace_90 : decode cX4_trace 90 = .ok (.invokevirtual 52, 3) := by decide +kernel
theorem dX4_trace_93 : decode cX4_trace 93 = .ok (.ifCond .eq 32, 3) := by decide +kernel
theorem dX4_trace_96 : decode cX4_trace 96 = .ok (.aload_n 0, 1) := by decide +kernel
theorem dX4_trace_97 : decode cX4_trace 97 = .ok (.getfield 38, 3) := by decide +kernel
theorem dX4_trace_100 : decode cX4_trace 100 = .ok (.iload 6, 2) := by decide +kernel
theorem dX4_trace_102 : decode cX4_trace 102 = .ok (.iconst 1, 1) := by decide +kernel
theorem dX4_trace_103 : decode cX4_trace 103 = .ok (.iastore, 1) := by decide +kernel
theorem dX4_trace_104 : decode cX4_trace 104 = .ok (.iload 4, 2) := by decide +kernel
theorem dX4_trace_106 : decode cX4_trace 106 = .ok (.iload 7, 2) := by decide +kernel
theorem dX4_trace_108 : decode cX4_trace 108 = .ok (.invokestatic 58, 3) := by decide +kernel
theorem dX4_trace_111 : decode cX4_trace 111 = .ok (.istore 4, 2) := by decide +kernel
theorem dX4_trace_113 : decode cX4_trace 113 = .ok (.aload_n 0, 1) := by decide +kernel
theorem dX4_trace_114 : decode cX4_trace 114 = .ok (.aload_n 1, 1) := by decide +kernel
theorem dX4_trace_115 : decode cX4_trace 115 = .ok (.iload 8, 2) := by decide +kernel
theorem dX4_trace_117 : decode cX4_trace 117 = .ok (.iload_n 2, 1) := by decide +kernel
theorem dX4_trace_118 : decode cX4_trace 118 = .ok (.iload_n 3, 1) := by decide +kernel
theorem dX4_trace_119 : decode cX4_trace 119 = .ok (.invokevirtual 44, 3) := by decide +kernel
theorem dX4_trace_122 : decode cX4_trace 122 = .ok (.goto 21, 3) := by decide +kernel
theorem dX4_trace_125 : decode cX4_trace 125 = .ok (.aload_n 0, 1) := by decide +kernel
theorem dX4_trace_126 : decode cX4_trace 126 = .ok (.getfield 38, 3) := by decide +kernel
theorem dX4_trace_129 : decode cX4_trace 129 = .ok (.iload 6, 2) := by decide +kernel
theorem dX4_trace_131 : decode cX4_trace 131 = .ok (.iconst 2, 1) := by decide +kernel
theorem dX4_trace_132 : decode cX4_trace 132 = .ok (.iastore, 1) := by decide +kernel
theorem dX4_trace_133 : decode cX4_trace 133 = .ok (.aload_n 0, 1) := by decide +kernel
theorem dX4_trace_134 : decode cX4_trace 134 = .ok (.dup, 1) := by decide +kernel
theorem dX4_trace_135 : decode cX4_trace 135 = .ok (.getfield 19, 3) := by decide +kernel
theorem dX4_trace_138 : decode cX4_trace 138 = .ok (.iconst 1, 1) := by decide +kernel
theorem dX4_trace_139 : decode cX4_trace 139 = .ok (.iadd, 1) := by decide +kernel
theorem dX4_trace_140 : decode cX4_trace 140 = .ok (.putfield 19, 3) := by decide +kernel
theorem dX4_trace_143 : decode cX4_trace 143 = .ok (.iinc 5 1, 3) := by decide +kernel
theorem dX4_trace_146 : decode cX4_trace 146 = .ok (.goto (-115), 3) := by decide +kernel
theorem dX4_trace_149 : decode cX4_trace 149 = .ok (.aload_n 0, 1) := by decide +kernel
theorem dX4_trace_150 : decode cX4_trace 150 = .ok (.iload 4, 2) := by decide +kernel
theorem dX4_trace_152 : decode cX4_trace 152 = .ok (.iload_n 3, 1) := by decide +kernel
theorem dX4_trace_153 : decode cX4_trace 153 = .ok (.ixor, 1) := by decide +kernel
theorem dX4_trace_154 : decode cX4_trace 154 = .ok (.putfield 22, 3) := by decide +kernel
theorem dX4_trace_157 : decode cX4_trace 157 = .ok (.aload_n 0, 1) := by decide +kernel
theorem dX4_trace_158 : decode cX4_trace 158 = .ok (.aload_n 1, 1) := by decide +kernel
theorem dX4_trace_159 : decode cX4_trace 159 = .ok (.iload_n 3, 1) := by decide +kernel
theorem dX4_trace_160 : decode cX4_trace 160 = .ok (.iload 4, 2) := by decide +kernel
theorem dX4_trace_162 : decode cX4_trace 162 = .ok (.invokevirtual 64, 3) := by decide +kernel
theorem dX4_trace_165 : decode cX4_trace 165 = .ok (.ifCond .ne 7, 3) := by decide +kernel
theorem dX4_trace_168 : decode cX4_trace 168 = .ok (.iconst 1, 1) := by decide +kernel
theorem dX4_trace_169 : decode cX4_trace 169 = .ok (.goto 4, 3) := by decide +kernel
theorem dX4_trace_172 : decode cX4_trace 172 = .ok (.iconst 0, 1) := by decide +kernel
theorem dX4_trace_173 : decode cX4_trace 173 = .ok (.putfield 25, 3) := by decide +kernel
theorem dX4_trace_176 : decode cX4_trace 176 = .ok (.return_, 1) := by decide +kernel
theorem dX4_nextSpot_0 : decode cX4_nextSpot 0 = .ok (.iconst 0, 1) := by decide +kernel
theorem dX4_nextSpot_1 : decode cX4_nextSpot 1 = .ok (.istore_n 1, 1) := by decide +kernel
theorem dX4_nextSpot_2 : decode cX4_nextSpot 2 = .ok (.iconst 0, 1) := by decide +kernel
theorem dX4_nextSpot_3 : decode cX4_nextSpot 3 = .ok (.istore_n 2, 1) := by decide +kernel
theorem dX4_nextSpot_4 : decode cX4_nextSpot 4 = .ok (.iload_n 2, 1) := by decide +kernel
theorem dX4_nextSpot_5 : decode cX4_nextSpot 5 = .ok (.aload_n 0, 1) := by decide +kernel
theorem dX4_nextSpot_6 : decode cX4_nextSpot 6 = .ok (.getfield 41, 3) := by decide +kernel
theorem dX4_nextSpot_9 : decode cX4_nextSpot 9 = .ok (.if_icmp .ge 38, 3) := by decide +kernel
theorem dX4_nextSpot_12 : decode cX4_nextSpot 12 = .ok (.iload_n 1, 1) := by decide +kernel
theorem dX4_nextSpot_13 : decode cX4_nextSpot 13 = .ok (.iconst 3, 1) := by decide +kernel
theorem dX4_nextSpot_14 : decode cX4_nextSpot 14 = .ok (.if_icmp .ge 33, 3) := by decide +kernel
theorem dX4_nextSpot_17 : decode cX4_nextSpot 17 = .ok (.aload_n 0, 1) := by decide +kernel
theorem dX4_nextSpot_18 : decode cX4_nextSpot 18 = .ok (.getfield 38, 3) := by decide +kernel
theorem dX4_nextSpot_21 : decode cX4_nextSpot 21 = .ok (.iload_n 2, 1) := by decide +kernel
theorem dX4_nextSpot_22 : decode cX4_nextSpot 22 = .ok (.iaload, 1) := by decide +kernel
theorem dX4_nextSpot_23 : decode cX4_nextSpot 23 = .ok (.ifCond .ne 5, 3) := by decide +kernel
theorem dX4_nextSpot_26 : decode cX4_nextSpot 26 = .ok (.iload_n 2, 1) := by decide +kernel
theorem dX4_nextSpot_27 : decode cX4_nextSpot 27 = .ok (.ireturn, 1) := by decide +kernel
theorem dX4_nextSpot_28 : decode cX4_nextSpot 28 = .ok (.aload_n 0, 1) := by decide +kernel
theorem dX4_nextSpot_29 : decode cX4_nextSpot 29 = .ok (.getfield 38, 3) := by decide +kernel
theorem dX4_nextSpot_32 : decode cX4_nextSpot 32 = .ok (.iload_n 2, 1) := by decide +kernel
theorem dX4_nextSpot_33 : decode cX4_nextSpot 33 = .ok (.iaload, 1) := by decide +kernel
theorem dX4_nextSpot_34 : decode cX4_nextSpot 34 = .ok (.iconst 1, 1) := by decide +kernel
theorem dX4_nextSpot_35 : decode cX4_nextSpot 35 = .ok (.if_icmp .ne 6, 3) := by decide +kernel
theorem dX4_nextSpot_38 : decode cX4_nextSpot 38 = .ok (.iinc 1 1, 3) := by decide +kernel
theorem dX4_nextSpot_41 : decode cX4_nextSpot 41 = .ok (.iinc 2 1, 3) := by decide +kernel
theorem dX4_nextSpot_44 : decode cX4_nextSpot 44 = .ok (.goto (-40), 3) := by decide +kernel
theorem dX4_nextSpot_47 : decode cX4_nextSpot 47 = .ok (.iconst (-1), 1) := by decide +kernel
theorem dX4_nextSpot_48 : decode cX4_nextSpot 48 = .ok (.ireturn, 1) := by decide +kernel
set_option maxRecDepth 20000 in
theorem ggX4_hear_X2_isMember : GoodIn wsX4_hear wsX2_isMember := goodIn_r _ [11, 12, 29, 30, 31, 32, 33, 34, 35, 36, 37, 38, 39, 40, 41, 42] (by decide +kernel) (by decide +kernel)
set_option maxRecDepth 20000 in
theorem gX4_hear_X2_isMember : GoodIn wsX4_hear (wsV RX4 52 RX2 yX2_isMember wsX2_isMember) := goodIn_app (goodIn_of _ (by decide +kernel)) ggX4_hear_X2_isMember
set_option maxRecDepth 20000 in
theorem ggX4_hear_X3_bucketPlace : GoodIn wsX4_hear wsX3_bucketPlace := goodIn_r _ [16] (by decide +kernel) (by decide +kernel)
set_option maxRecDepth 20000 in
theorem gX4_hear_X3_bucketPlace : GoodIn wsX4_hear (va_wsS RX4 75 yX3_bucketPlace wsX3_bucketPlace) := goodIn_app (goodIn_of _ (by decide +kernel)) ggX4_hear_X3_bucketPlace
set_option maxRecDepth 20000 in
theorem ggX4_hear_X4_offerNearest : GoodIn wsX4_hear wsX4_offerNearest := goodIn_r _ [21, 3, 6, 43, 44, 45, 46, 47, 48, 49, 50, 51, 52] (by decide +kernel) (by decide +kernel)
set_option maxRecDepth 20000 in
theorem gX4_hear_X4_offerNearest : GoodIn wsX4_hear (wsV RX4 86 RX4 yX4_offerNearest wsX4_offerNearest) := goodIn_app (goodIn_of _ (by decide +kernel)) ggX4_hear_X4_offerNearest
set_option maxRecDepth 20000 in
theorem ggX4_hear_X4_addKnown : GoodIn wsX4_hear wsX4_addKnown := goodIn_r _ [25, 26, 27, 28, 43, 44, 45, 46, 47, 48, 49, 50, 51, 52] (by decide +kernel) (by decide +kernel)
set_option maxRecDepth 20000 in
theorem gX4_hear_X4_addKnown : GoodIn wsX4_hear (wsV RX4 90 RX4 yX4_addKnown wsX4_addKnown) := goodIn_app (goodIn_of _ (by decide +kernel)) ggX4_hear_X4_addKnown
theorem dX4_hear_0 : decode cX4_hear 0 = .ok (.aload_n 1, 1) := by decide +kernel
theorem dX4_hear_1 : decode cX4_hear 1 = .ok (.iload_n 2, 1) := by decide +kernel
theorem dX4_hear_2 : decode cX4_hear 2 = .ok (.invokevirtual 52, 3) := by decide +kernel
theorem dX4_hear_5 : decode cX4_hear 5 = .ok (.ifCond .ne 4, 3) := by decide +kernel
theorem dX4_hear_8 : decode cX4_hear 8 = .ok (.return_, 1) := by decide +kernel
theorem dX4_hear_9 : decode cX4_hear 9 = .ok (.aload_n 1, 1) := by decide +kernel
theorem dX4_hear_10 : decode cX4_hear 10 = .ok (.getfield 68, 3) := by decide +kernel
theorem dX4_hear_13 : decode cX4_hear 13 = .ok (.astore 5, 2) := by decide +kernel
theorem dX4_hear_15 : decode cX4_hear 15 = .ok (.aload_n 1, 1) := by decide +kernel
theorem dX4_hear_16 : decode cX4_hear 16 = .ok (.getfield 72, 3) := by decide +kernel
theorem dX4_hear_19 : decode cX4_hear 19 = .ok (.iload_n 2, 1) := by decide +kernel
theorem dX4_hear_20 : decode cX4_hear 20 = .ok (.iaload, 1) := by decide +kernel
theorem dX4_hear_21 : decode cX4_hear 21 = .ok (.iconst 0, 1) := by decide +kernel
theorem dX4_hear_22 : decode cX4_hear 22 = .ok (.invokestatic 75, 3) := by decide +kernel
theorem dX4_hear_25 : decode cX4_hear 25 = .ok (.istore 6, 2) := by decide +kernel
theorem dX4_hear_27 : decode cX4_hear 27 = .ok (.aload_n 0, 1) := by decide +kernel
theorem dX4_hear_28 : decode cX4_hear 28 = .ok (.iconst 0, 1) := by decide +kernel
theorem dX4_hear_29 : decode cX4_hear 29 = .ok (.putfield 32, 3) := by decide +kernel
theorem dX4_hear_32 : decode cX4_hear 32 = .ok (.iload 6, 2) := by decide +kernel
theorem dX4_hear_34 : decode cX4_hear 34 = .ok (.istore 7, 2) := by decide +kernel
theorem dX4_hear_36 : decode cX4_hear 36 = .ok (.iload 7, 2) := by decide +kernel
theorem dX4_hear_38 : decode cX4_hear 38 = .ok (.iload 6, 2) := by decide +kernel
theorem dX4_hear_40 : decode cX4_hear 40 = .ok (.bipush 8, 2) := by decide +kernel
theorem dX4_hear_42 : decode cX4_hear 42 = .ok (.iadd, 1) := by decide +kernel
theorem dX4_hear_43 : decode cX4_hear 43 = .ok (.if_icmp .ge 55, 3) := by decide +kernel
theorem dX4_hear_46 : decode cX4_hear 46 = .ok (.iload 7, 2) := by decide +kernel
theorem dX4_hear_48 : decode cX4_hear 48 = .ok (.iconst 4, 1) := by decide +kernel
theorem dX4_hear_49 : decode cX4_hear 49 = .ok (.imul, 1) := by decide +kernel
theorem dX4_hear_50 : decode cX4_hear 50 = .ok (.istore 8, 2) := by decide +kernel
theorem dX4_hear_52 : decode cX4_hear 52 = .ok (.iconst 0, 1) := by decide +kernel
theorem dX4_hear_53 : decode cX4_hear 53 = .ok (.istore 9, 2) := by decide +kernel
theorem dX4_hear_55 : decode cX4_hear 55 = .ok (.iload 9, 2) := by decide +kernel
theorem dX4_hear_57 : decode cX4_hear 57 = .ok (.aload 5, 2) := by decide +kernel
theorem dX4_hear_59 : decode cX4_hear 59 = .ok (.getfield 80, 3) := by decide +kernel
theorem dX4_hear_62 : decode cX4_hear 62 = .ok (.iload 7, 2) := by decide +kernel
theorem dX4_hear_64 : decode cX4_hear 64 = .ok (.iaload, 1) := by decide +kernel
theorem dX4_hear_65 : decode cX4_hear 65 = .ok (.if_icmp .ge 27, 3) := by decide +kernel
theorem dX4_hear_68 : decode cX4_hear 68 = .ok (.aload_n 0, 1) := by decide +kernel
theorem dX4_hear_69 : decode cX4_hear 69 = .ok (.aload 5, 2) := by decide +kernel
theorem dX4_hear_71 : decode cX4_hear 71 = .ok (.getfield 83, 3) := by decide +kernel
theorem dX4_hear_74 : decode cX4_hear 74 = .ok (.iload 8, 2) := by decide +kernel
theorem dX4_hear_76 : decode cX4_hear 76 = .ok (.iload 9, 2) := by decide +kernel
theorem dX4_hear_78 : decode cX4_hear 78 = .ok (.iadd, 1) := by decide +kernel
theorem dX4_hear_79 : decode cX4_hear 79 = .ok (.iaload, 1) := by decide +kernel
theorem dX4_hear_80 : decode cX4_hear 80 = .ok (.iload 4, 2) := by decide +kernel
theorem dX4_hear_82 : decode cX4_hear 82 = .ok (.ixor, 1) := by decide +kernel
theorem dX4_hear_83 : decode cX4_hear 83 = .ok (.invokevirtual 86, 3) := by decide +kernel
theorem dX4_hear_86 : decode cX4_hear 86 = .ok (.iinc 9 1, 3) := by decide +kernel
theorem dX4_hear_89 : decode cX4_hear 89 = .ok (.goto (-34), 3) := by decide +kernel
theorem dX4_hear_92 : decode cX4_hear 92 = .ok (.iinc 7 1, 3) := by decide +kernel
theorem dX4_hear_95 : decode cX4_hear 95 = .ok (.goto (-59), 3) := by decide +kernel
theorem dX4_hear_98 : decode cX4_hear 98 = .ok (.iconst 0, 1) := by decide +kernel
theorem dX4_hear_99 : decode cX4_hear 99 = .ok (.istore 7, 2) := by decide +kernel
theorem dX4_hear_101 : decode cX4_hear 101 = .ok (.iload 7, 2) := by decide +kernel
theorem dX4_hear_103 : decode cX4_hear 103 = .ok (.aload_n 0, 1) := by decide +kernel
theorem dX4_hear_104 : decode cX4_hear 104 = .ok (.getfield 32, 3) := by decide +kernel
theorem dX4_hear_107 : decode cX4_hear 107 = .ok (.if_icmp .ge 34, 3) := by decide +kernel
theorem dX4_hear_110 : decode cX4_hear 110 = .ok (.aload_n 0, 1) := by decide +kernel
theorem dX4_hear_111 : decode cX4_hear 111 = .ok (.getfield 29, 3) := by decide +kernel
theorem dX4_hear_114 : decode cX4_hear 114 = .ok (.iload 7, 2) := by decide +kernel
theorem dX4_hear_116 : decode cX4_hear 116 = .ok (.iaload, 1) := by decide +kernel
theorem dX4_hear_117 : decode cX4_hear 117 = .ok (.iload_n 3, 1) := by decide +kernel
theorem dX4_hear_118 : decode cX4_hear 118 = .ok (.iload 4, 2) := by decide +kernel
theorem dX4_hear_120 : decode cX4_hear 120 = .ok (.ixor, 1) := by decide +kernel
theorem dX4_hear_121 : decode cX4_hear 121 = .ok (.if_icmp .eq 14, 3) := by decide +kernel
theorem dX4_hear_124 : decode cX4_hear 124 = .ok (.aload_n 0, 1) := by decide +kernel
theorem dX4_hear_125 : decode cX4_hear 125 = .ok (.aload_n 0, 1) := by decide +kernel
theorem dX4_hear_126 : decode cX4_hear 126 = .ok (.getfield 29, 3) := by decide +kernel
theorem dX4_hear_129 : decode cX4_hear 129 = .ok (.iload 7, 2) := by decide +kernel
theorem dX4_hear_131 : decode cX4_hear 131 = .ok (.iaload, 1) := by decide +kernel
theorem dX4_hear_132 : decode cX4_hear 132 = .ok (.invokevirtual 90, 3) := by decide +kernel
theorem dX4_hear_135 : decode cX4_hear 135 = .ok (.iinc 7 1, 3) := by decide +kernel
theorem dX4_hear_138 : decode cX4_hear 138 = .ok (.goto (-37), 3) := by decide +kernel
theorem dX4_hear_141 : decode cX4_hear 141 = .ok (.return_, 1) := by decide +kernel
theorem dX4_offerNearest_0 : decode cX4_offerNearest 0 = .ok (.aload_n 0, 1) := by decide +kernel
theorem dX4_offerNearest_1 : decode cX4_offerNearest 1 = .ok (.getfield 32, 3) := by decide +kernel
theorem dX4_offerNearest_4 : decode cX4_offerNearest 4 = .ok (.istore_n 2, 1) := by decide +kernel
theorem dX4_offerNearest_5 : decode cX4_offerNearest 5 = .ok (.aload_n 0, 1) := by decide +kernel
theorem dX4_offerNearest_6 : decode cX4_offerNearest 6 = .ok (.getfield 32, 3) := by decide +kernel
theorem dX4_offerNearest_9 : decode cX4_offerNearest 9 = .ok (.iconst 3, 1) := by decide +kernel
theorem dX4_offerNearest_10 : decode cX4_offerNearest 10 = .ok (.if_icmp .ge 16, 3) := by decide +kernel
theorem dX4_offerNearest_13 : decode cX4_offerNearest 13 = .ok (.aload_n 0, 1) := by decide +kernel
theorem dX4_offerNearest_14 : decode cX4_offerNearest 14 = .ok (.dup, 1) := by decide +kernel
theorem dX4_offerNearest_15 : decode cX4_offerNearest 15 = .ok (.getfield 32, 3) := by decide +kernel
theorem dX4_offerNearest_18 : decode cX4_offerNearest 18 = .ok (.iconst 1, 1) := by decide +kernel
theorem dX4_offerNearest_19 : decode cX4_offerNearest 19 = .ok (.iadd, 1) := by decide +kernel
theorem dX4_offerNearest_20 : decode cX4_offerNearest 20 = .ok (.putfield 32, 3) := by decide +kernel
theorem dX4_offerNearest_23 : decode cX4_offerNearest 23 = .ok (.goto 19, 3) := by decide +kernel
theorem dX4_offerNearest_26 : decode cX4_offerNearest 26 = .ok (.iload_n 1, 1) := by decide +kernel
theorem dX4_offerNearest_27 : decode cX4_offerNearest 27 = .ok (.aload_n 0, 1) := by decide +kernel
theorem dX4_offerNearest_28 : decode cX4_offerNearest 28 = .ok (.getfield 29, 3) := by decide +kernel
theorem dX4_offerNearest_31 : decode cX4_offerNearest 31 = .ok (.iconst 2, 1) := by decide +kernel
theorem dX4_offerNearest_32 : decode cX4_offerNearest 32 = .ok (.iaload, 1) := by decide +kernel
theorem dX4_offerNearest_33 : decode cX4_offerNearest 33 = .ok (.if_icmp .ge 8, 3) := by decide +kernel
theorem dX4_offerNearest_36 : decode cX4_offerNearest 36 = .ok (.iconst 2, 1) := by decide +kernel
theorem dX4_offerNearest_37 : decode cX4_offerNearest 37 = .ok (.istore_n 2, 1) := by decide +kernel
theorem dX4_offerNearest_38 : decode cX4_offerNearest 38 = .ok (.goto 4, 3) := by decide +kernel
theorem dX4_offerNearest_41 : decode cX4_offerNearest 41 = .ok (.return_, 1) := by decide +kernel
theorem dX4_offerNearest_42 : decode cX4_offerNearest 42 = .ok (.iload_n 2, 1) := by decide +kernel
theorem dX4_offerNearest_43 : decode cX4_offerNearest 43 = .ok (.ifCond .le 35, 3) := by decide +kernel
theorem dX4_offerNearest_46 : decode cX4_offerNearest 46 = .ok (.aload_n 0, 1) := by decide +kernel
theorem dX4_offerNearest_47 : decode cX4_offerNearest 47 = .ok (.getfield 29, 3) := by decide +kernel
theorem dX4_offerNearest_50 : decode cX4_offerNearest 50 = .ok (.iload_n 2, 1) := by decide +kernel
theorem dX4_offerNearest_51 : decode cX4_offerNearest 51 = .ok (.iconst 1, 1) := by decide +kernel
theorem dX4_offerNearest_52 : decode cX4_offerNearest 52 = .ok (.isub, 1) := by decide +kernel
theorem dX4_offerNearest_53 : decode cX4_offerNearest 53 = .ok (.iaload, 1) := by decide +kernel
theorem dX4_offerNearest_54 : decode cX4_offerNearest 54 = .ok (.iload_n 1, 1) := by decide +kernel
theorem dX4_offerNearest_55 : decode cX4_offerNearest 55 = .ok (.if_icmp .le 23, 3) := by decide +kernel
theorem dX4_offerNearest_58 : decode cX4_offerNearest 58 = .ok (.aload_n 0, 1) := by decide +kernel
theorem dX4_offerNearest_59 : decode cX4_offerNearest 59 = .ok (.getfield 29, 3) := by decide +kernel
theorem dX4_offerNearest_62 : decode cX4_offerNearest 62 = .ok (.iload_n 2, 1) := by decide +kernel
theorem dX4_offerNearest_63 : decode cX4_offerNearest 63 = .ok (.aload_n 0, 1) := by decide +kernel
theorem dX4_offerNearest_64 : decode cX4_offerNearest 64 = .ok (.getfield 29, 3) := by decide +kernel
theorem dX4_offerNearest_67 : decode cX4_offerNearest 67 = .ok (.iload_n 2, 1) := by decide +kernel
theorem dX4_offerNearest_68 : decode cX4_offerNearest 68 = .ok (.iconst 1, 1) := by decide +kernel
theorem dX4_offerNearest_69 : decode cX4_offerNearest 69 = .ok (.isub, 1) := by decide +kernel
theorem dX4_offerNearest_70 : decode cX4_offerNearest 70 = .ok (.iaload, 1) := by decide +kernel
theorem dX4_offerNearest_71 : decode cX4_offerNearest 71 = .ok (.iastore, 1) := by decide +kernel
theorem dX4_offerNearest_72 : decode cX4_offerNearest 72 = .ok (.iinc 2 (-1), 3) := by decide +kernel
theorem dX4_offerNearest_75 : decode cX4_offerNearest 75 = .ok (.goto (-33), 3) := by decide +kernel
theorem dX4_offerNearest_78 : decode cX4_offerNearest 78 = .ok (.aload_n 0, 1) := by decide +kernel
theorem dX4_offerNearest_79 : decode cX4_offerNearest 79 = .ok (.getfield 29, 3) := by decide +kernel
theorem dX4_offerNearest_82 : decode cX4_offerNearest 82 = .ok (.iload_n 2, 1) := by decide +kernel
theorem dX4_offerNearest_83 : decode cX4_offerNearest 83 = .ok (.iload_n 1, 1) := by decide +kernel
theorem dX4_offerNearest_84 : decode cX4_offerNearest 84 = .ok (.iastore, 1) := by decide +kernel
theorem dX4_offerNearest_85 : decode cX4_offerNearest 85 = .ok (.return_, 1) := by decide +kernel
theorem dX4_addKnown_0 : decode cX4_addKnown 0 = .ok (.aload_n 0, 1) := by decide +kernel
theorem dX4_addKnown_1 : decode cX4_addKnown 1 = .ok (.getfield 41, 3) := by decide +kernel
theorem dX4_addKnown_4 : decode cX4_addKnown 4 = .ok (.istore_n 2, 1) := by decide +kernel
theorem dX4_addKnown_5 : decode cX4_addKnown 5 = .ok (.iload_n 2, 1) := by decide +kernel
theorem dX4_addKnown_6 : decode cX4_addKnown 6 = .ok (.ifCond .le 21, 3) := by decide +kernel
theorem dX4_addKnown_9 : decode cX4_addKnown 9 = .ok (.aload_n 0, 1) := by decide +kernel
theorem dX4_addKnown_10 : decode cX4_addKnown 10 = .ok (.getfield 35, 3) := by decide +kernel
theorem dX4_addKnown_13 : decode cX4_addKnown 13 = .ok (.iload_n 2, 1) := by decide +kernel
theorem dX4_addKnown_14 : decode cX4_addKnown 14 = .ok (.iconst 1, 1) := by decide +kernel
theorem dX4_addKnown_15 : decode cX4_addKnown 15 = .ok (.isub, 1) := by decide +kernel
theorem dX4_addKnown_16 : decode cX4_addKnown 16 = .ok (.iaload, 1) := by decide +kernel
theorem dX4_addKnown_17 : decode cX4_addKnown 17 = .ok (.iload_n 1, 1) := by decide +kernel
theorem dX4_addKnown_18 : decode cX4_addKnown 18 = .ok (.if_icmp .le 9, 3) := by decide +kernel
theorem dX4_addKnown_21 : decode cX4_addKnown 21 = .ok (.iinc 2 (-1), 3) := by decide +kernel
theorem dX4_addKnown_24 : decode cX4_addKnown 24 = .ok (.goto (-19), 3) := by decide +kernel
theorem dX4_addKnown_27 : decode cX4_addKnown 27 = .ok (.iload_n 2, 1) := by decide +kernel
theorem dX4_addKnown_28 : decode cX4_addKnown 28 = .ok (.ifCond .le 19, 3) := by decide +kernel
theorem dX4_addKnown_31 : decode cX4_addKnown 31 = .ok (.aload_n 0, 1) := by decide +kernel
theorem dX4_addKnown_32 : decode cX4_addKnown 32 = .ok (.getfield 35, 3) := by decide +kernel
theorem dX4_addKnown_35 : decode cX4_addKnown 35 = .ok (.iload_n 2, 1) := by decide +kernel
theorem dX4_addKnown_36 : decode cX4_addKnown 36 = .ok (.iconst 1, 1) := by decide +kernel
theorem dX4_addKnown_37 : decode cX4_addKnown 37 = .ok (.isub, 1) := by decide +kernel
theorem dX4_addKnown_38 : decode cX4_addKnown 38 = .ok (.iaload, 1) := by decide +kernel
theorem dX4_addKnown_39 : decode cX4_addKnown 39 = .ok (.iload_n 1, 1) := by decide +kernel
theorem dX4_addKnown_40 : decode cX4_addKnown 40 = .ok (.if_icmp .ne 7, 3) := by decide +kernel
theorem dX4_addKnown_43 : decode cX4_addKnown 43 = .ok (.iconst 1, 1) := by decide +kernel
theorem dX4_addKnown_44 : decode cX4_addKnown 44 = .ok (.goto 4, 3) := by decide +kernel
theorem dX4_addKnown_47 : decode cX4_addKnown 47 = .ok (.iconst 0, 1) := by decide +kernel
theorem dX4_addKnown_48 : decode cX4_addKnown 48 = .ok (.istore_n 3, 1) := by decide +kernel
theorem dX4_addKnown_49 : decode cX4_addKnown 49 = .ok (.iload_n 3, 1) := by decide +kernel
theorem dX4_addKnown_50 : decode cX4_addKnown 50 = .ok (.ifCond .ne 12, 3) := by decide +kernel
theorem dX4_addKnown_53 : decode cX4_addKnown 53 = .ok (.aload_n 0, 1) := by decide +kernel
theorem dX4_addKnown_54 : decode cX4_addKnown 54 = .ok (.getfield 41, 3) := by decide +kernel
theorem dX4_addKnown_57 : decode cX4_addKnown 57 = .ok (.bipush 39, 2) := by decide +kernel
theorem dX4_addKnown_59 : decode cX4_addKnown 59 = .ok (.if_icmp .lt 4, 3) := by decide +kernel
theorem dX4_addKnown_62 : decode cX4_addKnown 62 = .ok (.return_, 1) := by decide +kernel
theorem dX4_addKnown_63 : decode cX4_addKnown 63 = .ok (.aload_n 0, 1) := by decide +kernel
theorem dX4_addKnown_64 : decode cX4_addKnown 64 = .ok (.getfield 41, 3) := by decide +kernel
theorem dX4_addKnown_67 : decode cX4_addKnown 67 = .ok (.istore 4, 2) := by decide +kernel
theorem dX4_addKnown_69 : decode cX4_addKnown 69 = .ok (.iload 4, 2) := by decide +kernel
theorem dX4_addKnown_71 : decode cX4_addKnown 71 = .ok (.iload_n 2, 1) := by decide +kernel
theorem dX4_addKnown_72 : decode cX4_addKnown 72 = .ok (.if_icmp .le 41, 3) := by decide +kernel
theorem dX4_addKnown_75 : decode cX4_addKnown 75 = .ok (.aload_n 0, 1) := by decide +kernel
theorem dX4_addKnown_76 : decode cX4_addKnown 76 = .ok (.getfield 35, 3) := by decide +kernel
theorem dX4_addKnown_79 : decode cX4_addKnown 79 = .ok (.iload 4, 2) := by decide +kernel
theorem dX4_addKnown_81 : decode cX4_addKnown 81 = .ok (.aload_n 0, 1) := by decide +kernel
theorem dX4_addKnown_82 : decode cX4_addKnown 82 = .ok (.getfield 35, 3) := by decide +kernel
theorem dX4_addKnown_85 : decode cX4_addKnown 85 = .ok (.iload 4, 2) := by decide +kernel
theorem dX4_addKnown_87 : decode cX4_addKnown 87 = .ok (.iconst 1, 1) := by decide +kernel
theorem dX4_addKnown_88 : decode cX4_addKnown 88 = .ok (.isub, 1) := by decide +kernel
theorem dX4_addKnown_89 : decode cX4_addKnown 89 = .ok (.iaload, 1) := by decide +kernel
theorem dX4_addKnown_90 : decode cX4_addKnown 90 = .ok (.iastore, 1) := by decide +kernel
theorem dX4_addKnown_91 : decode cX4_addKnown 91 = .ok (.aload_n 0, 1) := by decide +kernel
theorem dX4_addKnown_92 : decode cX4_addKnown 92 = .ok (.getfield 38, 3) := by decide +kernel
theorem dX4_addKnown_95 : decode cX4_addKnown 95 = .ok (.iload 4, 2) := by decide +kernel
theorem dX4_addKnown_97 : decode cX4_addKnown 97 = .ok (.aload_n 0, 1) := by decide +kernel
theorem dX4_addKnown_98 : decode cX4_addKnown 98 = .ok (.getfield 38, 3) := by decide +kernel
theorem dX4_addKnown_101 : decode cX4_addKnown 101 = .ok (.iload 4, 2) := by decide +kernel
theorem dX4_addKnown_103 : decode cX4_addKnown 103 = .ok (.iconst 1, 1) := by decide +kernel
theorem dX4_addKnown_104 : decode cX4_addKnown 104 = .ok (.isub, 1) := by decide +kernel
theorem dX4_addKnown_105 : decode cX4_addKnown 105 = .ok (.iaload, 1) := by decide +kernel
theorem dX4_addKnown_106 : decode cX4_addKnown 106 = .ok (.iastore, 1) := by decide +kernel
theorem dX4_addKnown_107 : decode cX4_addKnown 107 = .ok (.iinc 4 (-1), 3) := by decide +kernel
theorem dX4_addKnown_110 : decode cX4_addKnown 110 = .ok (.goto (-41), 3) := by decide +kernel
theorem dX4_addKnown_113 : decode cX4_addKnown 113 = .ok (.aload_n 0, 1) := by decide +kernel
theorem dX4_addKnown_114 : decode cX4_addKnown 114 = .ok (.getfield 35, 3) := by decide +kernel
theorem dX4_addKnown_117 : decode cX4_addKnown 117 = .ok (.iload_n 2, 1) := by decide +kernel
theorem dX4_addKnown_118 : decode cX4_addKnown 118 = .ok (.iload_n 1, 1) := by decide +kernel
theorem dX4_addKnown_119 : decode cX4_addKnown 119 = .ok (.iastore, 1) := by decide +kernel
theorem dX4_addKnown_120 : decode cX4_addKnown 120 = .ok (.aload_n 0, 1) := by decide +kernel
theorem dX4_addKnown_121 : decode cX4_addKnown 121 = .ok (.getfield 38, 3) := by decide +kernel
theorem dX4_addKnown_124 : decode cX4_addKnown 124 = .ok (.iload_n 2, 1) := by decide +kernel
theorem dX4_addKnown_125 : decode cX4_addKnown 125 = .ok (.iconst 0, 1) := by decide +kernel
theorem dX4_addKnown_126 : decode cX4_addKnown 126 = .ok (.iastore, 1) := by decide +kernel
theorem dX4_addKnown_127 : decode cX4_addKnown 127 = .ok (.aload_n 0, 1) := by decide +kernel
theorem dX4_addKnown_128 : decode cX4_addKnown 128 = .ok (.dup, 1) := by decide +kernel
theorem dX4_addKnown_129 : decode cX4_addKnown 129 = .ok (.getfield 41, 3) := by decide +kernel
theorem dX4_addKnown_132 : decode cX4_addKnown 132 = .ok (.iconst 1, 1) := by decide +kernel
theorem dX4_addKnown_133 : decode cX4_addKnown 133 = .ok (.iadd, 1) := by decide +kernel
theorem dX4_addKnown_134 : decode cX4_addKnown 134 = .ok (.putfield 41, 3) := by decide +kernel
theorem dX4_addKnown_137 : decode cX4_addKnown 137 = .ok (.return_, 1) := by decide +kernel
set_option maxRecDepth 20000 in
theorem ggX5_init_X4_init : GoodIn wsX5_init wsX4_init := goodIn_r _ [21, 22, 2, 3, 23, 24, 25, 26, 27, 28, 29, 30, 31, 32, 33, 74, 75, 76, 77, 78, 79, 80, 81, 82, 83] (by decide +kernel) (by decide +kernel)
set_option maxRecDepth 20000 in
theorem gX5_init_X4_init_n9 : GoodIn wsX5_init (wsX4_init) := ggX5_init_X4_init
set_option maxRecDepth 20000 in
theorem ggX5_init_X1_init : GoodIn wsX5_init wsX1_init := goodIn_r _ [35, 36, 2, 3, 23, 37, 38, 39, 40, 41, 42, 91, 92, 93, 94, 95, 96] (by decide +kernel) (by decide +kernel)
set_option maxRecDepth 20000 in
theorem gX5_init_X1_init_n18 : GoodIn wsX5_init (wsX1_init) := ggX5_init_X1_init
set_option maxRecDepth 20000 in
theorem ggX5_init_X2_init : GoodIn wsX5_init wsX2_init := goodIn_r _ [45, 46, 2, 3, 47, 48, 49, 50, 51, 52, 53, 54, 23, 55, 56, 57, 58, 59, 60, 61, 62, 63, 64, 65, 66, 67, 68, 69, 70, 71, 72, 73, 97, 98, 99, 100, 101, 102, 103, 104, 105, 106, 107, 108, 109, 110, 111, 112, 113] (by decide +kernel) (by decide +kernel)
set_option maxRecDepth 20000 in
theorem gX5_init_X2_init : GoodIn wsX5_init (wsX2_init) := ggX5_init_X2_init
theorem dX5_init_0 : decode cX5_init 0 = .ok (.aload_n 0, 1) := by decide +kernel
theorem dX5_init_1 : decode cX5_init 1 = .ok (.invokespecial 1, 3) := by decide +kernel
theorem dX5_init_4 : decode cX5_init 4 = .ok (.aload_n 0, 1) := by decide +kernel
theorem dX5_init_5 : decode cX5_init 5 = .ok (.new 7, 3) := by decide +kernel
theorem dX5_init_8 : decode cX5_init 8 = .ok (.dup, 1) := by decide +kernel
theorem dX5_init_9 : decode cX5_init 9 = .ok (.invokespecial 9, 3) := by decide +kernel
theorem dX5_init_12 : decode cX5_init 12 = .ok (.putfield 10, 3) := by decide +kernel
theorem dX5_init_15 : decode cX5_init 15 = .ok (.aload_n 0, 1) := by decide +kernel
theorem dX5_init_16 : decode cX5_init 16 = .ok (.new 16, 3) := by decide +kernel
theorem dX5_init_19 : decode cX5_init 19 = .ok (.dup, 1) := by decide +kernel
theorem dX5_init_20 : decode cX5_init 20 = .ok (.invokespecial 18, 3) := by decide +kernel
theorem dX5_init_23 : decode cX5_init 23 = .ok (.putfield 19, 3) := by decide +kernel
theorem dX5_init_26 : decode cX5_init 26 = .ok (.aload_n 0, 1) := by decide +kernel
theorem dX5_init_27 : decode cX5_init 27 = .ok (.new 23, 3) := by decide +kernel
theorem dX5_init_30 : decode cX5_init 30 = .ok (.dup, 1) := by decide +kernel
theorem dX5_init_31 : decode cX5_init 31 = .ok (.invokespecial 25, 3) := by decide +kernel
theorem dX5_init_34 : decode cX5_init 34 = .ok (.putfield 26, 3) := by decide +kernel
theorem dX5_init_37 : decode cX5_init 37 = .ok (.aload_n 0, 1) := by decide +kernel
theorem dX5_init_38 : decode cX5_init 38 = .ok (.new 23, 3) := by decide +kernel
theorem dX5_init_41 : decode cX5_init 41 = .ok (.dup, 1) := by decide +kernel
theorem dX5_init_42 : decode cX5_init 42 = .ok (.invokespecial 25, 3) := by decide +kernel
theorem dX5_init_45 : decode cX5_init 45 = .ok (.putfield 30, 3) := by decide +kernel
theorem dX5_init_48 : decode cX5_init 48 = .ok (.aload_n 0, 1) := by decide +kernel
theorem dX5_init_49 : decode cX5_init 49 = .ok (.new 23, 3) := by decide +kernel
theorem dX5_init_52 : decode cX5_init 52 = .ok (.dup, 1) := by decide +kernel
theorem dX5_init_53 : decode cX5_init 53 = .ok (.invokespecial 25, 3) := by decide +kernel
theorem dX5_init_56 : decode cX5_init 56 = .ok (.putfield 33, 3) := by decide +kernel
theorem dX5_init_59 : decode cX5_init 59 = .ok (.aload_n 0, 1) := by decide +kernel
theorem dX5_init_60 : decode cX5_init 60 = .ok (.new 23, 3) := by decide +kernel
theorem dX5_init_63 : decode cX5_init 63 = .ok (.dup, 1) := by decide +kernel
theorem dX5_init_64 : decode cX5_init 64 = .ok (.invokespecial 25, 3) := by decide +kernel
theorem dX5_init_67 : decode cX5_init 67 = .ok (.putfield 36, 3) := by decide +kernel
theorem dX5_init_70 : decode cX5_init 70 = .ok (.aload_n 0, 1) := by decide +kernel
theorem dX5_init_71 : decode cX5_init 71 = .ok (.iconst 0, 1) := by decide +kernel
theorem dX5_init_72 : decode cX5_init 72 = .ok (.putfield 39, 3) := by decide +kernel
theorem dX5_init_75 : decode cX5_init 75 = .ok (.return_, 1) := by decide +kernel
set_option maxRecDepth 20000 in
theorem ggX5_setPuzzles_X5_refuseOutside : GoodIn wsX5_setPuzzles wsX5_refuseOutside := goodIn_ca (goodIn_r _ [6, 7, 8, 9, 10, 5, 11] (by decide +kernel) (by decide +kernel)) (goodIn_sub (fun _ h => List.mem_cons_of_mem _ (List.mem_append_right _ h)) (by decide +kernel))
set_option maxRecDepth 20000 in
theorem gX5_setPuzzles_X5_refuseOutside : GoodIn wsX5_setPuzzles (va_wsS RX5 43 yX5_refuseOutside wsX5_refuseOutside) := goodIn_app (goodIn_of _ (by decide +kernel)) ggX5_setPuzzles_X5_refuseOutside
set_option maxRecDepth 20000 in
theorem ggX5_setPuzzles_X5_save : GoodIn wsX5_setPuzzles wsX5_save := goodIn_r _ [15, 16, 17, 18, 1, 19, 20, 21, 22, 23, 24, 25, 26, 27, 28, 29, 30, 31, 32, 33, 34, 35, 36, 37, 38, 39, 40, 41, 42, 43, 44, 45, 46, 47, 48, 49, 50, 51, 52, 53, 54, 55, 72, 73, 74, 75, 76, 77, 78, 79, 80, 81, 82, 83, 84, 85, 86, 87, 88, 89, 90, 91, 92, 93, 94, 95] (by decide +kernel) (by decide +kernel)
set_option maxRecDepth 20000 in
theorem gX5_setPuzzles_X5_save : GoodIn wsX5_setPuzzles (wsV RX5 47 RX5 yX5_save wsX5_save) := goodIn_app (goodIn_of _ (by decide +kernel)) ggX5_setPuzzles_X5_save
set_option maxRecDepth 20000 in
theorem ggX5_setPuzzles_X2_adoptPuzzles : GoodIn wsX5_setPuzzles wsX2_adoptPuzzles := goodIn_r _ [59, 29, 30, 31, 60, 61, 62, 27, 63, 34, 64, 65, 66, 67, 68, 69, 70, 71, 35, 79, 80, 81, 82, 83, 84, 85, 86, 87, 88, 89, 90, 91, 92] (by decide +kernel) (by decide +kernel)
set_option maxRecDepth 20000 in
theorem gX5_setPuzzles_X2_adoptPuzzles : GoodIn wsX5_setPuzzles (wsV RX5 53 RX2 yX2_adoptPuzzles wsX2_adoptPuzzles) := goodIn_app (goodIn_of _ (by decide +kernel)) ggX5_setPuzzles_X2_adoptPuzzles
theorem dX5_setPuzzles_0 : decode cX5_setPuzzles 0 = .ok (.iload_n 1, 1) := by decide +kernel
theorem dX5_setPuzzles_1 : decode cX5_setPuzzles 1 = .ok (.iconst 0, 1) := by decide +kernel
theorem dX5_setPuzzles_2 : decode cX5_setPuzzles 2 = .ok (.bipush 6, 2) := by decide +kernel
theorem dX5_setPuzzles_4 : decode cX5_setPuzzles 4 = .ok (.invokestatic 43, 3) := by decide +kernel
theorem dX5_setPuzzles_7 : decode cX5_setPuzzles 7 = .ok (.iload_n 2, 1) := by decide +kernel
theorem dX5_setPuzzles_8 : decode cX5_setPuzzles 8 = .ok (.bipush 10, 2) := by decide +kernel
theorem dX5_setPuzzles_10 : decode cX5_setPuzzles 10 = .ok (.sipush 1000, 3) := by decide +kernel
theorem dX5_setPuzzles_13 : decode cX5_setPuzzles 13 = .ok (.invokestatic 43, 3) := by decide +kernel
theorem dX5_setPuzzles_16 : decode cX5_setPuzzles 16 = .ok (.iload_n 3, 1) := by decide +kernel
theorem dX5_setPuzzles_17 : decode cX5_setPuzzles 17 = .ok (.iconst 5, 1) := by decide +kernel
theorem dX5_setPuzzles_18 : decode cX5_setPuzzles 18 = .ok (.bipush 100, 2) := by decide +kernel
theorem dX5_setPuzzles_20 : decode cX5_setPuzzles 20 = .ok (.invokestatic 43, 3) := by decide +kernel
theorem dX5_setPuzzles_23 : decode cX5_setPuzzles 23 = .ok (.aload_n 0, 1) := by decide +kernel
theorem dX5_setPuzzles_24 : decode cX5_setPuzzles 24 = .ok (.invokevirtual 47, 3) := by decide +kernel
theorem dX5_setPuzzles_27 : decode cX5_setPuzzles 27 = .ok (.aload_n 0, 1) := by decide +kernel
theorem dX5_setPuzzles_28 : decode cX5_setPuzzles 28 = .ok (.getfield 26, 3) := by decide +kernel
theorem dX5_setPuzzles_31 : decode cX5_setPuzzles 31 = .ok (.getfield 50, 3) := by decide +kernel
theorem dX5_setPuzzles_34 : decode cX5_setPuzzles 34 = .ok (.istore 4, 2) := by decide +kernel
theorem dX5_setPuzzles_36 : decode cX5_setPuzzles 36 = .ok (.aload_n 0, 1) := by decide +kernel
theorem dX5_setPuzzles_37 : decode cX5_setPuzzles 37 = .ok (.getfield 26, 3) := by decide +kernel
theorem dX5_setPuzzles_40 : decode cX5_setPuzzles 40 = .ok (.iload_n 1, 1) := by decide +kernel
theorem dX5_setPuzzles_41 : decode cX5_setPuzzles 41 = .ok (.iload_n 2, 1) := by decide +kernel
theorem dX5_setPuzzles_42 : decode cX5_setPuzzles 42 = .ok (.iload_n 3, 1) := by decide +kernel
theorem dX5_setPuzzles_43 : decode cX5_setPuzzles 43 = .ok (.invokevirtual 53, 3) := by decide +kernel
theorem dX5_setPuzzles_46 : decode cX5_setPuzzles 46 = .ok (.iload 4, 2) := by decide +kernel
theorem dX5_setPuzzles_48 : decode cX5_setPuzzles 48 = .ok (.ireturn, 1) := by decide +kernel
set_option maxRecDepth 20000 in
theorem ggX5_setQuotas_X5_refuseOutside : GoodIn wsX5_setQuotas wsX5_refuseOutside := goodIn_ca (goodIn_r _ [7, 8, 9, 10, 11, 6, 12] (by decide +kernel) (by decide +kernel)) (goodIn_sub (fun _ h => List.mem_cons_of_mem _ (List.mem_append_right _ h)) (by decide +kernel))
set_option maxRecDepth 20000 in
theorem gX5_setQuotas_X5_refuseOutside : GoodIn wsX5_setQuotas (va_wsS RX5 43 yX5_refuseOutside wsX5_refuseOutside) := goodIn_app (goodIn_of _ (by decide +kernel)) ggX5_setQuotas_X5_refuseOutside
set_option maxRecDepth 20000 in
theorem ggX5_setQuotas_X5_save : GoodIn wsX5_setQuotas wsX5_save := goodIn_r _ [16, 17, 18, 19, 1, 20, 21, 22, 23, 24, 25, 26, 27, 28, 29, 30, 31, 32, 33, 34, 35, 36, 37, 38, 39, 40, 41, 42, 43, 44, 45, 46, 47, 48, 49, 50, 51, 52, 53, 54, 55, 56, 57, 58, 59, 60, 61, 62, 63, 64, 65, 66, 67, 68, 69, 70, 71, 72, 73, 74, 75, 76, 77, 78, 79, 80] (by decide +kernel) (by decide +kernel)
set_option maxRecDepth 20000 in
theorem gX5_setQuotas_X5_save : GoodIn wsX5_setQuotas (wsV RX5 47 RX5 yX5_save wsX5_save) := goodIn_app (goodIn_of _ (by decide +kernel)) ggX5_setQuotas_X5_save
theorem dX5_setQuotas_0 : decode cX5_setQuotas 0 = .ok (.iload_n 1, 1) := by decide +kernel
theorem dX5_setQuotas_1 : decode cX5_setQuotas 1 = .ok (.iconst 1, 1) := by decide +kernel
theorem dX5_setQuotas_2 : decode cX5_setQuotas 2 = .ok (.iconst 4, 1) := by decide +kernel
theorem dX5_setQuotas_3 : decode cX5_setQuotas 3 = .ok (.invokestatic 43, 3) := by decide +kernel
theorem dX5_setQuotas_6 : decode cX5_setQuotas 6 = .ok (.iload_n 2, 1) := by decide +kernel
theorem dX5_setQuotas_7 : decode cX5_setQuotas 7 = .ok (.iconst 1, 1) := by decide +kernel
theorem dX5_setQuotas_8 : decode cX5_setQuotas 8 = .ok (.bipush 32, 2) := by decide +kernel
theorem dX5_setQuotas_10 : decode cX5_setQuotas 10 = .ok (.invokestatic 43, 3) := by decide +kernel
theorem dX5_setQuotas_13 : decode cX5_setQuotas 13 = .ok (.aload_n 0, 1) := by decide +kernel
theorem dX5_setQuotas_14 : decode cX5_setQuotas 14 = .ok (.invokevirtual 47, 3) := by decide +kernel
theorem dX5_setQuotas_17 : decode cX5_setQuotas 17 = .ok (.bipush 10, 2) := by decide +kernel
theorem dX5_setQuotas_19 : decode cX5_setQuotas 19 = .ok (.aload_n 0, 1) := by decide +kernel
theorem dX5_setQuotas_20 : decode cX5_setQuotas 20 = .ok (.getfield 26, 3) := by decide +kernel
theorem dX5_setQuotas_23 : decode cX5_setQuotas 23 = .ok (.getfield 56, 3) := by decide +kernel
theorem dX5_setQuotas_26 : decode cX5_setQuotas 26 = .ok (.imul, 1) := by decide +kernel
theorem dX5_setQuotas_27 : decode cX5_setQuotas 27 = .ok (.aload_n 0, 1) := by decide +kernel
theorem dX5_setQuotas_28 : decode cX5_setQuotas 28 = .ok (.getfield 26, 3) := by decide +kernel
theorem dX5_setQuotas_31 : decode cX5_setQuotas 31 = .ok (.getfield 59, 3) := by decide +kernel
theorem dX5_setQuotas_34 : decode cX5_setQuotas 34 = .ok (.iadd, 1) := by decide +kernel
theorem dX5_setQuotas_35 : decode cX5_setQuotas 35 = .ok (.istore_n 3, 1) := by decide +kernel
theorem dX5_setQuotas_36 : decode cX5_setQuotas 36 = .ok (.aload_n 0, 1) := by decide +kernel
theorem dX5_setQuotas_37 : decode cX5_setQuotas 37 = .ok (.getfield 26, 3) := by decide +kernel
theorem dX5_setQuotas_40 : decode cX5_setQuotas 40 = .ok (.iload_n 1, 1) := by decide +kernel
theorem dX5_setQuotas_41 : decode cX5_setQuotas 41 = .ok (.putfield 59, 3) := by decide +kernel
theorem dX5_setQuotas_44 : decode cX5_setQuotas 44 = .ok (.aload_n 0, 1) := by decide +kernel
theorem dX5_setQuotas_45 : decode cX5_setQuotas 45 = .ok (.getfield 26, 3) := by decide +kernel
theorem dX5_setQuotas_48 : decode cX5_setQuotas 48 = .ok (.iload_n 2, 1) := by decide +kernel
theorem dX5_setQuotas_49 : decode cX5_setQuotas 49 = .ok (.putfield 56, 3) := by decide +kernel
theorem dX5_setQuotas_52 : decode cX5_setQuotas 52 = .ok (.iload_n 3, 1) := by decide +kernel
theorem dX5_setQuotas_53 : decode cX5_setQuotas 53 = .ok (.ireturn, 1) := by decide +kernel
set_option maxRecDepth 20000 in
theorem ggX5_tick_X5_tickFault : GoodIn wsX5_tick wsX5_tickFault := goodIn_r _ [5, 6, 7, 4, 8] (by decide +kernel) (by decide +kernel)
set_option maxRecDepth 20000 in
theorem gX5_tick_X5_tickFault : GoodIn wsX5_tick (va_wsS RX5 62 yX5_tickFault wsX5_tickFault) := goodIn_app (goodIn_of _ (by decide +kernel)) ggX5_tick_X5_tickFault
set_option maxRecDepth 20000 in
theorem ggX5_tick_X5_raise : GoodIn wsX5_tick wsX5_raise := goodIn_ca (goodIn_ca (goodIn_ca (goodIn_r _ [11, 12, 13, 14, 15, 16, 17] (by decide +kernel) (by decide +kernel)) (goodIn_sub (fun _ h => List.mem_cons_of_mem _ (List.mem_append_left _ (List.mem_append_left _ (List.mem_append_right _ h)))) (by decide +kernel))) (goodIn_sub (fun _ h => List.mem_cons_of_mem _ (List.mem_append_left _ (List.mem_append_right _ h))) (by decide +kernel))) (goodIn_sub (fun _ h => List.mem_cons_of_mem _ (List.mem_append_right _ h)) (by decide +kernel))
set_option maxRecDepth 20000 in
theorem gX5_tick_X5_raise : GoodIn wsX5_tick (va_wsS RX5 66 yX5_raise wsX5_raise) := goodIn_app (goodIn_of _ (by decide +kernel)) ggX5_tick_X5_raise
set_option maxRecDepth 20000 in
theorem ggX5_tick_X5_save : GoodIn wsX5_tick wsX5_save := goodIn_r _ [21, 22, 23, 24, 1, 25, 26, 27, 28, 29, 30, 31, 32, 33, 34, 35, 36, 37, 38, 39, 40, 41, 42, 43, 44, 45, 46, 47, 48, 49, 50, 51, 52, 53, 54, 55, 56, 57, 58, 59, 60, 61, 86, 87, 88, 89, 90, 91, 92, 93, 94, 95, 96, 97, 98, 99, 100, 101, 102, 103, 104, 105, 106, 107, 108, 109] (by decide +kernel) (by decide +kernel)
set_option maxRecDepth 20000 in
theorem gX5_tick_X5_save : GoodIn wsX5_tick (wsV RX5 47 RX5 yX5_save wsX5_save) := goodIn_app (goodIn_of _ (by decide +kernel)) ggX5_tick_X5_save
set_option maxRecDepth 20000 in
theorem ggX5_tick_X2_passTime : GoodIn wsX5_tick wsX2_passTime := goodIn_r _ [65, 40, 49, 51, 36, 66, 67, 68, 33, 69, 37, 70, 71, 72, 73, 74, 75, 76, 77, 41, 78, 79, 80, 81, 48, 42, 43, 82, 83, 84, 85, 93, 94, 95, 96, 97, 98, 99, 100, 101, 102, 103, 104, 105, 106] (by decide +kernel) (by decide +kernel)
set_option maxRecDepth 20000 in
theorem gX5_tick_X2_passTime : GoodIn wsX5_tick (wsV RX5 70 RX2 yX2_passTime wsX2_passTime) := goodIn_app (goodIn_of _ (by decide +kernel)) ggX5_tick_X2_passTime
theorem dX5_tick_0 : decode cX5_tick 0 = .ok (.iload_n 1, 1) := by decide +kernel
theorem dX5_tick_1 : decode cX5_tick 1 = .ok (.invokestatic 62, 3) := by decide +kernel
theorem dX5_tick_4 : decode cX5_tick 4 = .ok (.invokestatic 66, 3) := by decide +kernel
theorem dX5_tick_7 : decode cX5_tick 7 = .ok (.aload_n 0, 1) := by decide +kernel
theorem dX5_tick_8 : decode cX5_tick 8 = .ok (.invokevirtual 47, 3) := by decide +kernel
theorem dX5_tick_11 : decode cX5_tick 11 = .ok (.aload_n 0, 1) := by decide +kernel
theorem dX5_tick_12 : decode cX5_tick 12 = .ok (.getfield 26, 3) := by decide +kernel
theorem dX5_tick_15 : decode cX5_tick 15 = .ok (.iload_n 1, 1) := by decide +kernel
theorem dX5_tick_16 : decode cX5_tick 16 = .ok (.invokevirtual 70, 3) := by decide +kernel
theorem dX5_tick_19 : decode cX5_tick 19 = .ok (.ireturn, 1) := by decide +kernel
set_option maxRecDepth 20000 in
theorem ggX5_solve_X5_refuseOutside : GoodIn wsX5_solve wsX5_refuseOutside := goodIn_ca (goodIn_r _ [5, 6, 7, 8, 9, 4, 10] (by decide +kernel) (by decide +kernel)) (goodIn_sub (fun _ h => List.mem_cons_of_mem _ (List.mem_append_right _ h)) (by decide +kernel))
set_option maxRecDepth 20000 in
theorem gX5_solve_X5_refuseOutside : GoodIn wsX5_solve (va_wsS RX5 43 yX5_refuseOutside wsX5_refuseOutside) := goodIn_app (goodIn_of _ (by decide +kernel)) ggX5_solve_X5_refuseOutside
set_option maxRecDepth 20000 in
theorem ggX5_solve_X2_smallestNonce : GoodIn wsX5_solve wsX2_smallestNonce := goodIn_r _ [15, 16, 17, 18, 19, 20, 14, 21, 22, 23, 24, 25, 26, 27, 28, 29, 30, 31, 32, 33, 34, 35, 36, 37, 38, 39, 40, 41, 42, 43, 44, 45, 46, 47, 48, 49, 50, 51, 52, 60, 61, 62, 63, 64, 65, 66, 67, 68, 69, 70, 71, 72, 73] (by decide +kernel) (by decide +kernel)
set_option maxRecDepth 20000 in
theorem gX5_solve_X2_smallestNonce : GoodIn wsX5_solve (wsV RX5 73 RX2 yX2_smallestNonce wsX2_smallestNonce) := goodIn_app (goodIn_of _ (by decide +kernel)) ggX5_solve_X2_smallestNonce
theorem dX5_solve_0 : decode cX5_solve 0 = .ok (.iload_n 1, 1) := by decide +kernel
theorem dX5_solve_1 : decode cX5_solve 1 = .ok (.iconst 0, 1) := by decide +kernel
theorem dX5_solve_2 : decode cX5_solve 2 = .ok (.sipush 255, 3) := by decide +kernel
theorem dX5_solve_5 : decode cX5_solve 5 = .ok (.invokestatic 43, 3) := by decide +kernel
theorem dX5_solve_8 : decode cX5_solve 8 = .ok (.aload_n 0, 1) := by decide +kernel
theorem dX5_solve_9 : decode cX5_solve 9 = .ok (.getfield 26, 3) := by decide +kernel
theorem dX5_solve_12 : decode cX5_solve 12 = .ok (.iload_n 1, 1) := by decide +kernel
theorem dX5_solve_13 : decode cX5_solve 13 = .ok (.invokevirtual 73, 3) := by decide +kernel
theorem dX5_solve_16 : decode cX5_solve 16 = .ok (.ireturn, 1) := by decide +kernel
set_option maxRecDepth 20000 in
theorem ggX5_zeros_X5_refuseOutside : GoodIn wsX5_zeros wsX5_refuseOutside := goodIn_ca (goodIn_r _ [5, 6, 7, 8, 9, 4, 10] (by decide +kernel) (by decide +kernel)) (goodIn_sub (fun _ h => List.mem_cons_of_mem _ (List.mem_append_right _ h)) (by decide +kernel))
set_option maxRecDepth 20000 in
theorem gX5_zeros_X5_refuseOutside : GoodIn wsX5_zeros (va_wsS RX5 43 yX5_refuseOutside wsX5_refuseOutside) := goodIn_app (goodIn_of _ (by decide +kernel)) ggX5_zeros_X5_refuseOutside
set_option maxRecDepth 20000 in
theorem ggX5_zeros_X5_refuseNegative : GoodIn wsX5_zeros wsX5_refuseNegative := goodIn_ca (goodIn_r _ [13, 6, 7] (by decide +kernel) (by decide +kernel)) (goodIn_sub (fun _ h => List.mem_cons_of_mem _ (List.mem_append_right _ h)) (by decide +kernel))
set_option maxRecDepth 20000 in
theorem gX5_zeros_X5_refuseNegative : GoodIn wsX5_zeros (va_wsS RX5 77 yX5_refuseNegative wsX5_refuseNegative) := goodIn_app (goodIn_of _ (by decide +kernel)) ggX5_zeros_X5_refuseNegative
set_option maxRecDepth 20000 in
theorem ggX5_zeros_X0_leadingZeros : GoodIn wsX5_zeros wsX0_leadingZeros := goodIn_r _ [17, 18, 19, 20, 16, 21, 22, 23, 24, 25, 26, 27, 28, 29, 30, 31, 32] (by decide +kernel) (by decide +kernel)
set_option maxRecDepth 20000 in
theorem gX5_zeros_X0_leadingZeros : GoodIn wsX5_zeros (va_wsS RX5 80 yX0_leadingZeros wsX0_leadingZeros) := goodIn_app (goodIn_of _ (by decide +kernel)) ggX5_zeros_X0_leadingZeros
theorem dX5_zeros_0 : decode cX5_zeros 0 = .ok (.iload_n 1, 1) := by decide +kernel
theorem dX5_zeros_1 : decode cX5_zeros 1 = .ok (.iconst 0, 1) := by decide +kernel
theorem dX5_zeros_2 : decode cX5_zeros 2 = .ok (.sipush 255, 3) := by decide +kernel
theorem dX5_zeros_5 : decode cX5_zeros 5 = .ok (.invokestatic 43, 3) := by decide +kernel
theorem dX5_zeros_8 : decode cX5_zeros 8 = .ok (.iload_n 2, 1) := by decide +kernel
theorem dX5_zeros_9 : decode cX5_zeros 9 = .ok (.iconst 0, 1) := by decide +kernel
theorem dX5_zeros_10 : decode cX5_zeros 10 = .ok (.ldc 76, 2) := by decide +kernel
theorem dX5_zeros_12 : decode cX5_zeros 12 = .ok (.invokestatic 43, 3) := by decide +kernel
theorem dX5_zeros_15 : decode cX5_zeros 15 = .ok (.iload_n 3, 1) := by decide +kernel
theorem dX5_zeros_16 : decode cX5_zeros 16 = .ok (.invokestatic 77, 3) := by decide +kernel
theorem dX5_zeros_19 : decode cX5_zeros 19 = .ok (.iload_n 1, 1) := by decide +kernel
theorem dX5_zeros_20 : decode cX5_zeros 20 = .ok (.iload_n 2, 1) := by decide +kernel
theorem dX5_zeros_21 : decode cX5_zeros 21 = .ok (.iload_n 3, 1) := by decide +kernel
theorem dX5_zeros_22 : decode cX5_zeros 22 = .ok (.invokestatic 80, 3) := by decide +kernel
theorem dX5_zeros_25 : decode cX5_zeros 25 = .ok (.ireturn, 1) := by decide +kernel
set_option maxRecDepth 20000 in
theorem ggX5_join_X5_refuseOutside : GoodIn wsX5_join wsX5_refuseOutside := goodIn_ca (goodIn_r _ [9, 10, 11, 12, 13, 8, 14] (by decide +kernel) (by decide +kernel)) (goodIn_sub (fun _ h => List.mem_cons_of_mem _ (List.mem_append_left _ (List.mem_append_right _ h))) (by decide +kernel))
set_option maxRecDepth 20000 in
theorem gX5_join_X5_refuseOutside : GoodIn wsX5_join (va_wsS RX5 43 yX5_refuseOutside wsX5_refuseOutside) := goodIn_app (goodIn_of _ (by decide +kernel)) ggX5_join_X5_refuseOutside
set_option maxRecDepth 20000 in
theorem ggX5_join_X5_entryFault : GoodIn wsX5_join wsX5_entryFault := goodIn_r _ [18, 4, 19, 12, 13, 8, 14, 20, 21, 22, 23, 24, 25, 217, 218, 219, 220, 221, 222, 223, 224, 225, 226, 227, 228, 229, 230, 231, 232, 233, 234, 235, 236, 237] (by decide +kernel) (by decide +kernel)
set_option maxRecDepth 20000 in
theorem gX5_join_X5_entryFault : GoodIn wsX5_join (wsV RX5 86 RX5 yX5_entryFault wsX5_entryFault) := goodIn_app (goodIn_of _ (by decide +kernel)) ggX5_join_X5_entryFault
set_option maxRecDepth 20000 in
theorem ggX5_join_X5_raise : GoodIn wsX5_join wsX5_raise := goodIn_ca (goodIn_ca (goodIn_ca (goodIn_r _ [28, 10, 11, 29, 30, 1, 2] (by decide +kernel) (by decide +kernel)) (goodIn_sub (fun _ h => List.mem_cons_of_mem _ (List.mem_append_left _ (List.mem_append_right _ h))) (by decide +kernel))) (goodIn_sub (fun _ h => List.mem_cons_of_mem _ (List.mem_append_right _ h)) (by decide +kernel))) (goodIn_sub (fun _ h => List.mem_cons_of_mem _ (List.mem_append_left _ (List.mem_append_left _ (List.mem_append_right _ h)))) (by decide +kernel))
set_option maxRecDepth 20000 in
theorem gX5_join_X5_raise : GoodIn wsX5_join (va_wsS RX5 66 yX5_raise wsX5_raise) := goodIn_app (goodIn_of _ (by decide +kernel)) ggX5_join_X5_raise
set_option maxRecDepth 20000 in
theorem ggX5_join_X2_isSolvedBy : GoodIn wsX5_join wsX2_isSolvedBy := goodIn_r _ [34, 35, 36, 37, 23, 38, 39, 40, 41, 42, 43, 44, 45, 46, 47, 48, 49, 50, 51, 52, 53, 54, 55, 56, 57, 58, 59, 60, 61, 62, 63, 64, 65, 66, 67, 68, 69, 70, 71, 72, 73, 224, 225, 226, 227, 228, 229, 230, 231, 232, 233, 234, 235, 236, 237] (by decide +kernel) (by decide +kernel)
set_option maxRecDepth 20000 in
theorem gX5_join_X2_isSolvedBy : GoodIn wsX5_join (wsV RX5 89 RX2 yX2_isSolvedBy wsX2_isSolvedBy) := goodIn_app (goodIn_of _ (by decide +kernel)) ggX5_join_X2_isSolvedBy
set_option maxRecDepth 20000 in
theorem ggX5_join_X5_save : GoodIn wsX5_join wsX5_save := goodIn_r _ [77, 78, 79, 80, 4, 81, 82, 71, 72, 73, 83, 84, 85, 23, 86, 68, 87, 39, 88, 89, 40, 69, 90, 91, 92, 93, 94, 95, 25, 96, 97, 98, 99, 100, 101, 102, 103, 104, 105, 106, 107, 108, 217, 218, 219, 220, 221, 222, 223, 224, 225, 226, 227, 228, 229, 230, 231, 232, 233, 234, 235, 236, 237, 238, 239, 240] (by decide +kernel) (by decide +kernel)
set_option maxRecDepth 20000 in
theorem gX5_join_X5_save : GoodIn wsX5_join (wsV RX5 47 RX5 yX5_save wsX5_save) := goodIn_app (goodIn_of _ (by decide +kernel)) ggX5_join_X5_save
set_option maxRecDepth 20000 in
theorem ggX5_join_X2_enter : GoodIn wsX5_join wsX2_enter := goodIn_r _ [112, 25, 96, 97, 98, 40, 99, 90, 69, 91, 113, 114, 115, 23, 116, 117, 118, 119, 103, 120, 105, 121, 122, 123, 124, 125, 126, 127, 128, 129, 130, 21, 22, 24, 131, 132, 133, 134, 60, 61, 62, 63, 135, 136, 137, 138, 139, 107, 140, 141, 142, 143, 108, 144, 145, 146, 147, 148, 149, 150, 151, 152, 88, 89, 153, 154, 155, 156, 157, 158, 159, 160, 161, 162, 163, 164, 165, 166, 167, 168, 169, 170, 171, 172, 173, 174, 175, 176, 177, 178, 71, 72, 73, 179, 180, 181, 182, 183, 184, 185, 186, 187, 188, 189, 190, 191, 192, 193, 194, 195, 196, 197, 198, 199, 200, 201, 202, 203, 204, 205, 206, 207, 208, 209, 210, 211, 212, 213, 214, 215, 216, 224, 225, 226, 227, 228, 229, 230, 231, 232, 233, 234, 235, 236, 237, 238, 239, 240, 241, 242, 243, 244, 245, 246, 247, 248, 249, 250] (by decide +kernel) (by decide +kernel)
set_option maxRecDepth 20000 in
theorem gX5_join_X2_enter : GoodIn wsX5_join (wsV RX5 100 RX2 yX2_enter wsX2_enter) := goodIn_app (goodIn_of _ (by decide +kernel)) ggX5_join_X2_enter
theorem dX5_join_0 : decode cX5_join 0 = .ok (.iload_n 3, 1) := by decide +kernel
theorem dX5_join_1 : decode cX5_join 1 = .ok (.iconst 0, 1) := by decide +kernel
theorem dX5_join_2 : decode cX5_join 2 = .ok (.ldc 76, 2) := by decide +kernel
theorem dX5_join_4 : decode cX5_join 4 = .ok (.invokestatic 43, 3) := by decide +kernel
theorem dX5_join_7 : decode cX5_join 7 = .ok (.aload_n 0, 1) := by decide +kernel
theorem dX5_join_8 : decode cX5_join 8 = .ok (.iload_n 1, 1) := by decide +kernel
theorem dX5_join_9 : decode cX5_join 9 = .ok (.iload_n 2, 1) := by decide +kernel
theorem dX5_join_10 : decode cX5_join 10 = .ok (.iload 4, 2) := by decide +kernel
theorem dX5_join_12 : decode cX5_join 12 = .ok (.invokevirtual 86, 3) := by decide +kernel
theorem dX5_join_15 : decode cX5_join 15 = .ok (.invokestatic 66, 3) := by decide +kernel
theorem dX5_join_18 : decode cX5_join 18 = .ok (.aload_n 0, 1) := by decide +kernel
theorem dX5_join_19 : decode cX5_join 19 = .ok (.getfield 26, 3) := by decide +kernel
theorem dX5_join_22 : decode cX5_join 22 = .ok (.iload_n 1, 1) := by decide +kernel
theorem dX5_join_23 : decode cX5_join 23 = .ok (.iload_n 3, 1) := by decide +kernel
theorem dX5_join_24 : decode cX5_join 24 = .ok (.invokevirtual 89, 3) := by decide +kernel
theorem dX5_join_27 : decode cX5_join 27 = .ok (.ifCond .ne 13, 3) := by decide +kernel
theorem dX5_join_30 : decode cX5_join 30 = .ok (.new 93, 3) := by decide +kernel
theorem dX5_join_33 : decode cX5_join 33 = .ok (.dup, 1) := by decide +kernel
theorem dX5_join_34 : decode cX5_join 34 = .ok (.ldc 95, 2) := by decide +kernel
theorem dX5_join_36 : decode cX5_join 36 = .ok (.invokespecial 97, 3) := by decide +kernel
theorem dX5_join_39 : decode cX5_join 39 = .ok (.athrow, 1) := by decide +kernel
theorem dX5_join_40 : decode cX5_join 40 = .ok (.aload_n 0, 1) := by decide +kernel
theorem dX5_join_41 : decode cX5_join 41 = .ok (.invokevirtual 47, 3) := by decide +kernel
theorem dX5_join_44 : decode cX5_join 44 = .ok (.aload_n 0, 1) := by decide +kernel
theorem dX5_join_45 : decode cX5_join 45 = .ok (.getfield 26, 3) := by decide +kernel
theorem dX5_join_48 : decode cX5_join 48 = .ok (.aload_n 0, 1) := by decide +kernel
theorem dX5_join_49 : decode cX5_join 49 = .ok (.getfield 10, 3) := by decide +kernel
theorem dX5_join_52 : decode cX5_join 52 = .ok (.iload_n 1, 1) := by decide +kernel
theorem dX5_join_53 : decode cX5_join 53 = .ok (.iload_n 2, 1) := by decide +kernel
theorem dX5_join_54 : decode cX5_join 54 = .ok (.iload 4, 2) := by decide +kernel
theorem dX5_join_56 : decode cX5_join 56 = .ok (.invokevirtual 100, 3) := by decide +kernel
theorem dX5_join_59 : decode cX5_join 59 = .ok (.ireturn, 1) := by decide +kernel
set_option maxRecDepth 20000 in
theorem ggX5_admit_X5_admissionFault : GoodIn wsX5_admit wsX5_admissionFault := goodIn_r _ [7, 1, 8, 9, 10, 6, 11, 12, 13, 14, 15, 16, 17, 18, 19, 20, 21, 22, 23, 24, 25, 26, 27, 28, 29, 30, 31, 32, 33, 34, 35, 36, 37, 38, 39, 40, 41, 42, 43, 44, 45, 46, 47, 48, 49, 50, 51, 52, 53, 54, 55, 56, 57, 58, 59, 60, 61, 62, 215, 216, 217, 218, 219, 220, 221, 222, 223, 224, 225, 226, 227, 228, 229, 230, 231, 232, 233, 234, 235] (by decide +kernel) (by decide +kernel)
set_option maxRecDepth 20000 in
theorem gX5_admit_X5_admissionFault : GoodIn wsX5_admit (wsV RX5 104 RX5 yX5_admissionFault wsX5_admissionFault) := goodIn_app (goodIn_of _ (by decide +kernel)) ggX5_admit_X5_admissionFault
set_option maxRecDepth 20000 in
theorem ggX5_admit_X5_raise : GoodIn wsX5_admit wsX5_raise := goodIn_ca (goodIn_ca (goodIn_ca (goodIn_r _ [65, 66, 67, 68, 69, 70, 71] (by decide +kernel) (by decide +kernel)) (goodIn_sub (fun _ h => List.mem_cons_of_mem _ (List.mem_append_left _ (List.mem_append_left _ (List.mem_append_right _ h)))) (by decide +kernel))) (goodIn_sub (fun _ h => List.mem_cons_of_mem _ (List.mem_append_left _ (List.mem_append_right _ h))) (by decide +kernel))) (goodIn_sub (fun _ h => List.mem_cons_of_mem _ (List.mem_append_right _ h)) (by decide +kernel))
set_option maxRecDepth 20000 in
theorem gX5_admit_X5_raise : GoodIn wsX5_admit (va_wsS RX5 66 yX5_raise wsX5_raise) := goodIn_app (goodIn_of _ (by decide +kernel)) ggX5_admit_X5_raise
set_option maxRecDepth 20000 in
theorem ggX5_admit_X5_save : GoodIn wsX5_admit wsX5_save := goodIn_r _ [75, 76, 77, 78, 1, 79, 80, 51, 52, 53, 81, 82, 83, 19, 84, 48, 85, 32, 86, 87, 33, 49, 88, 89, 90, 91, 92, 93, 21, 94, 95, 96, 97, 98, 99, 100, 101, 102, 103, 104, 105, 106, 215, 216, 217, 218, 219, 220, 221, 222, 223, 224, 225, 226, 227, 228, 229, 230, 231, 232, 233, 234, 235, 236, 237, 238] (by decide +kernel) (by decide +kernel)
set_option maxRecDepth 20000 in
theorem gX5_admit_X5_save : GoodIn wsX5_admit (wsV RX5 47 RX5 yX5_save wsX5_save) := goodIn_app (goodIn_of _ (by decide +kernel)) ggX5_admit_X5_save
set_option maxRecDepth 20000 in
theorem ggX5_admit_X2_enter : GoodIn wsX5_admit wsX2_enter := goodIn_r _ [110, 21, 94, 95, 96, 33, 97, 88, 49, 89, 111, 112, 113, 19, 114, 115, 116, 117, 101, 118, 103, 119, 120, 121, 122, 123, 124, 125, 126, 127, 128, 17, 18, 20, 129, 130, 131, 132, 59, 60, 61, 62, 133, 134, 135, 136, 137, 105, 138, 139, 140, 141, 106, 142, 143, 144, 145, 146, 147, 148, 149, 150, 86, 87, 151, 152, 153, 154, 155, 156, 157, 158, 159, 160, 161, 162, 163, 164, 165, 166, 167, 168, 169, 170, 171, 172, 173, 174, 175, 176, 51, 52, 53, 177, 178, 179, 180, 181, 182, 183, 184, 185, 186, 187, 188, 189, 190, 191, 192, 193, 194, 195, 196, 197, 198, 199, 200, 201, 202, 203, 204, 205, 206, 207, 208, 209, 210, 211, 212, 213, 214, 222, 223, 224, 225, 226, 227, 228, 229, 230, 231, 232, 233, 234, 235, 236, 237, 238, 239, 240, 241, 242, 243, 244, 245, 246, 247, 248] (by decide +kernel) (by decide +kernel)
set_option maxRecDepth 20000 in
theorem gX5_admit_X2_enter : GoodIn wsX5_admit (wsV RX5 100 RX2 yX2_enter wsX2_enter) := goodIn_app (goodIn_of _ (by decide +kernel)) ggX5_admit_X2_enter
theorem dX5_admit_0 : decode cX5_admit 0 = .ok (.aload_n 0, 1) := by decide +kernel
theorem dX5_admit_1 : decode cX5_admit 1 = .ok (.iload_n 1, 1) := by decide +kernel
theorem dX5_admit_2 : decode cX5_admit 2 = .ok (.iload_n 2, 1) := by decide +kernel
theorem dX5_admit_3 : decode cX5_admit 3 = .ok (.iload_n 3, 1) := by decide +kernel
theorem dX5_admit_4 : decode cX5_admit 4 = .ok (.invokevirtual 104, 3) := by decide +kernel
theorem dX5_admit_7 : decode cX5_admit 7 = .ok (.invokestatic 66, 3) := by decide +kernel
theorem dX5_admit_10 : decode cX5_admit 10 = .ok (.aload_n 0, 1) := by decide +kernel
theorem dX5_admit_11 : decode cX5_admit 11 = .ok (.invokevirtual 47, 3) := by decide +kernel
theorem dX5_admit_14 : decode cX5_admit 14 = .ok (.aload_n 0, 1) := by decide +kernel
theorem dX5_admit_15 : decode cX5_admit 15 = .ok (.getfield 26, 3) := by decide +kernel
theorem dX5_admit_18 : decode cX5_admit 18 = .ok (.aload_n 0, 1) := by decide +kernel
theorem dX5_admit_19 : decode cX5_admit 19 = .ok (.getfield 10, 3) := by decide +kernel
theorem dX5_admit_22 : decode cX5_admit 22 = .ok (.iload_n 1, 1) := by decide +kernel
theorem dX5_admit_23 : decode cX5_admit 23 = .ok (.iload_n 2, 1) := by decide +kernel
theorem dX5_admit_24 : decode cX5_admit 24 = .ok (.iload_n 3, 1) := by decide +kernel
theorem dX5_admit_25 : decode cX5_admit 25 = .ok (.invokevirtual 100, 3) := by decide +kernel
theorem dX5_admit_28 : decode cX5_admit 28 = .ok (.ireturn, 1) := by decide +kernel
set_option maxRecDepth 20000 in
theorem ggX5_leave_X5_memberFault : GoodIn wsX5_leave wsX5_memberFault := goodIn_r _ [7, 1, 8, 9, 6, 10, 11, 12, 13, 14, 15, 16, 73, 74, 75, 76, 77, 78, 79, 80, 81, 82, 83, 84, 85, 86, 87, 88, 89, 90, 91, 92, 93] (by decide +kernel) (by decide +kernel)
set_option maxRecDepth 20000 in
theorem gX5_leave_X5_memberFault : GoodIn wsX5_leave (wsV RX5 107 RX5 yX5_memberFault wsX5_memberFault) := goodIn_app (goodIn_of _ (by decide +kernel)) ggX5_leave_X5_memberFault
set_option maxRecDepth 20000 in
theorem ggX5_leave_X5_raise : GoodIn wsX5_leave wsX5_raise := goodIn_ca (goodIn_ca (goodIn_ca (goodIn_r _ [19, 20, 21, 22, 23, 24, 25] (by decide +kernel) (by decide +kernel)) (goodIn_sub (fun _ h => List.mem_cons_of_mem _ (List.mem_append_left _ (List.mem_append_left _ (List.mem_append_right _ h)))) (by decide +kernel))) (goodIn_sub (fun _ h => List.mem_cons_of_mem _ (List.mem_append_left _ (List.mem_append_right _ h))) (by decide +kernel))) (goodIn_sub (fun _ h => List.mem_cons_of_mem _ (List.mem_append_right _ h)) (by decide +kernel))
set_option maxRecDepth 20000 in
theorem gX5_leave_X5_raise : GoodIn wsX5_leave (va_wsS RX5 66 yX5_raise wsX5_raise) := goodIn_app (goodIn_of _ (by decide +kernel)) ggX5_leave_X5_raise
set_option maxRecDepth 20000 in
theorem ggX5_leave_X5_save : GoodIn wsX5_leave wsX5_save := goodIn_r _ [29, 30, 31, 32, 1, 33, 34, 35, 36, 37, 38, 39, 40, 14, 41, 42, 43, 44, 45, 46, 47, 48, 49, 50, 51, 52, 53, 54, 16, 55, 56, 57, 58, 59, 60, 61, 62, 63, 64, 65, 66, 67, 73, 74, 75, 76, 77, 78, 79, 80, 81, 82, 83, 84, 85, 86, 87, 88, 89, 90, 91, 92, 93, 94, 95, 96] (by decide +kernel) (by decide +kernel)
set_option maxRecDepth 20000 in
theorem gX5_leave_X5_save : GoodIn wsX5_leave (wsV RX5 47 RX5 yX5_save wsX5_save) := goodIn_app (goodIn_of _ (by decide +kernel)) ggX5_leave_X5_save
set_option maxRecDepth 20000 in
theorem ggX5_leave_X2_endIdentity : GoodIn wsX5_leave wsX2_endIdentity := goodIn_r _ [71, 55, 16, 49, 50, 72, 12, 13, 14, 15, 80, 81, 82, 83, 84, 85, 86, 87, 88, 89, 90, 91, 92, 93] (by decide +kernel) (by decide +kernel)
set_option maxRecDepth 20000 in
theorem gX5_leave_X2_endIdentity : GoodIn wsX5_leave (wsV RX5 110 RX2 yX2_endIdentity wsX2_endIdentity) := goodIn_app (goodIn_of _ (by decide +kernel)) ggX5_leave_X2_endIdentity
theorem dX5_leave_0 : decode cX5_leave 0 = .ok (.aload_n 0, 1) := by decide +kernel
theorem dX5_leave_1 : decode cX5_leave 1 = .ok (.iload_n 1, 1) := by decide +kernel
theorem dX5_leave_2 : decode cX5_leave 2 = .ok (.invokevirtual 107, 3) := by decide +kernel
theorem dX5_leave_5 : decode cX5_leave 5 = .ok (.invokestatic 66, 3) := by decide +kernel
theorem dX5_leave_8 : decode cX5_leave 8 = .ok (.aload_n 0, 1) := by decide +kernel
theorem dX5_leave_9 : decode cX5_leave 9 = .ok (.invokevirtual 47, 3) := by decide +kernel
theorem dX5_leave_12 : decode cX5_leave 12 = .ok (.aload_n 0, 1) := by decide +kernel
theorem dX5_leave_13 : decode cX5_leave 13 = .ok (.getfield 26, 3) := by decide +kernel
theorem dX5_leave_16 : decode cX5_leave 16 = .ok (.iload_n 1, 1) := by decide +kernel
theorem dX5_leave_17 : decode cX5_leave 17 = .ok (.invokevirtual 110, 3) := by decide +kernel
theorem dX5_leave_20 : decode cX5_leave 20 = .ok (.aload_n 0, 1) := by decide +kernel
theorem dX5_leave_21 : decode cX5_leave 21 = .ok (.getfield 26, 3) := by decide +kernel
theorem dX5_leave_24 : decode cX5_leave 24 = .ok (.getfield 113, 3) := by decide +kernel
theorem dX5_leave_27 : decode cX5_leave 27 = .ok (.ireturn, 1) := by decide +kernel
set_option maxRecDepth 20000 in
theorem ggX5_swarm_X5_refuseOutside : GoodIn wsX5_swarm wsX5_refuseOutside := goodIn_ca (goodIn_r _ [6, 7, 8, 9, 10, 5, 11] (by decide +kernel) (by decide +kernel)) (goodIn_sub (fun _ h => List.mem_cons_of_mem _ (List.mem_append_left _ (List.mem_append_left _ (List.mem_append_right _ h)))) (by decide +kernel))
set_option maxRecDepth 20000 in
theorem gX5_swarm_X5_refuseOutside : GoodIn wsX5_swarm (va_wsS RX5 43 yX5_refuseOutside wsX5_refuseOutside) := goodIn_app (goodIn_of _ (by decide +kernel)) ggX5_swarm_X5_refuseOutside
set_option maxRecDepth 20000 in
theorem ggX5_swarm_X5_memberFault : GoodIn wsX5_swarm wsX5_memberFault := goodIn_r _ [15, 1, 9, 10, 5, 11, 16, 17, 18, 19, 20, 21, 222, 223, 224, 225, 226, 227, 228, 229, 230, 231, 232, 233, 234, 235, 236, 237, 238, 239, 240, 241, 242] (by decide +kernel) (by decide +kernel)
set_option maxRecDepth 20000 in
theorem gX5_swarm_X5_memberFault : GoodIn wsX5_swarm (wsV RX5 107 RX5 yX5_memberFault wsX5_memberFault) := goodIn_app (goodIn_of _ (by decide +kernel)) ggX5_swarm_X5_memberFault
set_option maxRecDepth 20000 in
theorem ggX5_swarm_X5_raise : GoodIn wsX5_swarm wsX5_raise := goodIn_ca (goodIn_ca (goodIn_ca (goodIn_r _ [24, 7, 8, 25, 26, 27, 28] (by decide +kernel) (by decide +kernel)) (goodIn_sub (fun _ h => List.mem_cons_of_mem _ (List.mem_append_left _ (List.mem_append_left _ (List.mem_append_right _ h)))) (by decide +kernel))) (goodIn_sub (fun _ h => List.mem_cons_of_mem _ (List.mem_append_left _ (List.mem_append_right _ h))) (by decide +kernel))) (goodIn_sub (fun _ h => List.mem_cons_of_mem _ (List.mem_append_right _ h)) (by decide +kernel))
set_option maxRecDepth 20000 in
theorem gX5_swarm_X5_raise : GoodIn wsX5_swarm (va_wsS RX5 66 yX5_raise wsX5_raise) := goodIn_app (goodIn_of _ (by decide +kernel)) ggX5_swarm_X5_raise
set_option maxRecDepth 20000 in
theorem ggX5_swarm_X5_save : GoodIn wsX5_swarm wsX5_save := goodIn_r _ [32, 33, 34, 35, 1, 36, 37, 38, 39, 40, 41, 42, 43, 19, 44, 45, 46, 47, 48, 49, 50, 51, 52, 53, 54, 55, 56, 57, 21, 58, 59, 60, 61, 62, 63, 64, 65, 66, 67, 68, 69, 70, 222, 223, 224, 225, 226, 227, 228, 229, 230, 231, 232, 233, 234, 235, 236, 237, 238, 239, 240, 241, 242, 243, 244, 245] (by decide +kernel) (by decide +kernel)
set_option maxRecDepth 20000 in
theorem gX5_swarm_X5_save : GoodIn wsX5_swarm (wsV RX5 47 RX5 yX5_save wsX5_save) := goodIn_app (goodIn_of _ (by decide +kernel)) ggX5_swarm_X5_save
set_option maxRecDepth 20000 in
theorem ggX5_swarm_X5_admissionFault : GoodIn wsX5_swarm wsX5_admissionFault := goodIn_r _ [74, 1, 75, 76, 77, 5, 78, 79, 9, 10, 11, 16, 17, 18, 19, 20, 21, 80, 81, 82, 83, 84, 85, 86, 87, 88, 89, 47, 50, 90, 91, 92, 93, 94, 95, 96, 97, 98, 99, 100, 101, 102, 103, 45, 51, 104, 38, 39, 40, 105, 106, 107, 108, 109, 110, 111, 112, 113, 222, 223, 224, 225, 226, 227, 228, 229, 230, 231, 232, 233, 234, 235, 236, 237, 238, 239, 240, 241, 242] (by decide +kernel) (by decide +kernel)
set_option maxRecDepth 20000 in
theorem gX5_swarm_X5_admissionFault : GoodIn wsX5_swarm (wsV RX5 104 RX5 yX5_admissionFault wsX5_admissionFault) := goodIn_app (goodIn_of _ (by decide +kernel)) ggX5_swarm_X5_admissionFault
set_option maxRecDepth 20000 in
theorem ggX5_swarm_X2_enter : GoodIn wsX5_swarm wsX2_enter := goodIn_r _ [117, 21, 58, 59, 60, 50, 61, 52, 51, 53, 118, 119, 120, 19, 121, 122, 123, 124, 65, 125, 67, 126, 127, 128, 129, 130, 131, 132, 133, 134, 135, 17, 18, 20, 136, 137, 138, 139, 110, 111, 112, 113, 140, 141, 142, 143, 144, 69, 145, 146, 147, 148, 70, 149, 150, 151, 152, 153, 154, 155, 156, 157, 48, 49, 158, 159, 160, 161, 162, 163, 164, 165, 166, 167, 168, 169, 170, 171, 172, 173, 174, 175, 176, 177, 178, 179, 180, 181, 182, 183, 38, 39, 40, 184, 185, 186, 187, 188, 189, 190, 191, 192, 193, 194, 195, 196, 197, 198, 199, 200, 201, 202, 203, 204, 205, 206, 207, 208, 209, 210, 211, 212, 213, 214, 215, 216, 217, 218, 219, 220, 221, 229, 230, 231, 232, 233, 234, 235, 236, 237, 238, 239, 240, 241, 242, 243, 244, 245, 246, 247, 248, 249, 250, 251, 252, 253, 254, 255] (by decide +kernel) (by decide +kernel)
set_option maxRecDepth 20000 in
theorem gX5_swarm_X2_enter : GoodIn wsX5_swarm (wsV RX5 100 RX2 yX2_enter wsX2_enter) := goodIn_app (goodIn_of _ (by decide +kernel)) ggX5_swarm_X2_enter
theorem dX5_swarm_0 : decode cX5_swarm 0 = .ok (.iload_n 1, 1) := by decide +kernel
theorem dX5_swarm_1 : decode cX5_swarm 1 = .ok (.iconst 0, 1) := by decide +kernel
theorem dX5_swarm_2 : decode cX5_swarm 2 = .ok (.sipush 255, 3) := by decide +kernel
theorem dX5_swarm_5 : decode cX5_swarm 5 = .ok (.invokestatic 43, 3) := by decide +kernel
theorem dX5_swarm_8 : decode cX5_swarm 8 = .ok (.iload_n 2, 1) := by decide +kernel
theorem dX5_swarm_9 : decode cX5_swarm 9 = .ok (.iconst 1, 1) := by decide +kernel
theorem dX5_swarm_10 : decode cX5_swarm 10 = .ok (.sipush 255, 3) := by decide +kernel
theorem dX5_swarm_13 : decode cX5_swarm 13 = .ok (.invokestatic 43, 3) := by decide +kernel
theorem dX5_swarm_16 : decode cX5_swarm 16 = .ok (.iload_n 3, 1) := by decide +kernel
theorem dX5_swarm_17 : decode cX5_swarm 17 = .ok (.iconst 1, 1) := by decide +kernel
theorem dX5_swarm_18 : decode cX5_swarm 18 = .ok (.bipush 16, 2) := by decide +kernel
theorem dX5_swarm_20 : decode cX5_swarm 20 = .ok (.invokestatic 43, 3) := by decide +kernel
theorem dX5_swarm_23 : decode cX5_swarm 23 = .ok (.iload 4, 2) := by decide +kernel
theorem dX5_swarm_25 : decode cX5_swarm 25 = .ok (.iconst 0, 1) := by decide +kernel
theorem dX5_swarm_26 : decode cX5_swarm 26 = .ok (.bipush 7, 2) := by decide +kernel
theorem dX5_swarm_28 : decode cX5_swarm 28 = .ok (.invokestatic 43, 3) := by decide +kernel
theorem dX5_swarm_31 : decode cX5_swarm 31 = .ok (.aload_n 0, 1) := by decide +kernel
theorem dX5_swarm_32 : decode cX5_swarm 32 = .ok (.iload 5, 2) := by decide +kernel
theorem dX5_swarm_34 : decode cX5_swarm 34 = .ok (.invokevirtual 107, 3) := by decide +kernel
theorem dX5_swarm_37 : decode cX5_swarm 37 = .ok (.invokestatic 66, 3) := by decide +kernel
theorem dX5_swarm_40 : decode cX5_swarm 40 = .ok (.aload_n 0, 1) := by decide +kernel
theorem dX5_swarm_41 : decode cX5_swarm 41 = .ok (.invokevirtual 47, 3) := by decide +kernel
theorem dX5_swarm_44 : decode cX5_swarm 44 = .ok (.iconst 0, 1) := by decide +kernel
theorem dX5_swarm_45 : decode cX5_swarm 45 = .ok (.istore 6, 2) := by decide +kernel
theorem dX5_swarm_47 : decode cX5_swarm 47 = .ok (.iconst 0, 1) := by decide +kernel
theorem dX5_swarm_48 : decode cX5_swarm 48 = .ok (.istore 7, 2) := by decide +kernel
theorem dX5_swarm_50 : decode cX5_swarm 50 = .ok (.iload 7, 2) := by decide +kernel
theorem dX5_swarm_52 : decode cX5_swarm 52 = .ok (.iload_n 3, 1) := by decide +kernel
theorem dX5_swarm_53 : decode cX5_swarm 53 = .ok (.if_icmp .ge 55, 3) := by decide +kernel
theorem dX5_swarm_56 : decode cX5_swarm 56 = .ok (.iload_n 1, 1) := by decide +kernel
theorem dX5_swarm_57 : decode cX5_swarm 57 = .ok (.iload 7, 2) := by decide +kernel
theorem dX5_swarm_59 : decode cX5_swarm 59 = .ok (.iload_n 2, 1) := by decide +kernel
theorem dX5_swarm_60 : decode cX5_swarm 60 = .ok (.imul, 1) := by decide +kernel
theorem dX5_swarm_61 : decode cX5_swarm 61 = .ok (.iadd, 1) := by decide +kernel
theorem dX5_swarm_62 : decode cX5_swarm 62 = .ok (.sipush 255, 3) := by decide +kernel
theorem dX5_swarm_65 : decode cX5_swarm 65 = .ok (.iand, 1) := by decide +kernel
theorem dX5_swarm_66 : decode cX5_swarm 66 = .ok (.istore 8, 2) := by decide +kernel
theorem dX5_swarm_68 : decode cX5_swarm 68 = .ok (.aload_n 0, 1) := by decide +kernel
theorem dX5_swarm_69 : decode cX5_swarm 69 = .ok (.iload 8, 2) := by decide +kernel
theorem dX5_swarm_71 : decode cX5_swarm 71 = .ok (.iload 4, 2) := by decide +kernel
theorem dX5_swarm_73 : decode cX5_swarm 73 = .ok (.iload 5, 2) := by decide +kernel
theorem dX5_swarm_75 : decode cX5_swarm 75 = .ok (.invokevirtual 104, 3) := by decide +kernel
theorem dX5_swarm_78 : decode cX5_swarm 78 = .ok (.ifCond .ne 24, 3) := by decide +kernel
theorem dX5_swarm_81 : decode cX5_swarm 81 = .ok (.aload_n 0, 1) := by decide +kernel
theorem dX5_swarm_82 : decode cX5_swarm 82 = .ok (.getfield 26, 3) := by decide +kernel
theorem dX5_swarm_85 : decode cX5_swarm 85 = .ok (.aload_n 0, 1) := by decide +kernel
theorem dX5_swarm_86 : decode cX5_swarm 86 = .ok (.getfield 10, 3) := by decide +kernel
theorem dX5_swarm_89 : decode cX5_swarm 89 = .ok (.iload 8, 2) := by decide +kernel
theorem dX5_swarm_91 : decode cX5_swarm 91 = .ok (.iload 4, 2) := by decide +kernel
theorem dX5_swarm_93 : decode cX5_swarm 93 = .ok (.iload 5, 2) := by decide +kernel
theorem dX5_swarm_95 : decode cX5_swarm 95 = .ok (.invokevirtual 100, 3) := by decide +kernel
theorem dX5_swarm_98 : decode cX5_swarm 98 = .ok (.pop, 1) := by decide +kernel
theorem dX5_swarm_99 : decode cX5_swarm 99 = .ok (.iinc 6 1, 3) := by decide +kernel
theorem dX5_swarm_102 : decode cX5_swarm 102 = .ok (.iinc 7 1, 3) := by decide +kernel
theorem dX5_swarm_105 : decode cX5_swarm 105 = .ok (.goto (-55), 3) := by decide +kernel
theorem dX5_swarm_108 : decode cX5_swarm 108 = .ok (.iload 6, 2) := by decide +kernel
theorem dX5_swarm_110 : decode cX5_swarm 110 = .ok (.ireturn, 1) := by decide +kernel
set_option maxRecDepth 20000 in
theorem ggX5_lookup_X5_lookupFault : GoodIn wsX5_lookup wsX5_lookupFault := goodIn_r _ [7, 8, 9, 6, 10, 11, 12, 13, 14, 1, 15, 16, 17, 18, 19, 20, 167, 168, 169, 170, 171, 172, 173, 174, 175, 176, 177, 178, 179, 180, 181, 182, 183, 184, 185, 186, 187] (by decide +kernel) (by decide +kernel)
set_option maxRecDepth 20000 in
theorem gX5_lookup_X5_lookupFault : GoodIn wsX5_lookup (wsV RX5 116 RX5 yX5_lookupFault wsX5_lookupFault) := goodIn_app (goodIn_of _ (by decide +kernel)) ggX5_lookup_X5_lookupFault
set_option maxRecDepth 20000 in
theorem ggX5_lookup_X5_raise : GoodIn wsX5_lookup wsX5_raise := goodIn_ca (goodIn_ca (goodIn_ca (goodIn_r _ [23, 24, 25, 26, 27, 28, 29] (by decide +kernel) (by decide +kernel)) (goodIn_sub (fun _ h => List.mem_cons_of_mem _ (List.mem_append_left _ (List.mem_append_left _ (List.mem_append_right _ h)))) (by decide +kernel))) (goodIn_sub (fun _ h => List.mem_cons_of_mem _ (List.mem_append_left _ (List.mem_append_right _ h))) (by decide +kernel))) (goodIn_sub (fun _ h => List.mem_cons_of_mem _ (List.mem_append_right _ h)) (by decide +kernel))
set_option maxRecDepth 20000 in
theorem gX5_lookup_X5_raise : GoodIn wsX5_lookup (va_wsS RX5 66 yX5_raise wsX5_raise) := goodIn_app (goodIn_of _ (by decide +kernel)) ggX5_lookup_X5_raise
set_option maxRecDepth 20000 in
theorem ggX5_lookup_X5_save : GoodIn wsX5_lookup wsX5_save := goodIn_r _ [33, 34, 35, 36, 1, 37, 38, 39, 40, 41, 42, 43, 44, 18, 45, 46, 47, 48, 49, 50, 51, 52, 53, 54, 55, 56, 57, 58, 20, 59, 60, 61, 62, 63, 64, 65, 66, 67, 68, 69, 70, 71, 167, 168, 169, 170, 171, 172, 173, 174, 175, 176, 177, 178, 179, 180, 181, 182, 183, 184, 185, 186, 187, 188, 189, 190] (by decide +kernel) (by decide +kernel)
set_option maxRecDepth 20000 in
theorem gX5_lookup_X5_save : GoodIn wsX5_lookup (wsV RX5 47 RX5 yX5_save wsX5_save) := goodIn_app (goodIn_of _ (by decide +kernel)) ggX5_lookup_X5_save
set_option maxRecDepth 20000 in
theorem ggX5_lookup_X2_makeLookup : GoodIn wsX5_lookup wsX2_makeLookup := goodIn_r _ [75, 54, 76, 77, 78, 79, 80, 81, 82, 83, 84, 85, 86, 87, 88, 89, 90, 91, 92, 39, 40, 41, 93, 94, 95, 96, 97, 98, 99, 100, 101, 102, 103, 104, 105, 16, 17, 18, 19, 20, 106, 107, 66, 108, 109, 110, 111, 112, 113, 114, 115, 116, 117, 118, 119, 120, 121, 122, 123, 124, 59, 125, 126, 127, 128, 129, 60, 62, 130, 131, 132, 133, 134, 135, 136, 137, 138, 139, 140, 141, 142, 143, 144, 68, 70, 145, 146, 147, 148, 71, 149, 150, 151, 152, 153, 154, 155, 156, 157, 49, 50, 158, 159, 160, 161, 162, 163, 164, 165, 166, 174, 175, 176, 177, 178, 179, 180, 181, 182, 183, 184, 185, 186, 187, 191, 192, 193, 194, 195, 196, 197, 198, 199, 200, 188, 189, 190] (by decide +kernel) (by decide +kernel)
set_option maxRecDepth 20000 in
theorem gX5_lookup_X2_makeLookup : GoodIn wsX5_lookup (wsV RX5 120 RX2 yX2_makeLookup wsX2_makeLookup) := goodIn_app (goodIn_of _ (by decide +kernel)) ggX5_lookup_X2_makeLookup
theorem dX5_lookup_0 : decode cX5_lookup 0 = .ok (.aload_n 0, 1) := by decide +kernel
theorem dX5_lookup_1 : decode cX5_lookup 1 = .ok (.iload_n 1, 1) := by decide +kernel
theorem dX5_lookup_2 : decode cX5_lookup 2 = .ok (.iload_n 2, 1) := by decide +kernel
theorem dX5_lookup_3 : decode cX5_lookup 3 = .ok (.invokevirtual 116, 3) := by decide +kernel
theorem dX5_lookup_6 : decode cX5_lookup 6 = .ok (.invokestatic 66, 3) := by decide +kernel
theorem dX5_lookup_9 : decode cX5_lookup 9 = .ok (.aload_n 0, 1) := by decide +kernel
theorem dX5_lookup_10 : decode cX5_lookup 10 = .ok (.invokevirtual 47, 3) := by decide +kernel
theorem dX5_lookup_13 : decode cX5_lookup 13 = .ok (.aload_n 0, 1) := by decide +kernel
theorem dX5_lookup_14 : decode cX5_lookup 14 = .ok (.getfield 26, 3) := by decide +kernel
theorem dX5_lookup_17 : decode cX5_lookup 17 = .ok (.aload_n 0, 1) := by decide +kernel
theorem dX5_lookup_18 : decode cX5_lookup 18 = .ok (.getfield 10, 3) := by decide +kernel
theorem dX5_lookup_21 : decode cX5_lookup 21 = .ok (.iload_n 1, 1) := by decide +kernel
theorem dX5_lookup_22 : decode cX5_lookup 22 = .ok (.iload_n 2, 1) := by decide +kernel
theorem dX5_lookup_23 : decode cX5_lookup 23 = .ok (.invokevirtual 120, 3) := by decide +kernel
theorem dX5_lookup_26 : decode cX5_lookup 26 = .ok (.ireturn, 1) := by decide +kernel
set_option maxRecDepth 20000 in
theorem ggX5_probe_X5_refuseOutside : GoodIn wsX5_probe wsX5_refuseOutside := goodIn_ca (goodIn_r _ [10, 11, 12, 13, 14, 9, 15] (by decide +kernel) (by decide +kernel)) (goodIn_sub (fun _ h => List.mem_cons_of_mem _ (List.mem_append_left _ (List.mem_append_left _ (List.mem_append_right _ h)))) (by decide +kernel))
set_option maxRecDepth 20000 in
theorem gX5_probe_X5_refuseOutside : GoodIn wsX5_probe (va_wsS RX5 43 yX5_refuseOutside wsX5_refuseOutside) := goodIn_app (goodIn_of _ (by decide +kernel)) ggX5_probe_X5_refuseOutside
set_option maxRecDepth 20000 in
theorem ggX5_probe_X5_lookupFault : GoodIn wsX5_probe wsX5_lookupFault := goodIn_r _ [19, 13, 14, 9, 15, 20, 21, 22, 23, 2, 24, 25, 26, 27, 28, 29, 86, 87, 88, 89, 90, 91, 92, 103, 104, 105, 106, 107, 108, 109, 110, 111, 112, 113, 114, 115, 116] (by decide +kernel) (by decide +kernel)
set_option maxRecDepth 20000 in
theorem gX5_probe_X5_lookupFault : GoodIn wsX5_probe (wsV RX5 116 RX5 yX5_lookupFault wsX5_lookupFault) := goodIn_app (goodIn_of _ (by decide +kernel)) ggX5_probe_X5_lookupFault
set_option maxRecDepth 20000 in
theorem ggX5_probe_X5_raise : GoodIn wsX5_probe wsX5_raise := goodIn_ca (goodIn_ca (goodIn_ca (goodIn_r _ [32, 11, 12, 33, 34, 35, 36] (by decide +kernel) (by decide +kernel)) (goodIn_sub (fun _ h => List.mem_cons_of_mem _ (List.mem_append_left _ (List.mem_append_left _ (List.mem_append_right _ h)))) (by decide +kernel))) (goodIn_sub (fun _ h => List.mem_cons_of_mem _ (List.mem_append_left _ (List.mem_append_right _ h))) (by decide +kernel))) (goodIn_sub (fun _ h => List.mem_cons_of_mem _ (List.mem_append_right _ h)) (by decide +kernel))
set_option maxRecDepth 20000 in
theorem gX5_probe_X5_raise : GoodIn wsX5_probe (va_wsS RX5 66 yX5_raise wsX5_raise) := goodIn_app (goodIn_of _ (by decide +kernel)) ggX5_probe_X5_raise
set_option maxRecDepth 20000 in
theorem ggX5_probe_X4_trace : GoodIn wsX5_probe wsX4_trace := goodIn_r _ [41, 42, 43, 44, 45, 46, 47, 48, 49, 50, 51, 52, 53, 54, 55, 56, 40, 57, 58, 59, 60, 61, 62, 63, 64, 25, 26, 27, 28, 29, 65, 66, 67, 68, 69, 70, 71, 72, 73, 74, 75, 76, 77, 78, 79, 80, 81, 82, 83, 84, 85, 93, 94, 95, 96, 97, 98, 99, 100, 101, 102, 103, 104, 105, 106, 107, 108, 109, 110, 111, 112, 113, 114, 115, 116, 117, 118, 119] (by decide +kernel) (by decide +kernel)
set_option maxRecDepth 20000 in
theorem gX5_probe_X4_trace : GoodIn wsX5_probe (wsV RX5 124 RX4 yX4_trace wsX4_trace) := goodIn_app (goodIn_of _ (by decide +kernel)) ggX5_probe_X4_trace
theorem dX5_probe_0 : decode cX5_probe 0 = .ok (.iload_n 3, 1) := by decide +kernel
theorem dX5_probe_1 : decode cX5_probe 1 = .ok (.iconst 0, 1) := by decide +kernel
theorem dX5_probe_2 : decode cX5_probe 2 = .ok (.iconst 3, 1) := by decide +kernel
theorem dX5_probe_3 : decode cX5_probe 3 = .ok (.invokestatic 43, 3) := by decide +kernel
theorem dX5_probe_6 : decode cX5_probe 6 = .ok (.aload_n 0, 1) := by decide +kernel
theorem dX5_probe_7 : decode cX5_probe 7 = .ok (.iload_n 1, 1) := by decide +kernel
theorem dX5_probe_8 : decode cX5_probe 8 = .ok (.iload_n 2, 1) := by decide +kernel
theorem dX5_probe_9 : decode cX5_probe 9 = .ok (.invokevirtual 116, 3) := by decide +kernel
theorem dX5_probe_12 : decode cX5_probe 12 = .ok (.invokestatic 66, 3) := by decide +kernel
theorem dX5_probe_15 : decode cX5_probe 15 = .ok (.aload_n 0, 1) := by decide +kernel
theorem dX5_probe_16 : decode cX5_probe 16 = .ok (.getfield 10, 3) := by decide +kernel
theorem dX5_probe_19 : decode cX5_probe 19 = .ok (.aload_n 0, 1) := by decide +kernel
theorem dX5_probe_20 : decode cX5_probe 20 = .ok (.getfield 26, 3) := by decide +kernel
theorem dX5_probe_23 : decode cX5_probe 23 = .ok (.iload_n 1, 1) := by decide +kernel
theorem dX5_probe_24 : decode cX5_probe 24 = .ok (.iload_n 2, 1) := by decide +kernel
theorem dX5_probe_25 : decode cX5_probe 25 = .ok (.invokevirtual 124, 3) := by decide +kernel
theorem dX5_probe_28 : decode cX5_probe 28 = .ok (.iload_n 3, 1) := by decide +kernel
theorem dX5_probe_29 : decode cX5_probe 29 = .ok (.tableswitch 51 0 2 #[27, 35, 43], 27) := by decide +kernel
theorem dX5_probe_56 : decode cX5_probe 56 = .ok (.aload_n 0, 1) := by decide +kernel
theorem dX5_probe_57 : decode cX5_probe 57 = .ok (.getfield 10, 3) := by decide +kernel
theorem dX5_probe_60 : decode cX5_probe 60 = .ok (.getfield 128, 3) := by decide +kernel
theorem dX5_probe_63 : decode cX5_probe 63 = .ok (.ireturn, 1) := by decide +kernel
theorem dX5_probe_64 : decode cX5_probe 64 = .ok (.aload_n 0, 1) := by decide +kernel
theorem dX5_probe_65 : decode cX5_probe 65 = .ok (.getfield 10, 3) := by decide +kernel
theorem dX5_probe_68 : decode cX5_probe 68 = .ok (.getfield 131, 3) := by decide +kernel
theorem dX5_probe_71 : decode cX5_probe 71 = .ok (.ireturn, 1) := by decide +kernel
theorem dX5_probe_72 : decode cX5_probe 72 = .ok (.aload_n 0, 1) := by decide +kernel
theorem dX5_probe_73 : decode cX5_probe 73 = .ok (.getfield 10, 3) := by decide +kernel
theorem dX5_probe_76 : decode cX5_probe 76 = .ok (.getfield 134, 3) := by decide +kernel
theorem dX5_probe_79 : decode cX5_probe 79 = .ok (.ireturn, 1) := by decide +kernel
theorem dX5_probe_80 : decode cX5_probe 80 = .ok (.aload_n 0, 1) := by decide +kernel
theorem dX5_probe_81 : decode cX5_probe 81 = .ok (.getfield 10, 3) := by decide +kernel
theorem dX5_probe_84 : decode cX5_probe 84 = .ok (.getfield 137, 3) := by decide +kernel
theorem dX5_probe_87 : decode cX5_probe 87 = .ok (.ifCond .eq 7, 3) := by decide +kernel
theorem dX5_probe_90 : decode cX5_probe 90 = .ok (.iconst 1, 1) := by decide +kernel
theorem dX5_probe_91 : decode cX5_probe 91 = .ok (.goto 4, 3) := by decide +kernel
theorem dX5_probe_94 : decode cX5_probe 94 = .ok (.iconst 0, 1) := by decide +kernel
theorem dX5_probe_95 : decode cX5_probe 95 = .ok (.ireturn, 1) := by decide +kernel
set_option maxRecDepth 20000 in
theorem ggX5_reach_X5_memberFault : GoodIn wsX5_reach wsX5_memberFault := goodIn_r _ [8, 2, 9, 10, 7, 11, 12, 13, 14, 15, 16, 17, 76, 77, 78, 79, 80, 81, 82, 93, 94, 95, 96, 97, 98, 99, 100, 101, 102, 103, 104, 105, 106] (by decide +kernel) (by decide +kernel)
set_option maxRecDepth 20000 in
theorem gX5_reach_X5_memberFault : GoodIn wsX5_reach (wsV RX5 107 RX5 yX5_memberFault wsX5_memberFault) := goodIn_app (goodIn_of _ (by decide +kernel)) ggX5_reach_X5_memberFault
set_option maxRecDepth 20000 in
theorem ggX5_reach_X5_raise : GoodIn wsX5_reach wsX5_raise := goodIn_ca (goodIn_ca (goodIn_ca (goodIn_r _ [20, 21, 22, 23, 24, 25, 26] (by decide +kernel) (by decide +kernel)) (goodIn_sub (fun _ h => List.mem_cons_of_mem _ (List.mem_append_left _ (List.mem_append_left _ (List.mem_append_right _ h)))) (by decide +kernel))) (goodIn_sub (fun _ h => List.mem_cons_of_mem _ (List.mem_append_left _ (List.mem_append_right _ h))) (by decide +kernel))) (goodIn_sub (fun _ h => List.mem_cons_of_mem _ (List.mem_append_right _ h)) (by decide +kernel))
set_option maxRecDepth 20000 in
theorem gX5_reach_X5_raise : GoodIn wsX5_reach (va_wsS RX5 66 yX5_raise wsX5_raise) := goodIn_app (goodIn_of _ (by decide +kernel)) ggX5_reach_X5_raise
set_option maxRecDepth 20000 in
theorem ggX5_reach_X4_trace : GoodIn wsX5_reach wsX4_trace := goodIn_r _ [31, 32, 33, 34, 35, 36, 37, 38, 39, 40, 41, 42, 43, 44, 45, 46, 30, 47, 48, 49, 50, 51, 52, 53, 54, 13, 14, 15, 16, 17, 55, 56, 57, 58, 59, 60, 61, 62, 63, 64, 65, 66, 67, 68, 69, 70, 71, 72, 73, 74, 75, 83, 84, 85, 86, 87, 88, 89, 90, 91, 92, 93, 94, 95, 96, 97, 98, 99, 100, 101, 102, 103, 104, 105, 106, 107, 108, 109] (by decide +kernel) (by decide +kernel)
set_option maxRecDepth 20000 in
theorem gX5_reach_X4_trace : GoodIn wsX5_reach (wsV RX5 124 RX4 yX4_trace wsX4_trace) := goodIn_app (goodIn_of _ (by decide +kernel)) ggX5_reach_X4_trace
theorem dX5_reach_0 : decode cX5_reach 0 = .ok (.aload_n 0, 1) := by decide +kernel
theorem dX5_reach_1 : decode cX5_reach 1 = .ok (.iload_n 1, 1) := by decide +kernel
theorem dX5_reach_2 : decode cX5_reach 2 = .ok (.invokevirtual 107, 3) := by decide +kernel
theorem dX5_reach_5 : decode cX5_reach 5 = .ok (.invokestatic 66, 3) := by decide +kernel
theorem dX5_reach_8 : decode cX5_reach 8 = .ok (.iconst 0, 1) := by decide +kernel
theorem dX5_reach_9 : decode cX5_reach 9 = .ok (.istore_n 2, 1) := by decide +kernel
theorem dX5_reach_10 : decode cX5_reach 10 = .ok (.iconst 0, 1) := by decide +kernel
theorem dX5_reach_11 : decode cX5_reach 11 = .ok (.istore_n 3, 1) := by decide +kernel
theorem dX5_reach_12 : decode cX5_reach 12 = .ok (.iload_n 3, 1) := by decide +kernel
theorem dX5_reach_13 : decode cX5_reach 13 = .ok (.sipush 255, 3) := by decide +kernel
theorem dX5_reach_16 : decode cX5_reach 16 = .ok (.if_icmp .gt 35, 3) := by decide +kernel
theorem dX5_reach_19 : decode cX5_reach 19 = .ok (.aload_n 0, 1) := by decide +kernel
theorem dX5_reach_20 : decode cX5_reach 20 = .ok (.getfield 10, 3) := by decide +kernel
theorem dX5_reach_23 : decode cX5_reach 23 = .ok (.aload_n 0, 1) := by decide +kernel
theorem dX5_reach_24 : decode cX5_reach 24 = .ok (.getfield 26, 3) := by decide +kernel
theorem dX5_reach_27 : decode cX5_reach 27 = .ok (.iload_n 1, 1) := by decide +kernel
theorem dX5_reach_28 : decode cX5_reach 28 = .ok (.iload_n 3, 1) := by decide +kernel
theorem dX5_reach_29 : decode cX5_reach 29 = .ok (.invokevirtual 124, 3) := by decide +kernel
theorem dX5_reach_32 : decode cX5_reach 32 = .ok (.aload_n 0, 1) := by decide +kernel
theorem dX5_reach_33 : decode cX5_reach 33 = .ok (.getfield 10, 3) := by decide +kernel
theorem dX5_reach_36 : decode cX5_reach 36 = .ok (.getfield 137, 3) := by decide +kernel
theorem dX5_reach_39 : decode cX5_reach 39 = .ok (.ifCond .eq 6, 3) := by decide +kernel
theorem dX5_reach_42 : decode cX5_reach 42 = .ok (.iinc 2 1, 3) := by decide +kernel
theorem dX5_reach_45 : decode cX5_reach 45 = .ok (.iinc 3 1, 3) := by decide +kernel
theorem dX5_reach_48 : decode cX5_reach 48 = .ok (.goto (-36), 3) := by decide +kernel
theorem dX5_reach_51 : decode cX5_reach 51 = .ok (.iload_n 2, 1) := by decide +kernel
theorem dX5_reach_52 : decode cX5_reach 52 = .ok (.ireturn, 1) := by decide +kernel
set_option maxRecDepth 20000 in
theorem ggX5_member_X5_refuseOutside : GoodIn wsX5_member wsX5_refuseOutside := goodIn_ca (goodIn_r _ [4, 5, 6, 7, 8, 3, 9] (by decide +kernel) (by decide +kernel)) (goodIn_sub (fun _ h => List.mem_cons_of_mem _ (List.mem_append_right _ h)) (by decide +kernel))
set_option maxRecDepth 20000 in
theorem gX5_member_X5_refuseOutside : GoodIn wsX5_member (va_wsS RX5 43 yX5_refuseOutside wsX5_refuseOutside) := goodIn_app (goodIn_of _ (by decide +kernel)) ggX5_member_X5_refuseOutside
set_option maxRecDepth 20000 in
theorem ggX5_member_X5_memberValue : GoodIn wsX5_member wsX5_memberValue := goodIn_r _ [13, 14, 15, 16, 17, 18, 19, 20, 21, 22, 23, 24, 25, 26, 27, 28, 29, 30, 31, 32, 33, 34, 35, 36, 37, 38, 39, 40, 41, 42, 43, 44, 45, 46, 47, 48, 49, 50, 51, 52, 53, 54, 55, 56, 57, 58, 59, 60, 61, 62, 63, 64, 65, 66, 67, 68, 69, 70, 71, 72, 73, 74, 75, 76, 77] (by decide +kernel) (by decide +kernel)
set_option maxRecDepth 20000 in
theorem gX5_member_X5_memberValue : GoodIn wsX5_member (wsV RX5 141 RX5 yX5_memberValue wsX5_memberValue) := goodIn_app (goodIn_of _ (by decide +kernel)) ggX5_member_X5_memberValue
theorem dX5_member_0 : decode cX5_member 0 = .ok (.iload_n 1, 1) := by decide +kernel
theorem dX5_member_1 : decode cX5_member 1 = .ok (.iconst 0, 1) := by decide +kernel
theorem dX5_member_2 : decode cX5_member 2 = .ok (.sipush 255, 3) := by decide +kernel
theorem dX5_member_5 : decode cX5_member 5 = .ok (.invokestatic 43, 3) := by decide +kernel
theorem dX5_member_8 : decode cX5_member 8 = .ok (.iload_n 2, 1) := by decide +kernel
theorem dX5_member_9 : decode cX5_member 9 = .ok (.iconst 0, 1) := by decide +kernel
theorem dX5_member_10 : decode cX5_member 10 = .ok (.iconst 4, 1) := by decide +kernel
theorem dX5_member_11 : decode cX5_member 11 = .ok (.invokestatic 43, 3) := by decide +kernel
theorem dX5_member_14 : decode cX5_member 14 = .ok (.aload_n 0, 1) := by decide +kernel
theorem dX5_member_15 : decode cX5_member 15 = .ok (.iload_n 1, 1) := by decide +kernel
theorem dX5_member_16 : decode cX5_member 16 = .ok (.iload_n 2, 1) := by decide +kernel
theorem dX5_member_17 : decode cX5_member 17 = .ok (.invokevirtual 141, 3) := by decide +kernel
theorem dX5_member_20 : decode cX5_member 20 = .ok (.ireturn, 1) := by decide +kernel
set_option maxRecDepth 20000 in
theorem ggX5_memberAt_X5_refuseNegative : GoodIn wsX5_memberAt wsX5_refuseNegative := goodIn_ca (goodIn_r _ [5, 6, 7] (by decide +kernel) (by decide +kernel)) (goodIn_sub (fun _ h => List.mem_cons_of_mem _ (List.mem_append_right _ h)) (by decide +kernel))
set_option maxRecDepth 20000 in
theorem gX5_memberAt_X5_refuseNegative : GoodIn wsX5_memberAt (va_wsS RX5 77 yX5_refuseNegative wsX5_refuseNegative) := goodIn_app (goodIn_of _ (by decide +kernel)) ggX5_memberAt_X5_refuseNegative
set_option maxRecDepth 20000 in
theorem ggX5_memberAt_X2_isMember : GoodIn wsX5_memberAt wsX2_isMember := goodIn_r _ [12, 13, 21, 22, 23, 24, 25, 26, 27, 28, 29, 30, 31, 32, 33, 34] (by decide +kernel) (by decide +kernel)
set_option maxRecDepth 20000 in
theorem gX5_memberAt_X2_isMember : GoodIn wsX5_memberAt (wsV RX5 144 RX2 yX2_isMember wsX2_isMember) := goodIn_app (goodIn_of _ (by decide +kernel)) ggX5_memberAt_X2_isMember
theorem dX5_memberAt_0 : decode cX5_memberAt 0 = .ok (.iload_n 1, 1) := by decide +kernel
theorem dX5_memberAt_1 : decode cX5_memberAt 1 = .ok (.invokestatic 77, 3) := by decide +kernel
theorem dX5_memberAt_4 : decode cX5_memberAt 4 = .ok (.iconst 0, 1) := by decide +kernel
theorem dX5_memberAt_5 : decode cX5_memberAt 5 = .ok (.istore_n 2, 1) := by decide +kernel
theorem dX5_memberAt_6 : decode cX5_memberAt 6 = .ok (.iconst 0, 1) := by decide +kernel
theorem dX5_memberAt_7 : decode cX5_memberAt 7 = .ok (.istore_n 3, 1) := by decide +kernel
theorem dX5_memberAt_8 : decode cX5_memberAt 8 = .ok (.iload_n 3, 1) := by decide +kernel
theorem dX5_memberAt_9 : decode cX5_memberAt 9 = .ok (.sipush 255, 3) := by decide +kernel
theorem dX5_memberAt_12 : decode cX5_memberAt 12 = .ok (.if_icmp .gt 30, 3) := by decide +kernel
theorem dX5_memberAt_15 : decode cX5_memberAt 15 = .ok (.aload_n 0, 1) := by decide +kernel
theorem dX5_memberAt_16 : decode cX5_memberAt 16 = .ok (.getfield 26, 3) := by decide +kernel
theorem dX5_memberAt_19 : decode cX5_memberAt 19 = .ok (.iload_n 3, 1) := by decide +kernel
theorem dX5_memberAt_20 : decode cX5_memberAt 20 = .ok (.invokevirtual 144, 3) := by decide +kernel
theorem dX5_memberAt_23 : decode cX5_memberAt 23 = .ok (.ifCond .eq 13, 3) := by decide +kernel
theorem dX5_memberAt_26 : decode cX5_memberAt 26 = .ok (.iload_n 2, 1) := by decide +kernel
theorem dX5_memberAt_27 : decode cX5_memberAt 27 = .ok (.iload_n 1, 1) := by decide +kernel
theorem dX5_memberAt_28 : decode cX5_memberAt 28 = .ok (.if_icmp .ne 5, 3) := by decide +kernel
theorem dX5_memberAt_31 : decode cX5_memberAt 31 = .ok (.iload_n 3, 1) := by decide +kernel
theorem dX5_memberAt_32 : decode cX5_memberAt 32 = .ok (.ireturn, 1) := by decide +kernel
theorem dX5_memberAt_33 : decode cX5_memberAt 33 = .ok (.iinc 2 1, 3) := by decide +kernel
theorem dX5_memberAt_36 : decode cX5_memberAt 36 = .ok (.iinc 3 1, 3) := by decide +kernel
theorem dX5_memberAt_39 : decode cX5_memberAt 39 = .ok (.goto (-31), 3) := by decide +kernel
theorem dX5_memberAt_42 : decode cX5_memberAt 42 = .ok (.iconst (-1), 1) := by decide +kernel
theorem dX5_memberAt_43 : decode cX5_memberAt 43 = .ok (.ireturn, 1) := by decide +kernel
set_option maxRecDepth 20000 in
theorem ggX5_entry_X5_refuseOutside : GoodIn wsX5_entry wsX5_refuseOutside := goodIn_ca (goodIn_r _ [10, 11, 12, 13, 14, 9, 15] (by decide +kernel) (by decide +kernel)) (goodIn_sub (fun _ h => List.mem_cons_of_mem _ (List.mem_append_left _ (List.mem_append_left _ (List.mem_append_right _ h)))) (by decide +kernel))
set_option maxRecDepth 20000 in
theorem gX5_entry_X5_refuseOutside : GoodIn wsX5_entry (va_wsS RX5 43 yX5_refuseOutside wsX5_refuseOutside) := goodIn_app (goodIn_of _ (by decide +kernel)) ggX5_entry_X5_refuseOutside
set_option maxRecDepth 20000 in
theorem ggX5_entry_X5_refuseNegative : GoodIn wsX5_entry wsX5_refuseNegative := goodIn_ca (goodIn_r _ [18, 11, 12] (by decide +kernel) (by decide +kernel)) (goodIn_sub (fun _ h => List.mem_cons_of_mem _ (List.mem_append_left _ (List.mem_append_left _ (List.mem_append_right _ h)))) (by decide +kernel))
set_option maxRecDepth 20000 in
theorem gX5_entry_X5_refuseNegative : GoodIn wsX5_entry (va_wsS RX5 77 yX5_refuseNegative wsX5_refuseNegative) := goodIn_app (goodIn_of _ (by decide +kernel)) ggX5_entry_X5_refuseNegative
set_option maxRecDepth 20000 in
theorem ggX5_entry_X5_memberFault : GoodIn wsX5_entry wsX5_memberFault := goodIn_r _ [22, 1, 13, 14, 9, 15, 23, 24, 25, 26, 27, 28, 40, 41, 42, 43, 44, 45, 46, 47, 48, 49, 50, 51, 52, 53, 54, 55, 56, 57, 58, 59, 60] (by decide +kernel) (by decide +kernel)
set_option maxRecDepth 20000 in
theorem gX5_entry_X5_memberFault : GoodIn wsX5_entry (wsV RX5 107 RX5 yX5_memberFault wsX5_memberFault) := goodIn_app (goodIn_of _ (by decide +kernel)) ggX5_entry_X5_memberFault
set_option maxRecDepth 20000 in
theorem ggX5_entry_X5_raise : GoodIn wsX5_entry wsX5_raise := goodIn_ca (goodIn_ca (goodIn_ca (goodIn_r _ [31, 11, 12, 32, 33, 34, 35] (by decide +kernel) (by decide +kernel)) (goodIn_sub (fun _ h => List.mem_cons_of_mem _ (List.mem_append_left _ (List.mem_append_left _ (List.mem_append_right _ h)))) (by decide +kernel))) (goodIn_sub (fun _ h => List.mem_cons_of_mem _ (List.mem_append_left _ (List.mem_append_right _ h))) (by decide +kernel))) (goodIn_sub (fun _ h => List.mem_cons_of_mem _ (List.mem_append_right _ h)) (by decide +kernel))
set_option maxRecDepth 20000 in
theorem gX5_entry_X5_raise : GoodIn wsX5_entry (va_wsS RX5 66 yX5_raise wsX5_raise) := goodIn_app (goodIn_of _ (by decide +kernel)) ggX5_entry_X5_raise
set_option maxRecDepth 20000 in
theorem ggX5_entry_X3_bucketPlace : GoodIn wsX5_entry wsX3_bucketPlace := goodIn_r _ [39] (by decide +kernel) (by decide +kernel)
set_option maxRecDepth 20000 in
theorem gX5_entry_X3_bucketPlace : GoodIn wsX5_entry (va_wsS RX5 152 yX3_bucketPlace wsX3_bucketPlace) := goodIn_app (goodIn_of _ (by decide +kernel)) ggX5_entry_X3_bucketPlace
theorem dX5_entry_0 : decode cX5_entry 0 = .ok (.iload_n 2, 1) := by decide +kernel
theorem dX5_entry_1 : decode cX5_entry 1 = .ok (.iconst 0, 1) := by decide +kernel
theorem dX5_entry_2 : decode cX5_entry 2 = .ok (.bipush 7, 2) := by decide +kernel
theorem dX5_entry_4 : decode cX5_entry 4 = .ok (.invokestatic 43, 3) := by decide +kernel
theorem dX5_entry_7 : decode cX5_entry 7 = .ok (.iload_n 3, 1) := by decide +kernel
theorem dX5_entry_8 : decode cX5_entry 8 = .ok (.invokestatic 77, 3) := by decide +kernel
theorem dX5_entry_11 : decode cX5_entry 11 = .ok (.iload 4, 2) := by decide +kernel
theorem dX5_entry_13 : decode cX5_entry 13 = .ok (.iconst 0, 1) := by decide +kernel
theorem dX5_entry_14 : decode cX5_entry 14 = .ok (.iconst 1, 1) := by decide +kernel
theorem dX5_entry_15 : decode cX5_entry 15 = .ok (.invokestatic 43, 3) := by decide +kernel
theorem dX5_entry_18 : decode cX5_entry 18 = .ok (.aload_n 0, 1) := by decide +kernel
theorem dX5_entry_19 : decode cX5_entry 19 = .ok (.iload_n 1, 1) := by decide +kernel
theorem dX5_entry_20 : decode cX5_entry 20 = .ok (.invokevirtual 107, 3) := by decide +kernel
theorem dX5_entry_23 : decode cX5_entry 23 = .ok (.invokestatic 66, 3) := by decide +kernel
theorem dX5_entry_26 : decode cX5_entry 26 = .ok (.aload_n 0, 1) := by decide +kernel
theorem dX5_entry_27 : decode cX5_entry 27 = .ok (.getfield 26, 3) := by decide +kernel
theorem dX5_entry_30 : decode cX5_entry 30 = .ok (.getfield 148, 3) := by decide +kernel
theorem dX5_entry_33 : decode cX5_entry 33 = .ok (.iload_n 1, 1) := by decide +kernel
theorem dX5_entry_34 : decode cX5_entry 34 = .ok (.iaload, 1) := by decide +kernel
theorem dX5_entry_35 : decode cX5_entry 35 = .ok (.iload_n 2, 1) := by decide +kernel
theorem dX5_entry_36 : decode cX5_entry 36 = .ok (.invokestatic 152, 3) := by decide +kernel
theorem dX5_entry_39 : decode cX5_entry 39 = .ok (.istore 5, 2) := by decide +kernel
theorem dX5_entry_41 : decode cX5_entry 41 = .ok (.iload_n 3, 1) := by decide +kernel
theorem dX5_entry_42 : decode cX5_entry 42 = .ok (.aload_n 0, 1) := by decide +kernel
theorem dX5_entry_43 : decode cX5_entry 43 = .ok (.getfield 26, 3) := by decide +kernel
theorem dX5_entry_46 : decode cX5_entry 46 = .ok (.getfield 157, 3) := by decide +kernel
theorem dX5_entry_49 : decode cX5_entry 49 = .ok (.getfield 161, 3) := by decide +kernel
theorem dX5_entry_52 : decode cX5_entry 52 = .ok (.iload 5, 2) := by decide +kernel
theorem dX5_entry_54 : decode cX5_entry 54 = .ok (.iaload, 1) := by decide +kernel
theorem dX5_entry_55 : decode cX5_entry 55 = .ok (.if_icmp .lt 5, 3) := by decide +kernel
theorem dX5_entry_58 : decode cX5_entry 58 = .ok (.iconst (-1), 1) := by decide +kernel
theorem dX5_entry_59 : decode cX5_entry 59 = .ok (.ireturn, 1) := by decide +kernel
theorem dX5_entry_60 : decode cX5_entry 60 = .ok (.iload 5, 2) := by decide +kernel
theorem dX5_entry_62 : decode cX5_entry 62 = .ok (.iconst 4, 1) := by decide +kernel
theorem dX5_entry_63 : decode cX5_entry 63 = .ok (.imul, 1) := by decide +kernel
theorem dX5_entry_64 : decode cX5_entry 64 = .ok (.iload_n 3, 1) := by decide +kernel
theorem dX5_entry_65 : decode cX5_entry 65 = .ok (.iadd, 1) := by decide +kernel
theorem dX5_entry_66 : decode cX5_entry 66 = .ok (.istore 6, 2) := by decide +kernel
theorem dX5_entry_68 : decode cX5_entry 68 = .ok (.iload 4, 2) := by decide +kernel
theorem dX5_entry_70 : decode cX5_entry 70 = .ok (.ifCond .ne 19, 3) := by decide +kernel
theorem dX5_entry_73 : decode cX5_entry 73 = .ok (.aload_n 0, 1) := by decide +kernel
theorem dX5_entry_74 : decode cX5_entry 74 = .ok (.getfield 26, 3) := by decide +kernel
theorem dX5_entry_77 : decode cX5_entry 77 = .ok (.getfield 157, 3) := by decide +kernel
theorem dX5_entry_80 : decode cX5_entry 80 = .ok (.getfield 164, 3) := by decide +kernel
theorem dX5_entry_83 : decode cX5_entry 83 = .ok (.iload 6, 2) := by decide +kernel
theorem dX5_entry_85 : decode cX5_entry 85 = .ok (.iaload, 1) := by decide +kernel
theorem dX5_entry_86 : decode cX5_entry 86 = .ok (.goto 16, 3) := by decide +kernel
theorem dX5_entry_89 : decode cX5_entry 89 = .ok (.aload_n 0, 1) := by decide +kernel
theorem dX5_entry_90 : decode cX5_entry 90 = .ok (.getfield 26, 3) := by decide +kernel
theorem dX5_entry_93 : decode cX5_entry 93 = .ok (.getfield 157, 3) := by decide +kernel
theorem dX5_entry_96 : decode cX5_entry 96 = .ok (.getfield 167, 3) := by decide +kernel
theorem dX5_entry_99 : decode cX5_entry 99 = .ok (.iload 6, 2) := by decide +kernel
theorem dX5_entry_101 : decode cX5_entry 101 = .ok (.iaload, 1) := by decide +kernel
theorem dX5_entry_102 : decode cX5_entry 102 = .ok (.ireturn, 1) := by decide +kernel
set_option maxRecDepth 20000 in
theorem ggX5_share_X5_refuseOutside : GoodIn wsX5_share wsX5_refuseOutside := goodIn_ca (goodIn_r _ [7, 8, 9, 10, 11, 6, 12] (by decide +kernel) (by decide +kernel)) (goodIn_sub (fun _ h => List.mem_cons_of_mem _ (List.mem_append_left _ (List.mem_append_left _ (List.mem_append_right _ h)))) (by decide +kernel))
set_option maxRecDepth 20000 in
theorem gX5_share_X5_refuseOutside : GoodIn wsX5_share (va_wsS RX5 43 yX5_refuseOutside wsX5_refuseOutside) := goodIn_app (goodIn_of _ (by decide +kernel)) ggX5_share_X5_refuseOutside
set_option maxRecDepth 20000 in
theorem ggX5_share_X5_memberFault : GoodIn wsX5_share wsX5_memberFault := goodIn_r _ [16, 1, 10, 11, 6, 12, 17, 18, 19, 20, 21, 22, 45, 46, 47, 48, 49, 50, 51, 52, 53, 54, 55, 56, 57, 58, 59, 60, 61, 62, 63, 64, 65] (by decide +kernel) (by decide +kernel)
set_option maxRecDepth 20000 in
theorem gX5_share_X5_memberFault : GoodIn wsX5_share (wsV RX5 107 RX5 yX5_memberFault wsX5_memberFault) := goodIn_app (goodIn_of _ (by decide +kernel)) ggX5_share_X5_memberFault
set_option maxRecDepth 20000 in
theorem ggX5_share_X5_raise : GoodIn wsX5_share wsX5_raise := goodIn_ca (goodIn_ca (goodIn_ca (goodIn_r _ [25, 8, 9, 26, 27, 28, 29] (by decide +kernel) (by decide +kernel)) (goodIn_sub (fun _ h => List.mem_cons_of_mem _ (List.mem_append_left _ (List.mem_append_left _ (List.mem_append_right _ h)))) (by decide +kernel))) (goodIn_sub (fun _ h => List.mem_cons_of_mem _ (List.mem_append_left _ (List.mem_append_right _ h))) (by decide +kernel))) (goodIn_sub (fun _ h => List.mem_cons_of_mem _ (List.mem_append_right _ h)) (by decide +kernel))
set_option maxRecDepth 20000 in
theorem gX5_share_X5_raise : GoodIn wsX5_share (va_wsS RX5 66 yX5_raise wsX5_raise) := goodIn_app (goodIn_of _ (by decide +kernel)) ggX5_share_X5_raise
set_option maxRecDepth 20000 in
theorem ggX5_share_X3_entriesOf : GoodIn wsX5_share wsX3_entriesOf := goodIn_r _ [34, 35, 36, 37, 33, 38, 66, 67, 68] (by decide +kernel) (by decide +kernel)
set_option maxRecDepth 20000 in
theorem gX5_share_X3_entriesOf : GoodIn wsX5_share (wsV RX5 170 RX3 yX3_entriesOf wsX3_entriesOf) := goodIn_app (goodIn_of _ (by decide +kernel)) ggX5_share_X3_entriesOf
set_option maxRecDepth 20000 in
theorem ggX5_share_X3_bucketPlace : GoodIn wsX5_share wsX3_bucketPlace := goodIn_r _ [38] (by decide +kernel) (by decide +kernel)
set_option maxRecDepth 20000 in
theorem gX5_share_X3_bucketPlace : GoodIn wsX5_share (va_wsS RX5 152 yX3_bucketPlace wsX3_bucketPlace) := goodIn_app (goodIn_of _ (by decide +kernel)) ggX5_share_X3_bucketPlace
set_option maxRecDepth 20000 in
theorem ggX5_share_X3_entriesOfOrigin : GoodIn wsX5_share wsX3_entriesOfOrigin := goodIn_r _ [43, 35, 44, 66, 67, 68] (by decide +kernel) (by decide +kernel)
set_option maxRecDepth 20000 in
theorem gX5_share_X3_entriesOfOrigin : GoodIn wsX5_share (wsV RX5 173 RX3 yX3_entriesOfOrigin wsX3_entriesOfOrigin) := goodIn_app (goodIn_of _ (by decide +kernel)) ggX5_share_X3_entriesOfOrigin
theorem dX5_share_0 : decode cX5_share 0 = .ok (.iload_n 2, 1) := by decide +kernel
theorem dX5_share_1 : decode cX5_share 1 = .ok (.iconst 0, 1) := by decide +kernel
theorem dX5_share_2 : decode cX5_share 2 = .ok (.bipush 7, 2) := by decide +kernel
theorem dX5_share_4 : decode cX5_share 4 = .ok (.invokestatic 43, 3) := by decide +kernel
theorem dX5_share_7 : decode cX5_share 7 = .ok (.aload_n 0, 1) := by decide +kernel
theorem dX5_share_8 : decode cX5_share 8 = .ok (.iload_n 1, 1) := by decide +kernel
theorem dX5_share_9 : decode cX5_share 9 = .ok (.invokevirtual 107, 3) := by decide +kernel
theorem dX5_share_12 : decode cX5_share 12 = .ok (.invokestatic 66, 3) := by decide +kernel
theorem dX5_share_15 : decode cX5_share 15 = .ok (.aload_n 0, 1) := by decide +kernel
theorem dX5_share_16 : decode cX5_share 16 = .ok (.getfield 26, 3) := by decide +kernel
theorem dX5_share_19 : decode cX5_share 19 = .ok (.getfield 148, 3) := by decide +kernel
theorem dX5_share_22 : decode cX5_share 22 = .ok (.iload_n 1, 1) := by decide +kernel
theorem dX5_share_23 : decode cX5_share 23 = .ok (.iaload, 1) := by decide +kernel
theorem dX5_share_24 : decode cX5_share 24 = .ok (.istore_n 3, 1) := by decide +kernel
theorem dX5_share_25 : decode cX5_share 25 = .ok (.aload_n 0, 1) := by decide +kernel
theorem dX5_share_26 : decode cX5_share 26 = .ok (.getfield 26, 3) := by decide +kernel
theorem dX5_share_29 : decode cX5_share 29 = .ok (.getfield 157, 3) := by decide +kernel
theorem dX5_share_32 : decode cX5_share 32 = .ok (.iload_n 3, 1) := by decide +kernel
theorem dX5_share_33 : decode cX5_share 33 = .ok (.invokevirtual 170, 3) := by decide +kernel
theorem dX5_share_36 : decode cX5_share 36 = .ok (.istore 4, 2) := by decide +kernel
theorem dX5_share_38 : decode cX5_share 38 = .ok (.iload 4, 2) := by decide +kernel
theorem dX5_share_40 : decode cX5_share 40 = .ok (.ifCond .ne 5, 3) := by decide +kernel
theorem dX5_share_43 : decode cX5_share 43 = .ok (.iconst 0, 1) := by decide +kernel
theorem dX5_share_44 : decode cX5_share 44 = .ok (.ireturn, 1) := by decide +kernel
theorem dX5_share_45 : decode cX5_share 45 = .ok (.sipush 1000, 3) := by decide +kernel
theorem dX5_share_48 : decode cX5_share 48 = .ok (.aload_n 0, 1) := by decide +kernel
theorem dX5_share_49 : decode cX5_share 49 = .ok (.getfield 26, 3) := by decide +kernel
theorem dX5_share_52 : decode cX5_share 52 = .ok (.getfield 157, 3) := by decide +kernel
theorem dX5_share_55 : decode cX5_share 55 = .ok (.iload_n 3, 1) := by decide +kernel
theorem dX5_share_56 : decode cX5_share 56 = .ok (.iconst 0, 1) := by decide +kernel
theorem dX5_share_57 : decode cX5_share 57 = .ok (.invokestatic 152, 3) := by decide +kernel
theorem dX5_share_60 : decode cX5_share 60 = .ok (.bipush 8, 2) := by decide +kernel
theorem dX5_share_62 : decode cX5_share 62 = .ok (.iload_n 2, 1) := by decide +kernel
theorem dX5_share_63 : decode cX5_share 63 = .ok (.invokevirtual 173, 3) := by decide +kernel
theorem dX5_share_66 : decode cX5_share 66 = .ok (.imul, 1) := by decide +kernel
theorem dX5_share_67 : decode cX5_share 67 = .ok (.iload 4, 2) := by decide +kernel
theorem dX5_share_69 : decode cX5_share 69 = .ok (.idiv, 1) := by decide +kernel
theorem dX5_share_70 : decode cX5_share 70 = .ok (.ireturn, 1) := by decide +kernel
set_option maxRecDepth 20000 in
theorem ggX5_overlay_X5_refuseOutside : GoodIn wsX5_overlay wsX5_refuseOutside := goodIn_ca (goodIn_r _ [4, 5, 6, 7, 8, 3, 9] (by decide +kernel) (by decide +kernel)) (goodIn_sub (fun _ h => List.mem_cons_of_mem _ (List.mem_append_right _ h)) (by decide +kernel))
set_option maxRecDepth 20000 in
theorem gX5_overlay_X5_refuseOutside : GoodIn wsX5_overlay (va_wsS RX5 43 yX5_refuseOutside wsX5_refuseOutside) := goodIn_app (goodIn_of _ (by decide +kernel)) ggX5_overlay_X5_refuseOutside
set_option maxRecDepth 20000 in
theorem ggX5_overlay_X5_overlayValue : GoodIn wsX5_overlay wsX5_overlayValue := goodIn_r _ [13, 14, 15, 16, 17, 18, 19, 20, 21, 22, 23, 24, 25, 26, 27, 28, 29, 30, 31, 32, 33, 34, 35, 36, 37, 38, 39, 40, 41, 42, 43, 44, 45, 46, 47, 48, 49, 50, 51, 52, 53, 54, 55, 56, 57, 58, 59, 60, 61, 62, 63, 64, 65, 66, 67, 68, 69, 70, 71] (by decide +kernel) (by decide +kernel)
set_option maxRecDepth 20000 in
theorem gX5_overlay_X5_overlayValue : GoodIn wsX5_overlay (wsV RX5 176 RX5 yX5_overlayValue wsX5_overlayValue) := goodIn_app (goodIn_of _ (by decide +kernel)) ggX5_overlay_X5_overlayValue
theorem dX5_overlay_0 : decode cX5_overlay 0 = .ok (.iload_n 1, 1) := by decide +kernel
theorem dX5_overlay_1 : decode cX5_overlay 1 = .ok (.iconst 0, 1) := by decide +kernel
theorem dX5_overlay_2 : decode cX5_overlay 2 = .ok (.bipush 8, 2) := by decide +kernel
theorem dX5_overlay_4 : decode cX5_overlay 4 = .ok (.invokestatic 43, 3) := by decide +kernel
theorem dX5_overlay_7 : decode cX5_overlay 7 = .ok (.aload_n 0, 1) := by decide +kernel
theorem dX5_overlay_8 : decode cX5_overlay 8 = .ok (.iload_n 1, 1) := by decide +kernel
theorem dX5_overlay_9 : decode cX5_overlay 9 = .ok (.invokevirtual 176, 3) := by decide +kernel
theorem dX5_overlay_12 : decode cX5_overlay 12 = .ok (.ireturn, 1) := by decide +kernel
set_option maxRecDepth 20000 in
theorem ggX5_count_X5_refuseOutside : GoodIn wsX5_count wsX5_refuseOutside := goodIn_ca (goodIn_r _ [6, 7, 8, 9, 10, 5, 11] (by decide +kernel) (by decide +kernel)) (goodIn_sub (fun _ h => List.mem_cons_of_mem _ (List.mem_append_right _ h)) (by decide +kernel))
set_option maxRecDepth 20000 in
theorem gX5_count_X5_refuseOutside : GoodIn wsX5_count (va_wsS RX5 43 yX5_refuseOutside wsX5_refuseOutside) := goodIn_app (goodIn_of _ (by decide +kernel)) ggX5_count_X5_refuseOutside
theorem dX5_count_0 : decode cX5_count 0 = .ok (.iload_n 1, 1) := by decide +kernel
theorem dX5_count_1 : decode cX5_count 1 = .ok (.iconst 0, 1) := by decide +kernel
theorem dX5_count_2 : decode cX5_count 2 = .ok (.bipush 8, 2) := by decide +kernel
theorem dX5_count_4 : decode cX5_count 4 = .ok (.invokestatic 43, 3) := by decide +kernel
theorem dX5_count_7 : decode cX5_count 7 = .ok (.aload_n 0, 1) := by decide +kernel
theorem dX5_count_8 : decode cX5_count 8 = .ok (.getfield 26, 3) := by decide +kernel
theorem dX5_count_11 : decode cX5_count 11 = .ok (.getfield 179, 3) := by decide +kernel
theorem dX5_count_14 : decode cX5_count 14 = .ok (.iload_n 1, 1) := by decide +kernel
theorem dX5_count_15 : decode cX5_count 15 = .ok (.iaload, 1) := by decide +kernel
theorem dX5_count_16 : decode cX5_count 16 = .ok (.ireturn, 1) := by decide +kernel
set_option maxRecDepth 20000 in
theorem ggX5_type_X5_refuseOutside : GoodIn wsX5_type wsX5_refuseOutside := goodIn_ca (goodIn_r _ [9, 10, 11, 12, 13, 8, 14] (by decide +kernel) (by decide +kernel)) (goodIn_sub (fun _ h => List.mem_cons_of_mem _ (List.mem_append_right _ h)) (by decide +kernel))
set_option maxRecDepth 20000 in
theorem gX5_type_X5_refuseOutside : GoodIn wsX5_type (va_wsS RX5 43 yX5_refuseOutside wsX5_refuseOutside) := goodIn_app (goodIn_of _ (by decide +kernel)) ggX5_type_X5_refuseOutside
theorem dX5_type_0 : decode cX5_type 0 = .ok (.iload_n 1, 1) := by decide +kernel
theorem dX5_type_1 : decode cX5_type 1 = .ok (.iconst 0, 1) := by decide +kernel
theorem dX5_type_2 : decode cX5_type 2 = .ok (.bipush 127, 2) := by decide +kernel
theorem dX5_type_4 : decode cX5_type 4 = .ok (.invokestatic 43, 3) := by decide +kernel
theorem dX5_type_7 : decode cX5_type 7 = .ok (.aload_n 0, 1) := by decide +kernel
theorem dX5_type_8 : decode cX5_type 8 = .ok (.getfield 19, 3) := by decide +kernel
theorem dX5_type_11 : decode cX5_type 11 = .ok (.getfield 182, 3) := by decide +kernel
theorem dX5_type_14 : decode cX5_type 14 = .ok (.bipush 120, 2) := by decide +kernel
theorem dX5_type_16 : decode cX5_type 16 = .ok (.if_icmp .lt 13, 3) := by decide +kernel
theorem dX5_type_19 : decode cX5_type 19 = .ok (.new 185, 3) := by decide +kernel
theorem dX5_type_22 : decode cX5_type 22 = .ok (.dup, 1) := by decide +kernel
theorem dX5_type_23 : decode cX5_type 23 = .ok (.ldc 187, 2) := by decide +kernel
theorem dX5_type_25 : decode cX5_type 25 = .ok (.invokespecial 189, 3) := by decide +kernel
theorem dX5_type_28 : decode cX5_type 28 = .ok (.athrow, 1) := by decide +kernel
theorem dX5_type_29 : decode cX5_type 29 = .ok (.aload_n 0, 1) := by decide +kernel
theorem dX5_type_30 : decode cX5_type 30 = .ok (.getfield 19, 3) := by decide +kernel
theorem dX5_type_33 : decode cX5_type 33 = .ok (.getfield 190, 3) := by decide +kernel
theorem dX5_type_36 : decode cX5_type 36 = .ok (.aload_n 0, 1) := by decide +kernel
theorem dX5_type_37 : decode cX5_type 37 = .ok (.getfield 19, 3) := by decide +kernel
theorem dX5_type_40 : decode cX5_type 40 = .ok (.getfield 182, 3) := by decide +kernel
theorem dX5_type_43 : decode cX5_type 43 = .ok (.iload_n 1, 1) := by decide +kernel
theorem dX5_type_44 : decode cX5_type 44 = .ok (.iastore, 1) := by decide +kernel
theorem dX5_type_45 : decode cX5_type 45 = .ok (.aload_n 0, 1) := by decide +kernel
theorem dX5_type_46 : decode cX5_type 46 = .ok (.getfield 19, 3) := by decide +kernel
theorem dX5_type_49 : decode cX5_type 49 = .ok (.dup, 1) := by decide +kernel
theorem dX5_type_50 : decode cX5_type 50 = .ok (.getfield 182, 3) := by decide +kernel
theorem dX5_type_53 : decode cX5_type 53 = .ok (.iconst 1, 1) := by decide +kernel
theorem dX5_type_54 : decode cX5_type 54 = .ok (.iadd, 1) := by decide +kernel
theorem dX5_type_55 : decode cX5_type 55 = .ok (.putfield 182, 3) := by decide +kernel
theorem dX5_type_58 : decode cX5_type 58 = .ok (.aload_n 0, 1) := by decide +kernel
theorem dX5_type_59 : decode cX5_type 59 = .ok (.getfield 19, 3) := by decide +kernel
theorem dX5_type_62 : decode cX5_type 62 = .ok (.getfield 182, 3) := by decide +kernel
theorem dX5_type_65 : decode cX5_type 65 = .ok (.ireturn, 1) := by decide +kernel
theorem dX5_clearScript_0 : decode cX5_clearScript 0 = .ok (.aload_n 0, 1) := by decide +kernel
theorem dX5_clearScript_1 : decode cX5_clearScript 1 = .ok (.getfield 19, 3) := by decide +kernel
theorem dX5_clearScript_4 : decode cX5_clearScript 4 = .ok (.getfield 182, 3) := by decide +kernel
theorem dX5_clearScript_7 : decode cX5_clearScript 7 = .ok (.istore_n 1, 1) := by decide +kernel
theorem dX5_clearScript_8 : decode cX5_clearScript 8 = .ok (.aload_n 0, 1) := by decide +kernel
theorem dX5_clearScript_9 : decode cX5_clearScript 9 = .ok (.getfield 19, 3) := by decide +kernel
theorem dX5_clearScript_12 : decode cX5_clearScript 12 = .ok (.iconst 0, 1) := by decide +kernel
theorem dX5_clearScript_13 : decode cX5_clearScript 13 = .ok (.putfield 182, 3) := by decide +kernel
theorem dX5_clearScript_16 : decode cX5_clearScript 16 = .ok (.iload_n 1, 1) := by decide +kernel
theorem dX5_clearScript_17 : decode cX5_clearScript 17 = .ok (.ireturn, 1) := by decide +kernel
set_option maxRecDepth 20000 in
theorem ggX5_run_X1_parse : GoodIn wsX5_run wsX1_parse := goodIn_r _ [7, 8, 9, 10, 11, 12, 13, 6, 14, 15, 16, 17, 18, 19, 20, 21, 22, 23, 24, 25, 26, 27, 28, 29, 30, 31, 32, 33, 34, 35, 36, 37, 38, 39, 40, 41, 42, 43, 44, 45, 46, 47, 48, 49, 50, 51, 52, 53, 54, 55, 56, 57, 58, 59, 60, 61, 62, 63, 64, 65, 66, 67, 68, 69, 70, 71, 72, 73, 74, 75, 76, 77, 78, 79, 80, 81, 82, 83, 84, 85, 86, 87, 88, 89, 90, 91, 92, 93, 94, 95, 96, 343, 344, 345, 346, 347, 348] (by decide +kernel) (by decide +kernel)
set_option maxRecDepth 20000 in
theorem gX5_run_X1_parse : GoodIn wsX5_run (wsV RX5 193 RX1 yX1_parse wsX1_parse) := goodIn_app (goodIn_of _ (by decide +kernel)) ggX5_run_X1_parse
set_option maxRecDepth 20000 in
theorem ggX5_run_X5_save : GoodIn wsX5_run wsX5_save := goodIn_r _ [101, 102, 103, 104, 105, 106, 107, 108, 109, 110, 111, 112, 113, 114, 115, 116, 117, 118, 119, 120, 121, 122, 123, 124, 125, 126, 127, 128, 129, 130, 131, 132, 133, 134, 135, 136, 137, 138, 139, 140, 141, 142, 336, 337, 338, 339, 340, 341, 342, 349, 350, 351, 352, 353, 354, 355, 356, 357, 358, 359, 360, 361, 362, 363, 364, 365] (by decide +kernel) (by decide +kernel)
set_option maxRecDepth 20000 in
theorem gX5_run_X5_save : GoodIn wsX5_run (wsV RX5 47 RX5 yX5_save wsX5_save) := goodIn_app (goodIn_of _ (by decide +kernel)) ggX5_run_X5_save
set_option maxRecDepth 20000 in
theorem ggX5_run_X5_carryOut : GoodIn wsX5_run wsX5_carryOut := goodIn_r _ [146, 1, 147, 105, 148, 149, 150, 151, 152, 6, 153, 89, 154, 155, 156, 100, 157, 158, 159, 160, 161, 162, 163, 164, 165, 166, 167, 114, 168, 129, 169, 170, 171, 172, 173, 174, 175, 176, 177, 178, 118, 121, 179, 180, 181, 182, 183, 184, 185, 186, 187, 188, 189, 190, 191, 192, 116, 122, 193, 108, 109, 110, 194, 195, 196, 197, 198, 199, 200, 201, 202, 203, 204, 205, 206, 130, 131, 132, 133, 123, 124, 207, 208, 209, 210, 211, 212, 213, 137, 214, 139, 215, 216, 217, 218, 219, 220, 221, 222, 223, 224, 225, 226, 227, 228, 229, 230, 231, 232, 233, 141, 234, 235, 236, 237, 142, 238, 239, 240, 241, 242, 243, 244, 245, 246, 119, 120, 247, 248, 249, 250, 251, 252, 253, 254, 255, 256, 257, 258, 259, 260, 261, 262, 263, 264, 265, 266, 267, 268, 269, 270, 271, 272, 273, 274, 275, 276, 277, 278, 279, 280, 281, 282, 283, 284, 285, 286, 287, 288, 289, 290, 291, 292, 293, 294, 295, 296, 297, 298, 299, 300, 301, 302, 303, 304, 305, 306, 307, 308, 309, 310, 311, 312, 313, 314, 315, 316, 317, 318, 319, 320, 321, 322, 323, 324, 325, 326, 327, 328, 329, 330, 117, 331, 332, 333, 334, 335, 336, 337, 338, 339, 340, 341, 342, 343, 344, 345, 346, 347, 348, 349, 350, 351, 352, 353, 354, 355, 356, 357, 358, 359, 360, 361, 362, 363, 364, 365, 366, 367, 368, 369, 370, 371, 372, 373, 374, 375] (by decide +kernel) (by decide +kernel)
set_option maxRecDepth 20000 in
theorem gX5_run_X5_carryOut : GoodIn wsX5_run (wsV RX5 200 RX5 yX5_carryOut wsX5_carryOut) := goodIn_app (goodIn_of _ (by decide +kernel)) ggX5_run_X5_carryOut
theorem dX5_run_0 : decode cX5_run 0 = .ok (.aload_n 0, 1) := by decide +kernel
theorem dX5_run_1 : decode cX5_run 1 = .ok (.getfield 19, 3) := by decide +kernel
theorem dX5_run_4 : decode cX5_run 4 = .ok (.invokevirtual 193, 3) := by decide +kernel
theorem dX5_run_7 : decode cX5_run 7 = .ok (.istore_n 1, 1) := by decide +kernel
theorem dX5_run_8 : decode cX5_run 8 = .ok (.iload_n 1, 1) := by decide +kernel
theorem dX5_run_9 : decode cX5_run 9 = .ok (.iconst (-1), 1) := by decide +kernel
theorem dX5_run_10 : decode cX5_run 10 = .ok (.if_icmp .eq 8, 3) := by decide +kernel
theorem dX5_run_13 : decode cX5_run 13 = .ok (.bipush (-10), 2) := by decide +kernel
theorem dX5_run_15 : decode cX5_run 15 = .ok (.iload_n 1, 1) := by decide +kernel
theorem dX5_run_16 : decode cX5_run 16 = .ok (.isub, 1) := by decide +kernel
theorem dX5_run_17 : decode cX5_run 17 = .ok (.ireturn, 1) := by decide +kernel
theorem dX5_run_18 : decode cX5_run 18 = .ok (.aload_n 0, 1) := by decide +kernel
theorem dX5_run_19 : decode cX5_run 19 = .ok (.invokevirtual 47, 3) := by decide +kernel
theorem dX5_run_22 : decode cX5_run 22 = .ok (.iconst 0, 1) := by decide +kernel
theorem dX5_run_23 : decode cX5_run 23 = .ok (.istore_n 2, 1) := by decide +kernel
theorem dX5_run_24 : decode cX5_run 24 = .ok (.iload_n 2, 1) := by decide +kernel
theorem dX5_run_25 : decode cX5_run 25 = .ok (.aload_n 0, 1) := by decide +kernel
theorem dX5_run_26 : decode cX5_run 26 = .ok (.getfield 19, 3) := by decide +kernel
theorem dX5_run_29 : decode cX5_run 29 = .ok (.getfield 197, 3) := by decide +kernel
theorem dX5_run_32 : decode cX5_run 32 = .ok (.if_icmp .ge 17, 3) := by decide +kernel
theorem dX5_run_35 : decode cX5_run 35 = .ok (.aload_n 0, 1) := by decide +kernel
theorem dX5_run_36 : decode cX5_run 36 = .ok (.iload_n 2, 1) := by decide +kernel
theorem dX5_run_37 : decode cX5_run 37 = .ok (.invokevirtual 200, 3) := by decide +kernel
theorem dX5_run_40 : decode cX5_run 40 = .ok (.ifCond .eq 9, 3) := by decide +kernel
theorem dX5_run_43 : decode cX5_run 43 = .ok (.iinc 2 1, 3) := by decide +kernel
theorem dX5_run_46 : decode cX5_run 46 = .ok (.goto (-22), 3) := by decide +kernel
theorem dX5_run_49 : decode cX5_run 49 = .ok (.iload_n 2, 1) := by decide +kernel
theorem dX5_run_50 : decode cX5_run 50 = .ok (.ireturn, 1) := by decide +kernel
theorem dX5_undo_0 : decode cX5_undo 0 = .ok (.aload_n 0, 1) := by decide +kernel
theorem dX5_undo_1 : decode cX5_undo 1 = .ok (.getfield 39, 3) := by decide +kernel
theorem dX5_undo_4 : decode cX5_undo 4 = .ok (.ifCond .ne 13, 3) := by decide +kernel
theorem dX5_undo_7 : decode cX5_undo 7 = .ok (.new 185, 3) := by decide +kernel
theorem dX5_undo_10 : decode cX5_undo 10 = .ok (.dup, 1) := by decide +kernel
theorem dX5_undo_11 : decode cX5_undo 11 = .ok (.ldc 203, 2) := by decide +kernel
theorem dX5_undo_13 : decode cX5_undo 13 = .ok (.invokespecial 189, 3) := by decide +kernel
theorem dX5_undo_16 : decode cX5_undo 16 = .ok (.athrow, 1) := by decide +kernel
theorem dX5_undo_17 : decode cX5_undo 17 = .ok (.aload_n 0, 1) := by decide +kernel
theorem dX5_undo_18 : decode cX5_undo 18 = .ok (.getfield 26, 3) := by decide +kernel
theorem dX5_undo_21 : decode cX5_undo 21 = .ok (.astore_n 1, 1) := by decide +kernel
theorem dX5_undo_22 : decode cX5_undo 22 = .ok (.aload_n 0, 1) := by decide +kernel
theorem dX5_undo_23 : decode cX5_undo 23 = .ok (.aload_n 0, 1) := by decide +kernel
theorem dX5_undo_24 : decode cX5_undo 24 = .ok (.getfield 30, 3) := by decide +kernel
theorem dX5_undo_27 : decode cX5_undo 27 = .ok (.putfield 26, 3) := by decide +kernel
theorem dX5_undo_30 : decode cX5_undo 30 = .ok (.aload_n 0, 1) := by decide +kernel
theorem dX5_undo_31 : decode cX5_undo 31 = .ok (.aload_n 0, 1) := by decide +kernel
theorem dX5_undo_32 : decode cX5_undo 32 = .ok (.getfield 33, 3) := by decide +kernel
theorem dX5_undo_35 : decode cX5_undo 35 = .ok (.putfield 30, 3) := by decide +kernel
theorem dX5_undo_38 : decode cX5_undo 38 = .ok (.aload_n 0, 1) := by decide +kernel
theorem dX5_undo_39 : decode cX5_undo 39 = .ok (.aload_n 0, 1) := by decide +kernel
theorem dX5_undo_40 : decode cX5_undo 40 = .ok (.getfield 36, 3) := by decide +kernel
theorem dX5_undo_43 : decode cX5_undo 43 = .ok (.putfield 33, 3) := by decide +kernel
theorem dX5_undo_46 : decode cX5_undo 46 = .ok (.aload_n 0, 1) := by decide +kernel
theorem dX5_undo_47 : decode cX5_undo 47 = .ok (.aload_n 1, 1) := by decide +kernel
theorem dX5_undo_48 : decode cX5_undo 48 = .ok (.putfield 36, 3) := by decide +kernel
theorem dX5_undo_51 : decode cX5_undo 51 = .ok (.aload_n 0, 1) := by decide +kernel
theorem dX5_undo_52 : decode cX5_undo 52 = .ok (.dup, 1) := by decide +kernel
theorem dX5_undo_53 : decode cX5_undo 53 = .ok (.getfield 39, 3) := by decide +kernel
theorem dX5_undo_56 : decode cX5_undo 56 = .ok (.iconst 1, 1) := by decide +kernel
theorem dX5_undo_57 : decode cX5_undo 57 = .ok (.isub, 1) := by decide +kernel
theorem dX5_undo_58 : decode cX5_undo 58 = .ok (.putfield 39, 3) := by decide +kernel
theorem dX5_undo_61 : decode cX5_undo 61 = .ok (.aload_n 0, 1) := by decide +kernel
theorem dX5_undo_62 : decode cX5_undo 62 = .ok (.getfield 39, 3) := by decide +kernel
theorem dX5_undo_65 : decode cX5_undo 65 = .ok (.ireturn, 1) := by decide +kernel
set_option maxRecDepth 20000 in
theorem ggX5_digest_X5_overlayValue : GoodIn wsX5_digest wsX5_overlayValue := goodIn_r _ [14, 6, 15, 16, 17, 18, 19, 20, 21, 22, 23, 24, 25, 26, 27, 28, 29, 30, 31, 32, 33, 34, 35, 36, 37, 38, 39, 40, 41, 42, 43, 44, 45, 46, 47, 48, 49, 50, 96, 97, 98, 99, 100, 101, 102, 109, 110, 111, 112, 113, 114, 115, 116, 117, 118, 119, 120, 121, 122] (by decide +kernel) (by decide +kernel)
set_option maxRecDepth 20000 in
theorem gX5_digest_X5_overlayValue : GoodIn wsX5_digest (wsV RX5 176 RX5 yX5_overlayValue wsX5_overlayValue) := goodIn_app (goodIn_of _ (by decide +kernel)) ggX5_digest_X5_overlayValue
set_option maxRecDepth 20000 in
theorem ggX5_digest_X2_isMember : GoodIn wsX5_digest wsX2_isMember := goodIn_r _ [54, 55, 109, 110, 111, 112, 113, 114, 115, 116, 117, 118, 119, 120, 121, 122] (by decide +kernel) (by decide +kernel)
set_option maxRecDepth 20000 in
theorem gX5_digest_X2_isMember : GoodIn wsX5_digest (wsV RX5 144 RX2 yX2_isMember wsX2_isMember) := goodIn_app (goodIn_of _ (by decide +kernel)) ggX5_digest_X2_isMember
set_option maxRecDepth 20000 in
theorem ggX5_digest_X5_memberValue : GoodIn wsX5_digest wsX5_memberValue := goodIn_r _ [59, 6, 9, 60, 61, 8, 51, 52, 53, 24, 54, 55, 62, 63, 64, 65, 66, 67, 68, 69, 70, 71, 72, 73, 74, 46, 75, 76, 77, 78, 79, 80, 81, 82, 83, 84, 85, 86, 87, 88, 89, 96, 97, 98, 99, 100, 101, 102, 109, 110, 111, 112, 113, 114, 115, 116, 117, 118, 119, 120, 121, 122, 123, 124, 125] (by decide +kernel) (by decide +kernel)
set_option maxRecDepth 20000 in
theorem gX5_digest_X5_memberValue : GoodIn wsX5_digest (wsV RX5 141 RX5 yX5_memberValue wsX5_memberValue) := goodIn_app (goodIn_of _ (by decide +kernel)) ggX5_digest_X5_memberValue
set_option maxRecDepth 20000 in
theorem ggX5_digest_X3_hashOf : GoodIn wsX5_digest wsX3_hashOf := goodIn_r _ [93, 94, 67, 89, 95, 68, 69, 65, 70, 123, 124, 125] (by decide +kernel) (by decide +kernel)
set_option maxRecDepth 20000 in
theorem gX5_digest_X3_hashOf : GoodIn wsX5_digest (wsV RX5 209 RX3 yX3_hashOf wsX3_hashOf) := goodIn_app (goodIn_of _ (by decide +kernel)) ggX5_digest_X3_hashOf
theorem dX5_digest_0 : decode cX5_digest 0 = .ok (.ldc2_w 205, 3) := by decide +kernel
theorem dX5_digest_3 : decode cX5_digest 3 = .ok (.lstore_n 1, 1) := by decide +kernel
theorem dX5_digest_4 : decode cX5_digest 4 = .ok (.ldc2_w 207, 3) := by decide +kernel
theorem dX5_digest_7 : decode cX5_digest 7 = .ok (.lload_n 1, 1) := by decide +kernel
theorem dX5_digest_8 : decode cX5_digest 8 = .ok (.lmul, 1) := by decide +kernel
theorem dX5_digest_9 : decode cX5_digest 9 = .ok (.aload_n 0, 1) := by decide +kernel
theorem dX5_digest_10 : decode cX5_digest 10 = .ok (.getfield 39, 3) := by decide +kernel
theorem dX5_digest_13 : decode cX5_digest 13 = .ok (.i2l, 1) := by decide +kernel
theorem dX5_digest_14 : decode cX5_digest 14 = .ok (.ladd, 1) := by decide +kernel
theorem dX5_digest_15 : decode cX5_digest 15 = .ok (.lstore_n 1, 1) := by decide +kernel
theorem dX5_digest_16 : decode cX5_digest 16 = .ok (.ldc2_w 207, 3) := by decide +kernel
theorem dX5_digest_19 : decode cX5_digest 19 = .ok (.lload_n 1, 1) := by decide +kernel
theorem dX5_digest_20 : decode cX5_digest 20 = .ok (.lmul, 1) := by decide +kernel
theorem dX5_digest_21 : decode cX5_digest 21 = .ok (.aload_n 0, 1) := by decide +kernel
theorem dX5_digest_22 : decode cX5_digest 22 = .ok (.getfield 19, 3) := by decide +kernel
theorem dX5_digest_25 : decode cX5_digest 25 = .ok (.getfield 182, 3) := by decide +kernel
theorem dX5_digest_28 : decode cX5_digest 28 = .ok (.i2l, 1) := by decide +kernel
theorem dX5_digest_29 : decode cX5_digest 29 = .ok (.ladd, 1) := by decide +kernel
theorem dX5_digest_30 : decode cX5_digest 30 = .ok (.lstore_n 1, 1) := by decide +kernel
theorem dX5_digest_31 : decode cX5_digest 31 = .ok (.iconst 0, 1) := by decide +kernel
theorem dX5_digest_32 : decode cX5_digest 32 = .ok (.istore_n 3, 1) := by decide +kernel
theorem dX5_digest_33 : decode cX5_digest 33 = .ok (.iload_n 3, 1) := by decide +kernel
theorem dX5_digest_34 : decode cX5_digest 34 = .ok (.bipush 8, 2) := by decide +kernel
theorem dX5_digest_36 : decode cX5_digest 36 = .ok (.if_icmp .gt 22, 3) := by decide +kernel
theorem dX5_digest_39 : decode cX5_digest 39 = .ok (.ldc2_w 207, 3) := by decide +kernel
theorem dX5_digest_42 : decode cX5_digest 42 = .ok (.lload_n 1, 1) := by decide +kernel
theorem dX5_digest_43 : decode cX5_digest 43 = .ok (.lmul, 1) := by decide +kernel
theorem dX5_digest_44 : decode cX5_digest 44 = .ok (.aload_n 0, 1) := by decide +kernel
theorem dX5_digest_45 : decode cX5_digest 45 = .ok (.iload_n 3, 1) := by decide +kernel
theorem dX5_digest_46 : decode cX5_digest 46 = .ok (.invokevirtual 176, 3) := by decide +kernel
theorem dX5_digest_49 : decode cX5_digest 49 = .ok (.i2l, 1) := by decide +kernel
theorem dX5_digest_50 : decode cX5_digest 50 = .ok (.ladd, 1) := by decide +kernel
theorem dX5_digest_51 : decode cX5_digest 51 = .ok (.lstore_n 1, 1) := by decide +kernel
theorem dX5_digest_52 : decode cX5_digest 52 = .ok (.iinc 3 1, 3) := by decide +kernel
theorem dX5_digest_55 : decode cX5_digest 55 = .ok (.goto (-22), 3) := by decide +kernel
theorem dX5_digest_58 : decode cX5_digest 58 = .ok (.iconst 0, 1) := by decide +kernel
theorem dX5_digest_59 : decode cX5_digest 59 = .ok (.istore_n 3, 1) := by decide +kernel
theorem dX5_digest_60 : decode cX5_digest 60 = .ok (.iload_n 3, 1) := by decide +kernel
theorem dX5_digest_61 : decode cX5_digest 61 = .ok (.bipush 9, 2) := by decide +kernel
theorem dX5_digest_63 : decode cX5_digest 63 = .ok (.if_icmp .ge 26, 3) := by decide +kernel
theorem dX5_digest_66 : decode cX5_digest 66 = .ok (.ldc2_w 207, 3) := by decide +kernel
theorem dX5_digest_69 : decode cX5_digest 69 = .ok (.lload_n 1, 1) := by decide +kernel
theorem dX5_digest_70 : decode cX5_digest 70 = .ok (.lmul, 1) := by decide +kernel
theorem dX5_digest_71 : decode cX5_digest 71 = .ok (.aload_n 0, 1) := by decide +kernel
theorem dX5_digest_72 : decode cX5_digest 72 = .ok (.getfield 26, 3) := by decide +kernel
theorem dX5_digest_75 : decode cX5_digest 75 = .ok (.getfield 179, 3) := by decide +kernel
theorem dX5_digest_78 : decode cX5_digest 78 = .ok (.iload_n 3, 1) := by decide +kernel
theorem dX5_digest_79 : decode cX5_digest 79 = .ok (.iaload, 1) := by decide +kernel
theorem dX5_digest_80 : decode cX5_digest 80 = .ok (.i2l, 1) := by decide +kernel
theorem dX5_digest_81 : decode cX5_digest 81 = .ok (.ladd, 1) := by decide +kernel
theorem dX5_digest_82 : decode cX5_digest 82 = .ok (.lstore_n 1, 1) := by decide +kernel
theorem dX5_digest_83 : decode cX5_digest 83 = .ok (.iinc 3 1, 3) := by decide +kernel
theorem dX5_digest_86 : decode cX5_digest 86 = .ok (.goto (-26), 3) := by decide +kernel
theorem dX5_digest_89 : decode cX5_digest 89 = .ok (.iconst 0, 1) := by decide +kernel
theorem dX5_digest_90 : decode cX5_digest 90 = .ok (.istore_n 3, 1) := by decide +kernel
theorem dX5_digest_91 : decode cX5_digest 91 = .ok (.iload_n 3, 1) := by decide +kernel
theorem dX5_digest_92 : decode cX5_digest 92 = .ok (.sipush 255, 3) := by decide +kernel
theorem dX5_digest_95 : decode cX5_digest 95 = .ok (.if_icmp .gt 80, 3) := by decide +kernel
theorem dX5_digest_98 : decode cX5_digest 98 = .ok (.aload_n 0, 1) := by decide +kernel
theorem dX5_digest_99 : decode cX5_digest 99 = .ok (.getfield 26, 3) := by decide +kernel
theorem dX5_digest_102 : decode cX5_digest 102 = .ok (.iload_n 3, 1) := by decide +kernel
theorem dX5_digest_103 : decode cX5_digest 103 = .ok (.invokevirtual 144, 3) := by decide +kernel
theorem dX5_digest_106 : decode cX5_digest 106 = .ok (.ifCond .eq 63, 3) := by decide +kernel
theorem dX5_digest_109 : decode cX5_digest 109 = .ok (.ldc2_w 207, 3) := by decide +kernel
theorem dX5_digest_112 : decode cX5_digest 112 = .ok (.lload_n 1, 1) := by decide +kernel
theorem dX5_digest_113 : decode cX5_digest 113 = .ok (.lmul, 1) := by decide +kernel
theorem dX5_digest_114 : decode cX5_digest 114 = .ok (.iload_n 3, 1) := by decide +kernel
theorem dX5_digest_115 : decode cX5_digest 115 = .ok (.i2l, 1) := by decide +kernel
theorem dX5_digest_116 : decode cX5_digest 116 = .ok (.ladd, 1) := by decide +kernel
theorem dX5_digest_117 : decode cX5_digest 117 = .ok (.lstore_n 1, 1) := by decide +kernel
theorem dX5_digest_118 : decode cX5_digest 118 = .ok (.iconst 1, 1) := by decide +kernel
theorem dX5_digest_119 : decode cX5_digest 119 = .ok (.istore 4, 2) := by decide +kernel
theorem dX5_digest_121 : decode cX5_digest 121 = .ok (.iload 4, 2) := by decide +kernel
theorem dX5_digest_123 : decode cX5_digest 123 = .ok (.iconst 4, 1) := by decide +kernel
theorem dX5_digest_124 : decode cX5_digest 124 = .ok (.if_icmp .gt 24, 3) := by decide +kernel
theorem dX5_digest_127 : decode cX5_digest 127 = .ok (.ldc2_w 207, 3) := by decide +kernel
theorem dX5_digest_130 : decode cX5_digest 130 = .ok (.lload_n 1, 1) := by decide +kernel
theorem dX5_digest_131 : decode cX5_digest 131 = .ok (.lmul, 1) := by decide +kernel
theorem dX5_digest_132 : decode cX5_digest 132 = .ok (.aload_n 0, 1) := by decide +kernel
theorem dX5_digest_133 : decode cX5_digest 133 = .ok (.iload_n 3, 1) := by decide +kernel
theorem dX5_digest_134 : decode cX5_digest 134 = .ok (.iload 4, 2) := by decide +kernel
theorem dX5_digest_136 : decode cX5_digest 136 = .ok (.invokevirtual 141, 3) := by decide +kernel
theorem dX5_digest_139 : decode cX5_digest 139 = .ok (.i2l, 1) := by decide +kernel
theorem dX5_digest_140 : decode cX5_digest 140 = .ok (.ladd, 1) := by decide +kernel
theorem dX5_digest_141 : decode cX5_digest 141 = .ok (.lstore_n 1, 1) := by decide +kernel
theorem dX5_digest_142 : decode cX5_digest 142 = .ok (.iinc 4 1, 3) := by decide +kernel
theorem dX5_digest_145 : decode cX5_digest 145 = .ok (.goto (-24), 3) := by decide +kernel
theorem dX5_digest_148 : decode cX5_digest 148 = .ok (.aload_n 0, 1) := by decide +kernel
theorem dX5_digest_149 : decode cX5_digest 149 = .ok (.getfield 26, 3) := by decide +kernel
theorem dX5_digest_152 : decode cX5_digest 152 = .ok (.getfield 157, 3) := by decide +kernel
theorem dX5_digest_155 : decode cX5_digest 155 = .ok (.aload_n 0, 1) := by decide +kernel
theorem dX5_digest_156 : decode cX5_digest 156 = .ok (.getfield 26, 3) := by decide +kernel
theorem dX5_digest_159 : decode cX5_digest 159 = .ok (.getfield 148, 3) := by decide +kernel
theorem dX5_digest_162 : decode cX5_digest 162 = .ok (.iload_n 3, 1) := by decide +kernel
theorem dX5_digest_163 : decode cX5_digest 163 = .ok (.iaload, 1) := by decide +kernel
theorem dX5_digest_164 : decode cX5_digest 164 = .ok (.lload_n 1, 1) := by decide +kernel
theorem dX5_digest_165 : decode cX5_digest 165 = .ok (.invokevirtual 209, 3) := by decide +kernel
theorem dX5_digest_168 : decode cX5_digest 168 = .ok (.lstore_n 1, 1) := by decide +kernel
theorem dX5_digest_169 : decode cX5_digest 169 = .ok (.iinc 3 1, 3) := by decide +kernel
theorem dX5_digest_172 : decode cX5_digest 172 = .ok (.goto (-81), 3) := by decide +kernel
theorem dX5_digest_175 : decode cX5_digest 175 = .ok (.lload_n 1, 1) := by decide +kernel
theorem dX5_digest_176 : decode cX5_digest 176 = .ok (.lreturn, 1) := by decide +kernel
set_option maxRecDepth 20000 in
theorem ggX5_save_X2_copyFrom : GoodIn wsX5_save wsX2_copyFrom := goodIn_r _ [14, 15, 16, 17, 18, 19, 20, 21, 22, 23, 24, 25, 26, 27, 28, 29, 30, 31, 32, 33, 34, 35, 36, 37, 38, 39, 40, 41, 49, 50, 51, 52, 53, 54, 55, 56, 57, 58, 59, 60, 61, 62, 63, 64, 65] (by decide +kernel) (by decide +kernel)
set_option maxRecDepth 20000 in
theorem gX5_save_X2_copyFrom : GoodIn wsX5_save (wsV RX5 213 RX2 yX2_copyFrom wsX2_copyFrom) := goodIn_app (goodIn_of _ (by decide +kernel)) ggX5_save_X2_copyFrom
theorem dX5_save_0 : decode cX5_save 0 = .ok (.aload_n 0, 1) := by decide +kernel
theorem dX5_save_1 : decode cX5_save 1 = .ok (.getfield 36, 3) := by decide +kernel
theorem dX5_save_4 : decode cX5_save 4 = .ok (.astore_n 1, 1) := by decide +kernel
theorem dX5_save_5 : decode cX5_save 5 = .ok (.aload_n 0, 1) := by decide +kernel
theorem dX5_save_6 : decode cX5_save 6 = .ok (.aload_n 0, 1) := by decide +kernel
theorem dX5_save_7 : decode cX5_save 7 = .ok (.getfield 33, 3) := by decide +kernel
theorem dX5_save_10 : decode cX5_save 10 = .ok (.putfield 36, 3) := by decide +kernel
theorem dX5_save_13 : decode cX5_save 13 = .ok (.aload_n 0, 1) := by decide +kernel
theorem dX5_save_14 : decode cX5_save 14 = .ok (.aload_n 0, 1) := by decide +kernel
theorem dX5_save_15 : decode cX5_save 15 = .ok (.getfield 30, 3) := by decide +kernel
theorem dX5_save_18 : decode cX5_save 18 = .ok (.putfield 33, 3) := by decide +kernel
theorem dX5_save_21 : decode cX5_save 21 = .ok (.aload_n 0, 1) := by decide +kernel
theorem dX5_save_22 : decode cX5_save 22 = .ok (.aload_n 1, 1) := by decide +kernel
theorem dX5_save_23 : decode cX5_save 23 = .ok (.putfield 30, 3) := by decide +kernel
theorem dX5_save_26 : decode cX5_save 26 = .ok (.aload_n 0, 1) := by decide +kernel
theorem dX5_save_27 : decode cX5_save 27 = .ok (.getfield 30, 3) := by decide +kernel
theorem dX5_save_30 : decode cX5_save 30 = .ok (.aload_n 0, 1) := by decide +kernel
theorem dX5_save_31 : decode cX5_save 31 = .ok (.getfield 26, 3) := by decide +kernel
theorem dX5_save_34 : decode cX5_save 34 = .ok (.invokevirtual 213, 3) := by decide +kernel
theorem dX5_save_37 : decode cX5_save 37 = .ok (.aload_n 0, 1) := by decide +kernel
theorem dX5_save_38 : decode cX5_save 38 = .ok (.aload_n 0, 1) := by decide +kernel
theorem dX5_save_39 : decode cX5_save 39 = .ok (.getfield 39, 3) := by decide +kernel
theorem dX5_save_42 : decode cX5_save 42 = .ok (.iconst 1, 1) := by decide +kernel
theorem dX5_save_43 : decode cX5_save 43 = .ok (.iadd, 1) := by decide +kernel
theorem dX5_save_44 : decode cX5_save 44 = .ok (.iconst 3, 1) := by decide +kernel
theorem dX5_save_45 : decode cX5_save 45 = .ok (.invokestatic 217, 3) := by decide +kernel
theorem dX5_save_48 : decode cX5_save 48 = .ok (.putfield 39, 3) := by decide +kernel
theorem dX5_save_51 : decode cX5_save 51 = .ok (.return_, 1) := by decide +kernel
set_option maxRecDepth 20000 in
theorem ggX5_carryOut_X1_number : GoodIn wsX5_carryOut wsX1_number := goodIn_r _ [10, 11, 224, 225, 226, 227, 228, 229] (by decide +kernel) (by decide +kernel)
set_option maxRecDepth 20000 in
theorem gX5_carryOut_X1_number : GoodIn wsX5_carryOut (wsV RX5 222 RX1 yX1_number wsX1_number) := goodIn_app (goodIn_of _ (by decide +kernel)) ggX5_carryOut_X1_number
set_option maxRecDepth 20000 in
theorem ggX5_carryOut_X5_admissionFault : GoodIn wsX5_carryOut wsX5_admissionFault := goodIn_r _ [16, 3, 17, 18, 19, 15, 20, 4, 21, 22, 23, 24, 25, 26, 27, 28, 29, 30, 31, 32, 33, 34, 35, 36, 37, 38, 39, 40, 41, 42, 43, 44, 45, 46, 47, 48, 49, 50, 51, 52, 53, 54, 55, 56, 57, 58, 59, 60, 61, 62, 63, 64, 65, 66, 67, 68, 69, 70, 217, 218, 219, 220, 221, 222, 223, 230, 231, 232, 233, 234, 235, 236, 237, 238, 239, 240, 241, 242, 243] (by decide +kernel) (by decide +kernel)
set_option maxRecDepth 20000 in
theorem gX5_carryOut_X5_admissionFault : GoodIn wsX5_carryOut (wsV RX5 104 RX5 yX5_admissionFault wsX5_admissionFault) := goodIn_app (goodIn_of _ (by decide +kernel)) ggX5_carryOut_X5_admissionFault
set_option maxRecDepth 20000 in
theorem ggX5_carryOut_X2_enter : GoodIn wsX5_carryOut wsX2_enter := goodIn_r _ [74, 29, 75, 76, 77, 41, 78, 79, 57, 80, 81, 82, 83, 27, 84, 85, 86, 87, 88, 89, 90, 91, 92, 93, 94, 95, 96, 97, 98, 99, 100, 25, 26, 28, 101, 102, 103, 104, 67, 68, 69, 70, 105, 106, 107, 108, 109, 110, 111, 112, 113, 114, 115, 116, 117, 118, 119, 120, 121, 122, 123, 124, 125, 126, 127, 128, 129, 130, 131, 132, 133, 134, 135, 136, 137, 138, 139, 140, 141, 142, 143, 144, 145, 146, 147, 148, 149, 150, 151, 152, 59, 60, 61, 153, 154, 155, 156, 157, 158, 159, 160, 161, 162, 163, 164, 165, 166, 167, 168, 169, 170, 171, 172, 173, 174, 175, 176, 177, 178, 179, 180, 181, 182, 183, 184, 185, 186, 187, 188, 189, 190, 230, 231, 232, 233, 234, 235, 236, 237, 238, 239, 240, 241, 242, 243, 244, 245, 246, 247, 248, 249, 250, 251, 252, 253, 254, 255, 256] (by decide +kernel) (by decide +kernel)
set_option maxRecDepth 20000 in
theorem gX5_carryOut_X2_enter : GoodIn wsX5_carryOut (wsV RX5 100 RX2 yX2_enter wsX2_enter) := goodIn_app (goodIn_of _ (by decide +kernel)) ggX5_carryOut_X2_enter
set_option maxRecDepth 20000 in
theorem ggX5_carryOut_X5_memberFault : GoodIn wsX5_carryOut wsX5_memberFault := goodIn_r _ [194, 3, 21, 22, 15, 23, 24, 25, 26, 27, 28, 29, 217, 218, 219, 220, 221, 222, 223, 230, 231, 232, 233, 234, 235, 236, 237, 238, 239, 240, 241, 242, 243] (by decide +kernel) (by decide +kernel)
set_option maxRecDepth 20000 in
theorem gX5_carryOut_X5_memberFault : GoodIn wsX5_carryOut (wsV RX5 107 RX5 yX5_memberFault wsX5_memberFault) := goodIn_app (goodIn_of _ (by decide +kernel)) ggX5_carryOut_X5_memberFault
set_option maxRecDepth 20000 in
theorem ggX5_carryOut_X2_endIdentity : GoodIn wsX5_carryOut wsX2_endIdentity := goodIn_r _ [198, 75, 29, 79, 80, 100, 25, 26, 27, 28, 230, 231, 232, 233, 234, 235, 236, 237, 238, 239, 240, 241, 242, 243] (by decide +kernel) (by decide +kernel)
set_option maxRecDepth 20000 in
theorem gX5_carryOut_X2_endIdentity : GoodIn wsX5_carryOut (wsV RX5 110 RX2 yX2_endIdentity wsX2_endIdentity) := goodIn_app (goodIn_of _ (by decide +kernel)) ggX5_carryOut_X2_endIdentity
set_option maxRecDepth 20000 in
theorem ggX5_carryOut_X5_lookupFault : GoodIn wsX5_carryOut wsX5_lookupFault := goodIn_r _ [202, 21, 22, 15, 23, 191, 192, 193, 194, 3, 24, 25, 26, 27, 28, 29, 217, 218, 219, 220, 221, 222, 223, 230, 231, 232, 233, 234, 235, 236, 237, 238, 239, 240, 241, 242, 243] (by decide +kernel) (by decide +kernel)
set_option maxRecDepth 20000 in
theorem gX5_carryOut_X5_lookupFault : GoodIn wsX5_carryOut (wsV RX5 116 RX5 yX5_lookupFault wsX5_lookupFault) := goodIn_app (goodIn_of _ (by decide +kernel)) ggX5_carryOut_X5_lookupFault
set_option maxRecDepth 20000 in
theorem ggX5_carryOut_X2_makeLookup : GoodIn wsX5_carryOut wsX2_makeLookup := goodIn_r _ [135, 80, 136, 137, 138, 139, 140, 141, 142, 143, 144, 145, 146, 147, 148, 149, 150, 151, 152, 59, 60, 61, 153, 154, 155, 156, 157, 158, 159, 160, 161, 162, 163, 164, 165, 25, 26, 27, 28, 29, 166, 92, 88, 93, 167, 168, 169, 170, 171, 172, 173, 174, 175, 176, 177, 178, 179, 180, 181, 182, 75, 100, 94, 95, 96, 97, 76, 78, 98, 99, 101, 102, 103, 104, 67, 68, 69, 70, 105, 106, 107, 108, 109, 90, 110, 111, 112, 113, 114, 115, 116, 117, 118, 119, 120, 121, 122, 123, 124, 125, 126, 127, 128, 129, 130, 131, 183, 184, 185, 186, 230, 231, 232, 233, 234, 235, 236, 237, 238, 239, 240, 241, 242, 243, 247, 248, 249, 250, 251, 252, 253, 254, 255, 256, 244, 245, 246] (by decide +kernel) (by decide +kernel)
set_option maxRecDepth 20000 in
theorem gX5_carryOut_X2_makeLookup : GoodIn wsX5_carryOut (wsV RX5 120 RX2 yX2_makeLookup wsX2_makeLookup) := goodIn_app (goodIn_of _ (by decide +kernel)) ggX5_carryOut_X2_makeLookup
set_option maxRecDepth 20000 in
theorem ggX5_carryOut_X5_tickFault : GoodIn wsX5_carryOut wsX5_tickFault := goodIn_r _ [206, 21, 22, 15, 23] (by decide +kernel) (by decide +kernel)
set_option maxRecDepth 20000 in
theorem gX5_carryOut_X5_tickFault : GoodIn wsX5_carryOut (va_wsS RX5 62 yX5_tickFault wsX5_tickFault) := goodIn_app (goodIn_of _ (by decide +kernel)) ggX5_carryOut_X5_tickFault
set_option maxRecDepth 20000 in
theorem ggX5_carryOut_X2_passTime : GoodIn wsX5_carryOut wsX2_passTime := goodIn_r _ [210, 41, 75, 77, 211, 36, 37, 38, 27, 39, 40, 42, 43, 44, 45, 212, 213, 214, 215, 57, 216, 196, 197, 198, 29, 79, 80, 100, 25, 26, 28, 230, 231, 232, 233, 234, 235, 236, 237, 238, 239, 240, 241, 242, 243] (by decide +kernel) (by decide +kernel)
set_option maxRecDepth 20000 in
theorem gX5_carryOut_X2_passTime : GoodIn wsX5_carryOut (wsV RX5 70 RX2 yX2_passTime wsX2_passTime) := goodIn_app (goodIn_of _ (by decide +kernel)) ggX5_carryOut_X2_passTime
theorem dX5_carryOut_0 : decode cX5_carryOut 0 = .ok (.aload_n 0, 1) := by decide +kernel
theorem dX5_carryOut_1 : decode cX5_carryOut 1 = .ok (.getfield 19, 3) := by decide +kernel
theorem dX5_carryOut_4 : decode cX5_carryOut 4 = .ok (.iload_n 1, 1) := by decide +kernel
theorem dX5_carryOut_5 : decode cX5_carryOut 5 = .ok (.iconst 0, 1) := by decide +kernel
theorem dX5_carryOut_6 : decode cX5_carryOut 6 = .ok (.invokevirtual 222, 3) := by decide +kernel
theorem dX5_carryOut_9 : decode cX5_carryOut 9 = .ok (.istore_n 2, 1) := by decide +kernel
theorem dX5_carryOut_10 : decode cX5_carryOut 10 = .ok (.aload_n 0, 1) := by decide +kernel
theorem dX5_carryOut_11 : decode cX5_carryOut 11 = .ok (.getfield 19, 3) := by decide +kernel
theorem dX5_carryOut_14 : decode cX5_carryOut 14 = .ok (.iload_n 1, 1) := by decide +kernel
theorem dX5_carryOut_15 : decode cX5_carryOut 15 = .ok (.iconst 1, 1) := by decide +kernel
theorem dX5_carryOut_16 : decode cX5_carryOut 16 = .ok (.invokevirtual 222, 3) := by decide +kernel
theorem dX5_carryOut_19 : decode cX5_carryOut 19 = .ok (.istore_n 3, 1) := by decide +kernel
theorem dX5_carryOut_20 : decode cX5_carryOut 20 = .ok (.aload_n 0, 1) := by decide +kernel
theorem dX5_carryOut_21 : decode cX5_carryOut 21 = .ok (.getfield 19, 3) := by decide +kernel
theorem dX5_carryOut_24 : decode cX5_carryOut 24 = .ok (.getfield 225, 3) := by decide +kernel
theorem dX5_carryOut_27 : decode cX5_carryOut 27 = .ok (.iload_n 1, 1) := by decide +kernel
theorem dX5_carryOut_28 : decode cX5_carryOut 28 = .ok (.iaload, 1) := by decide +kernel
theorem dX5_carryOut_29 : decode cX5_carryOut 29 = .ok (.tableswitch 130 0 2 #[27, 83, 103], 27) := by decide +kernel
theorem dX5_carryOut_56 : decode cX5_carryOut 56 = .ok (.aload_n 0, 1) := by decide +kernel
theorem dX5_carryOut_57 : decode cX5_carryOut 57 = .ok (.getfield 26, 3) := by decide +kernel
theorem dX5_carryOut_60 : decode cX5_carryOut 60 = .ok (.getfield 113, 3) := by decide +kernel
theorem dX5_carryOut_63 : decode cX5_carryOut 63 = .ok (.ifCond .ne 7, 3) := by decide +kernel
theorem dX5_carryOut_66 : decode cX5_carryOut 66 = .ok (.iconst (-1), 1) := by decide +kernel
theorem dX5_carryOut_67 : decode cX5_carryOut 67 = .ok (.goto 12, 3) := by decide +kernel
theorem dX5_carryOut_70 : decode cX5_carryOut 70 = .ok (.aload_n 0, 1) := by decide +kernel
theorem dX5_carryOut_71 : decode cX5_carryOut 71 = .ok (.getfield 19, 3) := by decide +kernel
theorem dX5_carryOut_74 : decode cX5_carryOut 74 = .ok (.iload_n 1, 1) := by decide +kernel
theorem dX5_carryOut_75 : decode cX5_carryOut 75 = .ok (.iconst 2, 1) := by decide +kernel
theorem dX5_carryOut_76 : decode cX5_carryOut 76 = .ok (.invokevirtual 222, 3) := by decide +kernel
theorem dX5_carryOut_79 : decode cX5_carryOut 79 = .ok (.istore 4, 2) := by decide +kernel
theorem dX5_carryOut_81 : decode cX5_carryOut 81 = .ok (.aload_n 0, 1) := by decide +kernel
theorem dX5_carryOut_82 : decode cX5_carryOut 82 = .ok (.iload_n 2, 1) := by decide +kernel
theorem dX5_carryOut_83 : decode cX5_carryOut 83 = .ok (.iload_n 3, 1) := by decide +kernel
theorem dX5_carryOut_84 : decode cX5_carryOut 84 = .ok (.iload 4, 2) := by decide +kernel
theorem dX5_carryOut_86 : decode cX5_carryOut 86 = .ok (.invokevirtual 104, 3) := by decide +kernel
theorem dX5_carryOut_89 : decode cX5_carryOut 89 = .ok (.ifCond .eq 5, 3) := by decide +kernel
theorem dX5_carryOut_92 : decode cX5_carryOut 92 = .ok (.iconst 0, 1) := by decide +kernel
theorem dX5_carryOut_93 : decode cX5_carryOut 93 = .ok (.ireturn, 1) := by decide +kernel
theorem dX5_carryOut_94 : decode cX5_carryOut 94 = .ok (.aload_n 0, 1) := by decide +kernel
theorem dX5_carryOut_95 : decode cX5_carryOut 95 = .ok (.getfield 26, 3) := by decide +kernel
theorem dX5_carryOut_98 : decode cX5_carryOut 98 = .ok (.aload_n 0, 1) := by decide +kernel
theorem dX5_carryOut_99 : decode cX5_carryOut 99 = .ok (.getfield 10, 3) := by decide +kernel
theorem dX5_carryOut_102 : decode cX5_carryOut 102 = .ok (.iload_n 2, 1) := by decide +kernel
theorem dX5_carryOut_103 : decode cX5_carryOut 103 = .ok (.iload_n 3, 1) := by decide +kernel
theorem dX5_carryOut_104 : decode cX5_carryOut 104 = .ok (.iload 4, 2) := by decide +kernel
theorem dX5_carryOut_106 : decode cX5_carryOut 106 = .ok (.invokevirtual 100, 3) := by decide +kernel
theorem dX5_carryOut_109 : decode cX5_carryOut 109 = .ok (.pop, 1) := by decide +kernel
theorem dX5_carryOut_110 : decode cX5_carryOut 110 = .ok (.iconst 1, 1) := by decide +kernel
theorem dX5_carryOut_111 : decode cX5_carryOut 111 = .ok (.ireturn, 1) := by decide +kernel
theorem dX5_carryOut_112 : decode cX5_carryOut 112 = .ok (.aload_n 0, 1) := by decide +kernel
theorem dX5_carryOut_113 : decode cX5_carryOut 113 = .ok (.iload_n 2, 1) := by decide +kernel
theorem dX5_carryOut_114 : decode cX5_carryOut 114 = .ok (.invokevirtual 107, 3) := by decide +kernel
theorem dX5_carryOut_117 : decode cX5_carryOut 117 = .ok (.ifCond .eq 5, 3) := by decide +kernel
theorem dX5_carryOut_120 : decode cX5_carryOut 120 = .ok (.iconst 0, 1) := by decide +kernel
theorem dX5_carryOut_121 : decode cX5_carryOut 121 = .ok (.ireturn, 1) := by decide +kernel
theorem dX5_carryOut_122 : decode cX5_carryOut 122 = .ok (.aload_n 0, 1) := by decide +kernel
theorem dX5_carryOut_123 : decode cX5_carryOut 123 = .ok (.getfield 26, 3) := by decide +kernel
theorem dX5_carryOut_126 : decode cX5_carryOut 126 = .ok (.iload_n 2, 1) := by decide +kernel
theorem dX5_carryOut_127 : decode cX5_carryOut 127 = .ok (.invokevirtual 110, 3) := by decide +kernel
theorem dX5_carryOut_130 : decode cX5_carryOut 130 = .ok (.iconst 1, 1) := by decide +kernel
theorem dX5_carryOut_131 : decode cX5_carryOut 131 = .ok (.ireturn, 1) := by decide +kernel
theorem dX5_carryOut_132 : decode cX5_carryOut 132 = .ok (.aload_n 0, 1) := by decide +kernel
theorem dX5_carryOut_133 : decode cX5_carryOut 133 = .ok (.iload_n 2, 1) := by decide +kernel
theorem dX5_carryOut_134 : decode cX5_carryOut 134 = .ok (.iload_n 3, 1) := by decide +kernel
theorem dX5_carryOut_135 : decode cX5_carryOut 135 = .ok (.invokevirtual 116, 3) := by decide +kernel
theorem dX5_carryOut_138 : decode cX5_carryOut 138 = .ok (.ifCond .eq 5, 3) := by decide +kernel
theorem dX5_carryOut_141 : decode cX5_carryOut 141 = .ok (.iconst 0, 1) := by decide +kernel
theorem dX5_carryOut_142 : decode cX5_carryOut 142 = .ok (.ireturn, 1) := by decide +kernel
theorem dX5_carryOut_143 : decode cX5_carryOut 143 = .ok (.aload_n 0, 1) := by decide +kernel
theorem dX5_carryOut_144 : decode cX5_carryOut 144 = .ok (.getfield 26, 3) := by decide +kernel
theorem dX5_carryOut_147 : decode cX5_carryOut 147 = .ok (.aload_n 0, 1) := by decide +kernel
theorem dX5_carryOut_148 : decode cX5_carryOut 148 = .ok (.getfield 10, 3) := by decide +kernel
theorem dX5_carryOut_151 : decode cX5_carryOut 151 = .ok (.iload_n 2, 1) := by decide +kernel
theorem dX5_carryOut_152 : decode cX5_carryOut 152 = .ok (.iload_n 3, 1) := by decide +kernel
theorem dX5_carryOut_153 : decode cX5_carryOut 153 = .ok (.invokevirtual 120, 3) := by decide +kernel
theorem dX5_carryOut_156 : decode cX5_carryOut 156 = .ok (.pop, 1) := by decide +kernel
theorem dX5_carryOut_157 : decode cX5_carryOut 157 = .ok (.iconst 1, 1) := by decide +kernel
theorem dX5_carryOut_158 : decode cX5_carryOut 158 = .ok (.ireturn, 1) := by decide +kernel
theorem dX5_carryOut_159 : decode cX5_carryOut 159 = .ok (.iload_n 2, 1) := by decide +kernel
theorem dX5_carryOut_160 : decode cX5_carryOut 160 = .ok (.invokestatic 62, 3) := by decide +kernel
theorem dX5_carryOut_163 : decode cX5_carryOut 163 = .ok (.ifCond .eq 5, 3) := by decide +kernel
theorem dX5_carryOut_166 : decode cX5_carryOut 166 = .ok (.iconst 0, 1) := by decide +kernel
theorem dX5_carryOut_167 : decode cX5_carryOut 167 = .ok (.ireturn, 1) := by decide +kernel
theorem dX5_carryOut_168 : decode cX5_carryOut 168 = .ok (.aload_n 0, 1) := by decide +kernel
theorem dX5_carryOut_169 : decode cX5_carryOut 169 = .ok (.getfield 26, 3) := by decide +kernel
theorem dX5_carryOut_172 : decode cX5_carryOut 172 = .ok (.iload_n 2, 1) := by decide +kernel
theorem dX5_carryOut_173 : decode cX5_carryOut 173 = .ok (.invokevirtual 70, 3) := by decide +kernel
theorem dX5_carryOut_176 : decode cX5_carryOut 176 = .ok (.pop, 1) := by decide +kernel
theorem dX5_carryOut_177 : decode cX5_carryOut 177 = .ok (.iconst 1, 1) := by decide +kernel
theorem dX5_carryOut_178 : decode cX5_carryOut 178 = .ok (.ireturn, 1) := by decide +kernel
set_option maxRecDepth 20000 in
theorem ggX5_memberValue_X2_isMember : GoodIn wsX5_memberValue wsX2_isMember := goodIn_r _ [10, 11, 48, 49, 50, 51, 52, 53, 54, 55, 56, 57, 58, 59, 60, 61] (by decide +kernel) (by decide +kernel)
set_option maxRecDepth 20000 in
theorem gX5_memberValue_X2_isMember : GoodIn wsX5_memberValue (wsV RX5 144 RX2 yX2_isMember wsX2_isMember) := goodIn_app (goodIn_of _ (by decide +kernel)) ggX5_memberValue_X2_isMember
set_option maxRecDepth 20000 in
theorem ggX5_memberValue_X3_entriesOf : GoodIn wsX5_memberValue wsX3_entriesOf := goodIn_r _ [16, 17, 18, 19, 15, 20, 62, 63, 64] (by decide +kernel) (by decide +kernel)
set_option maxRecDepth 20000 in
theorem gX5_memberValue_X3_entriesOf : GoodIn wsX5_memberValue (wsV RX5 170 RX3 yX3_entriesOf wsX3_entriesOf) := goodIn_app (goodIn_of _ (by decide +kernel)) ggX5_memberValue_X3_entriesOf
set_option maxRecDepth 20000 in
theorem ggX5_memberValue_X2_tablesWith : GoodIn wsX5_memberValue wsX2_tablesWith := goodIn_r _ [24, 25, 26, 27, 28, 15, 29, 30, 31, 32, 33, 34, 35, 19, 20, 36, 37, 38, 39, 17, 40, 48, 49, 50, 51, 52, 53, 54, 55, 56, 57, 58, 59, 60, 61, 62, 63, 64] (by decide +kernel) (by decide +kernel)
set_option maxRecDepth 20000 in
theorem gX5_memberValue_X2_tablesWith : GoodIn wsX5_memberValue (wsV RX5 232 RX2 yX2_tablesWith wsX2_tablesWith) := goodIn_app (goodIn_of _ (by decide +kernel)) ggX5_memberValue_X2_tablesWith
theorem dX5_memberValue_0 : decode cX5_memberValue 0 = .ok (.aload_n 0, 1) := by decide +kernel
theorem dX5_memberValue_1 : decode cX5_memberValue 1 = .ok (.getfield 26, 3) := by decide +kernel
theorem dX5_memberValue_4 : decode cX5_memberValue 4 = .ok (.iload_n 1, 1) := by decide +kernel
theorem dX5_memberValue_5 : decode cX5_memberValue 5 = .ok (.invokevirtual 144, 3) := by decide +kernel
theorem dX5_memberValue_8 : decode cX5_memberValue 8 = .ok (.istore_n 3, 1) := by decide +kernel
theorem dX5_memberValue_9 : decode cX5_memberValue 9 = .ok (.iload_n 2, 1) := by decide +kernel
theorem dX5_memberValue_10 : decode cX5_memberValue 10 = .ok (.ifCond .ne 13, 3) := by decide +kernel
theorem dX5_memberValue_13 : decode cX5_memberValue 13 = .ok (.iload_n 3, 1) := by decide +kernel
theorem dX5_memberValue_14 : decode cX5_memberValue 14 = .ok (.ifCond .eq 7, 3) := by decide +kernel
theorem dX5_memberValue_17 : decode cX5_memberValue 17 = .ok (.iconst 1, 1) := by decide +kernel
theorem dX5_memberValue_18 : decode cX5_memberValue 18 = .ok (.goto 4, 3) := by decide +kernel
theorem dX5_memberValue_21 : decode cX5_memberValue 21 = .ok (.iconst 0, 1) := by decide +kernel
theorem dX5_memberValue_22 : decode cX5_memberValue 22 = .ok (.ireturn, 1) := by decide +kernel
theorem dX5_memberValue_23 : decode cX5_memberValue 23 = .ok (.iload_n 3, 1) := by decide +kernel
theorem dX5_memberValue_24 : decode cX5_memberValue 24 = .ok (.ifCond .ne 5, 3) := by decide +kernel
theorem dX5_memberValue_27 : decode cX5_memberValue 27 = .ok (.iconst (-1), 1) := by decide +kernel
theorem dX5_memberValue_28 : decode cX5_memberValue 28 = .ok (.ireturn, 1) := by decide +kernel
theorem dX5_memberValue_29 : decode cX5_memberValue 29 = .ok (.aload_n 0, 1) := by decide +kernel
theorem dX5_memberValue_30 : decode cX5_memberValue 30 = .ok (.getfield 26, 3) := by decide +kernel
theorem dX5_memberValue_33 : decode cX5_memberValue 33 = .ok (.getfield 148, 3) := by decide +kernel
theorem dX5_memberValue_36 : decode cX5_memberValue 36 = .ok (.iload_n 1, 1) := by decide +kernel
theorem dX5_memberValue_37 : decode cX5_memberValue 37 = .ok (.iaload, 1) := by decide +kernel
theorem dX5_memberValue_38 : decode cX5_memberValue 38 = .ok (.istore 4, 2) := by decide +kernel
theorem dX5_memberValue_40 : decode cX5_memberValue 40 = .ok (.iload_n 2, 1) := by decide +kernel
theorem dX5_memberValue_41 : decode cX5_memberValue 41 = .ok (.tableswitch 62 1 3 #[27, 38, 49], 27) := by decide +kernel
theorem dX5_memberValue_68 : decode cX5_memberValue 68 = .ok (.aload_n 0, 1) := by decide +kernel
theorem dX5_memberValue_69 : decode cX5_memberValue 69 = .ok (.getfield 26, 3) := by decide +kernel
theorem dX5_memberValue_72 : decode cX5_memberValue 72 = .ok (.getfield 228, 3) := by decide +kernel
theorem dX5_memberValue_75 : decode cX5_memberValue 75 = .ok (.iload 4, 2) := by decide +kernel
theorem dX5_memberValue_77 : decode cX5_memberValue 77 = .ok (.iaload, 1) := by decide +kernel
theorem dX5_memberValue_78 : decode cX5_memberValue 78 = .ok (.ireturn, 1) := by decide +kernel
theorem dX5_memberValue_79 : decode cX5_memberValue 79 = .ok (.aload_n 0, 1) := by decide +kernel
theorem dX5_memberValue_80 : decode cX5_memberValue 80 = .ok (.getfield 26, 3) := by decide +kernel
theorem dX5_memberValue_83 : decode cX5_memberValue 83 = .ok (.getfield 229, 3) := by decide +kernel
theorem dX5_memberValue_86 : decode cX5_memberValue 86 = .ok (.iload 4, 2) := by decide +kernel
theorem dX5_memberValue_88 : decode cX5_memberValue 88 = .ok (.iaload, 1) := by decide +kernel
theorem dX5_memberValue_89 : decode cX5_memberValue 89 = .ok (.ireturn, 1) := by decide +kernel
theorem dX5_memberValue_90 : decode cX5_memberValue 90 = .ok (.aload_n 0, 1) := by decide +kernel
theorem dX5_memberValue_91 : decode cX5_memberValue 91 = .ok (.getfield 26, 3) := by decide +kernel
theorem dX5_memberValue_94 : decode cX5_memberValue 94 = .ok (.getfield 157, 3) := by decide +kernel
theorem dX5_memberValue_97 : decode cX5_memberValue 97 = .ok (.iload 4, 2) := by decide +kernel
theorem dX5_memberValue_99 : decode cX5_memberValue 99 = .ok (.invokevirtual 170, 3) := by decide +kernel
theorem dX5_memberValue_102 : decode cX5_memberValue 102 = .ok (.ireturn, 1) := by decide +kernel
theorem dX5_memberValue_103 : decode cX5_memberValue 103 = .ok (.aload_n 0, 1) := by decide +kernel
theorem dX5_memberValue_104 : decode cX5_memberValue 104 = .ok (.getfield 26, 3) := by decide +kernel
theorem dX5_memberValue_107 : decode cX5_memberValue 107 = .ok (.iload_n 1, 1) := by decide +kernel
theorem dX5_memberValue_108 : decode cX5_memberValue 108 = .ok (.invokevirtual 232, 3) := by decide +kernel
theorem dX5_memberValue_111 : decode cX5_memberValue 111 = .ok (.ireturn, 1) := by decide +kernel
set_option maxRecDepth 20000 in
theorem ggX5_overlayValue_X2_epoch : GoodIn wsX5_overlayValue wsX2_epoch := goodIn_r _ [12, 13, 14, 15, 16, 17, 18, 45, 46, 47, 48, 49, 50, 51, 52, 53, 54, 55, 56, 57, 58] (by decide +kernel) (by decide +kernel)
set_option maxRecDepth 20000 in
theorem gX5_overlayValue_X2_epoch : GoodIn wsX5_overlayValue (wsV RX5 238 RX2 yX2_epoch wsX2_epoch) := goodIn_app (goodIn_of _ (by decide +kernel)) ggX5_overlayValue_X2_epoch
set_option maxRecDepth 20000 in
theorem ggX5_overlayValue_X2_difficulty : GoodIn wsX5_overlayValue wsX2_difficulty := goodIn_r _ [22, 23, 24, 25, 26, 27, 28, 45, 46, 47, 48, 49, 50, 51, 52, 53, 54, 55, 56, 57, 58] (by decide +kernel) (by decide +kernel)
set_option maxRecDepth 20000 in
theorem gX5_overlayValue_X2_difficulty : GoodIn wsX5_overlayValue (wsV RX5 241 RX2 yX2_difficulty wsX2_difficulty) := goodIn_app (goodIn_of _ (by decide +kernel)) ggX5_overlayValue_X2_difficulty
set_option maxRecDepth 20000 in
theorem ggX5_overlayValue_X2_largestOrigin : GoodIn wsX5_overlayValue wsX2_largestOrigin := goodIn_r _ [32, 33, 34, 35, 36, 27, 37, 45, 46, 47, 48, 49, 50, 51, 52, 53, 54, 55, 56, 57, 58] (by decide +kernel) (by decide +kernel)
set_option maxRecDepth 20000 in
theorem gX5_overlayValue_X2_largestOrigin : GoodIn wsX5_overlayValue (wsV RX5 250 RX2 yX2_largestOrigin wsX2_largestOrigin) := goodIn_app (goodIn_of _ (by decide +kernel)) ggX5_overlayValue_X2_largestOrigin
theorem dX5_overlayValue_0 : decode cX5_overlayValue 0 = .ok (.iload_n 1, 1) := by decide +kernel
theorem dX5_overlayValue_1 : decode cX5_overlayValue 1 = .ok (.tableswitch 111 0 7 #[47, 55, 63, 71, 79, 87, 95, 103], 47) := by decide +kernel
theorem dX5_overlayValue_48 : decode cX5_overlayValue 48 = .ok (.aload_n 0, 1) := by decide +kernel
theorem dX5_overlayValue_49 : decode cX5_overlayValue 49 = .ok (.getfield 26, 3) := by decide +kernel
theorem dX5_overlayValue_52 : decode cX5_overlayValue 52 = .ok (.getfield 113, 3) := by decide +kernel
theorem dX5_overlayValue_55 : decode cX5_overlayValue 55 = .ok (.ireturn, 1) := by decide +kernel
theorem dX5_overlayValue_56 : decode cX5_overlayValue 56 = .ok (.aload_n 0, 1) := by decide +kernel
theorem dX5_overlayValue_57 : decode cX5_overlayValue 57 = .ok (.getfield 26, 3) := by decide +kernel
theorem dX5_overlayValue_60 : decode cX5_overlayValue 60 = .ok (.getfield 235, 3) := by decide +kernel
theorem dX5_overlayValue_63 : decode cX5_overlayValue 63 = .ok (.ireturn, 1) := by decide +kernel
theorem dX5_overlayValue_64 : decode cX5_overlayValue 64 = .ok (.aload_n 0, 1) := by decide +kernel
theorem dX5_overlayValue_65 : decode cX5_overlayValue 65 = .ok (.getfield 26, 3) := by decide +kernel
theorem dX5_overlayValue_68 : decode cX5_overlayValue 68 = .ok (.invokevirtual 238, 3) := by decide +kernel
theorem dX5_overlayValue_71 : decode cX5_overlayValue 71 = .ok (.ireturn, 1) := by decide +kernel
theorem dX5_overlayValue_72 : decode cX5_overlayValue 72 = .ok (.aload_n 0, 1) := by decide +kernel
theorem dX5_overlayValue_73 : decode cX5_overlayValue 73 = .ok (.getfield 26, 3) := by decide +kernel
theorem dX5_overlayValue_76 : decode cX5_overlayValue 76 = .ok (.invokevirtual 241, 3) := by decide +kernel
theorem dX5_overlayValue_79 : decode cX5_overlayValue 79 = .ok (.ireturn, 1) := by decide +kernel
theorem dX5_overlayValue_80 : decode cX5_overlayValue 80 = .ok (.aload_n 0, 1) := by decide +kernel
theorem dX5_overlayValue_81 : decode cX5_overlayValue 81 = .ok (.getfield 26, 3) := by decide +kernel
theorem dX5_overlayValue_84 : decode cX5_overlayValue 84 = .ok (.getfield 244, 3) := by decide +kernel
theorem dX5_overlayValue_87 : decode cX5_overlayValue 87 = .ok (.ireturn, 1) := by decide +kernel
theorem dX5_overlayValue_88 : decode cX5_overlayValue 88 = .ok (.aload_n 0, 1) := by decide +kernel
theorem dX5_overlayValue_89 : decode cX5_overlayValue 89 = .ok (.getfield 26, 3) := by decide +kernel
theorem dX5_overlayValue_92 : decode cX5_overlayValue 92 = .ok (.getfield 59, 3) := by decide +kernel
theorem dX5_overlayValue_95 : decode cX5_overlayValue 95 = .ok (.ireturn, 1) := by decide +kernel
theorem dX5_overlayValue_96 : decode cX5_overlayValue 96 = .ok (.aload_n 0, 1) := by decide +kernel
theorem dX5_overlayValue_97 : decode cX5_overlayValue 97 = .ok (.getfield 26, 3) := by decide +kernel
theorem dX5_overlayValue_100 : decode cX5_overlayValue 100 = .ok (.getfield 56, 3) := by decide +kernel
theorem dX5_overlayValue_103 : decode cX5_overlayValue 103 = .ok (.ireturn, 1) := by decide +kernel
theorem dX5_overlayValue_104 : decode cX5_overlayValue 104 = .ok (.aload_n 0, 1) := by decide +kernel
theorem dX5_overlayValue_105 : decode cX5_overlayValue 105 = .ok (.getfield 26, 3) := by decide +kernel
theorem dX5_overlayValue_108 : decode cX5_overlayValue 108 = .ok (.getfield 247, 3) := by decide +kernel
theorem dX5_overlayValue_111 : decode cX5_overlayValue 111 = .ok (.ireturn, 1) := by decide +kernel
theorem dX5_overlayValue_112 : decode cX5_overlayValue 112 = .ok (.aload_n 0, 1) := by decide +kernel
theorem dX5_overlayValue_113 : decode cX5_overlayValue 113 = .ok (.getfield 26, 3) := by decide +kernel
theorem dX5_overlayValue_116 : decode cX5_overlayValue 116 = .ok (.invokevirtual 250, 3) := by decide +kernel
theorem dX5_overlayValue_119 : decode cX5_overlayValue 119 = .ok (.ireturn, 1) := by decide +kernel
theorem dX5_isOutside_0 : decode cX5_isOutside 0 = .ok (.iload_n 0, 1) := by decide +kernel
theorem dX5_isOutside_1 : decode cX5_isOutside 1 = .ok (.iload_n 1, 1) := by decide +kernel
theorem dX5_isOutside_2 : decode cX5_isOutside 2 = .ok (.if_icmp .lt 8, 3) := by decide +kernel
theorem dX5_isOutside_5 : decode cX5_isOutside 5 = .ok (.iload_n 0, 1) := by decide +kernel
theorem dX5_isOutside_6 : decode cX5_isOutside 6 = .ok (.iload_n 2, 1) := by decide +kernel
theorem dX5_isOutside_7 : decode cX5_isOutside 7 = .ok (.if_icmp .le 7, 3) := by decide +kernel
theorem dX5_isOutside_10 : decode cX5_isOutside 10 = .ok (.iconst 1, 1) := by decide +kernel
theorem dX5_isOutside_11 : decode cX5_isOutside 11 = .ok (.goto 4, 3) := by decide +kernel
theorem dX5_isOutside_14 : decode cX5_isOutside 14 = .ok (.iconst 0, 1) := by decide +kernel
theorem dX5_isOutside_15 : decode cX5_isOutside 15 = .ok (.ireturn, 1) := by decide +kernel
set_option maxRecDepth 20000 in
theorem ggX5_refuseOutside_X5_isOutside : GoodIn wsX5_refuseOutside wsX5_isOutside := goodIn_r _ [6] (by decide +kernel) (by decide +kernel)
set_option maxRecDepth 20000 in
theorem gX5_refuseOutside_X5_isOutside : GoodIn wsX5_refuseOutside (va_wsS RX5 253 yX5_isOutside wsX5_isOutside) := goodIn_app (goodIn_of _ (by decide +kernel)) ggX5_refuseOutside_X5_isOutside
theorem dX5_refuseOutside_0 : decode cX5_refuseOutside 0 = .ok (.iload_n 0, 1) := by decide +kernel
theorem dX5_refuseOutside_1 : decode cX5_refuseOutside 1 = .ok (.iload_n 1, 1) := by decide +kernel
theorem dX5_refuseOutside_2 : decode cX5_refuseOutside 2 = .ok (.iload_n 2, 1) := by decide +kernel
theorem dX5_refuseOutside_3 : decode cX5_refuseOutside 3 = .ok (.invokestatic 253, 3) := by decide +kernel
theorem dX5_refuseOutside_6 : decode cX5_refuseOutside 6 = .ok (.ifCond .eq 14, 3) := by decide +kernel
theorem dX5_refuseOutside_9 : decode cX5_refuseOutside 9 = .ok (.new 257, 3) := by decide +kernel
theorem dX5_refuseOutside_12 : decode cX5_refuseOutside 12 = .ok (.dup, 1) := by decide +kernel
theorem dX5_refuseOutside_13 : decode cX5_refuseOutside 13 = .ok (.ldc_w 259, 3) := by decide +kernel
theorem dX5_refuseOutside_16 : decode cX5_refuseOutside 16 = .ok (.invokespecial 261, 3) := by decide +kernel
theorem dX5_refuseOutside_19 : decode cX5_refuseOutside 19 = .ok (.athrow, 1) := by decide +kernel
theorem dX5_refuseOutside_20 : decode cX5_refuseOutside 20 = .ok (.return_, 1) := by decide +kernel
theorem dX5_refuseNegative_0 : decode cX5_refuseNegative 0 = .ok (.iload_n 0, 1) := by decide +kernel
theorem dX5_refuseNegative_1 : decode cX5_refuseNegative 1 = .ok (.ifCond .ge 14, 3) := by decide +kernel
theorem dX5_refuseNegative_4 : decode cX5_refuseNegative 4 = .ok (.new 257, 3) := by decide +kernel
theorem dX5_refuseNegative_7 : decode cX5_refuseNegative 7 = .ok (.dup, 1) := by decide +kernel
theorem dX5_refuseNegative_8 : decode cX5_refuseNegative 8 = .ok (.ldc_w 262, 3) := by decide +kernel
theorem dX5_refuseNegative_11 : decode cX5_refuseNegative 11 = .ok (.invokespecial 261, 3) := by decide +kernel
theorem dX5_refuseNegative_14 : decode cX5_refuseNegative 14 = .ok (.athrow, 1) := by decide +kernel
theorem dX5_refuseNegative_15 : decode cX5_refuseNegative 15 = .ok (.return_, 1) := by decide +kernel
theorem dX5_raise_0 : decode cX5_raise 0 = .ok (.iload_n 0, 1) := by decide +kernel
theorem dX5_raise_1 : decode cX5_raise 1 = .ok (.iconst 1, 1) := by decide +kernel
theorem dX5_raise_2 : decode cX5_raise 2 = .ok (.if_icmp .ne 14, 3) := by decide +kernel
theorem dX5_raise_5 : decode cX5_raise 5 = .ok (.new 257, 3) := by decide +kernel
theorem dX5_raise_8 : decode cX5_raise 8 = .ok (.dup, 1) := by decide +kernel
theorem dX5_raise_9 : decode cX5_raise 9 = .ok (.ldc_w 259, 3) := by decide +kernel
theorem dX5_raise_12 : decode cX5_raise 12 = .ok (.invokespecial 261, 3) := by decide +kernel
theorem dX5_raise_15 : decode cX5_raise 15 = .ok (.athrow, 1) := by decide +kernel
theorem dX5_raise_16 : decode cX5_raise 16 = .ok (.iload_n 0, 1) := by decide +kernel
theorem dX5_raise_17 : decode cX5_raise 17 = .ok (.iconst 2, 1) := by decide +kernel
theorem dX5_raise_18 : decode cX5_raise 18 = .ok (.if_icmp .ne 14, 3) := by decide +kernel
theorem dX5_raise_21 : decode cX5_raise 21 = .ok (.new 185, 3) := by decide +kernel
theorem dX5_raise_24 : decode cX5_raise 24 = .ok (.dup, 1) := by decide +kernel
theorem dX5_raise_25 : decode cX5_raise 25 = .ok (.ldc_w 264, 3) := by decide +kernel
theorem dX5_raise_28 : decode cX5_raise 28 = .ok (.invokespecial 189, 3) := by decide +kernel
theorem dX5_raise_31 : decode cX5_raise 31 = .ok (.athrow, 1) := by decide +kernel
theorem dX5_raise_32 : decode cX5_raise 32 = .ok (.iload_n 0, 1) := by decide +kernel
theorem dX5_raise_33 : decode cX5_raise 33 = .ok (.iconst 3, 1) := by decide +kernel
theorem dX5_raise_34 : decode cX5_raise 34 = .ok (.if_icmp .ne 14, 3) := by decide +kernel
theorem dX5_raise_37 : decode cX5_raise 37 = .ok (.new 93, 3) := by decide +kernel
theorem dX5_raise_40 : decode cX5_raise 40 = .ok (.dup, 1) := by decide +kernel
theorem dX5_raise_41 : decode cX5_raise 41 = .ok (.ldc_w 266, 3) := by decide +kernel
theorem dX5_raise_44 : decode cX5_raise 44 = .ok (.invokespecial 97, 3) := by decide +kernel
theorem dX5_raise_47 : decode cX5_raise 47 = .ok (.athrow, 1) := by decide +kernel
theorem dX5_raise_48 : decode cX5_raise 48 = .ok (.return_, 1) := by decide +kernel
set_option maxRecDepth 20000 in
theorem ggX5_tickFault_X5_isOutside : GoodIn wsX5_tickFault wsX5_isOutside := goodIn_r _ [4] (by decide +kernel) (by decide +kernel)
set_option maxRecDepth 20000 in
theorem gX5_tickFault_X5_isOutside : GoodIn wsX5_tickFault (va_wsS RX5 253 yX5_isOutside wsX5_isOutside) := goodIn_app (goodIn_of _ (by decide +kernel)) ggX5_tickFault_X5_isOutside
theorem dX5_tickFault_0 : decode cX5_tickFault 0 = .ok (.iload_n 0, 1) := by decide +kernel
theorem dX5_tickFault_1 : decode cX5_tickFault 1 = .ok (.iconst 1, 1) := by decide +kernel
theorem dX5_tickFault_2 : decode cX5_tickFault 2 = .ok (.sipush 500, 3) := by decide +kernel
theorem dX5_tickFault_5 : decode cX5_tickFault 5 = .ok (.invokestatic 253, 3) := by decide +kernel
theorem dX5_tickFault_8 : decode cX5_tickFault 8 = .ok (.ifCond .eq 7, 3) := by decide +kernel
theorem dX5_tickFault_11 : decode cX5_tickFault 11 = .ok (.iconst 1, 1) := by decide +kernel
theorem dX5_tickFault_12 : decode cX5_tickFault 12 = .ok (.goto 4, 3) := by decide +kernel
theorem dX5_tickFault_15 : decode cX5_tickFault 15 = .ok (.iconst 0, 1) := by decide +kernel
theorem dX5_tickFault_16 : decode cX5_tickFault 16 = .ok (.ireturn, 1) := by decide +kernel
set_option maxRecDepth 20000 in
theorem ggX5_memberFault_X5_isOutside : GoodIn wsX5_memberFault wsX5_isOutside := goodIn_r _ [5] (by decide +kernel) (by decide +kernel)
set_option maxRecDepth 20000 in
theorem gX5_memberFault_X5_isOutside : GoodIn wsX5_memberFault (va_wsS RX5 253 yX5_isOutside wsX5_isOutside) := goodIn_app (goodIn_of _ (by decide +kernel)) ggX5_memberFault_X5_isOutside
set_option maxRecDepth 20000 in
theorem ggX5_memberFault_X2_isMember : GoodIn wsX5_memberFault wsX2_isMember := goodIn_r _ [10, 11, 19, 20, 21, 22, 23, 24, 25, 26, 27, 28, 29, 30, 31, 32] (by decide +kernel) (by decide +kernel)
set_option maxRecDepth 20000 in
theorem gX5_memberFault_X2_isMember : GoodIn wsX5_memberFault (wsV RX5 144 RX2 yX2_isMember wsX2_isMember) := goodIn_app (goodIn_of _ (by decide +kernel)) ggX5_memberFault_X2_isMember
theorem dX5_memberFault_0 : decode cX5_memberFault 0 = .ok (.iload_n 1, 1) := by decide +kernel
theorem dX5_memberFault_1 : decode cX5_memberFault 1 = .ok (.iconst 0, 1) := by decide +kernel
theorem dX5_memberFault_2 : decode cX5_memberFault 2 = .ok (.sipush 255, 3) := by decide +kernel
theorem dX5_memberFault_5 : decode cX5_memberFault 5 = .ok (.invokestatic 253, 3) := by decide +kernel
theorem dX5_memberFault_8 : decode cX5_memberFault 8 = .ok (.ifCond .eq 5, 3) := by decide +kernel
theorem dX5_memberFault_11 : decode cX5_memberFault 11 = .ok (.iconst 1, 1) := by decide +kernel
theorem dX5_memberFault_12 : decode cX5_memberFault 12 = .ok (.ireturn, 1) := by decide +kernel
theorem dX5_memberFault_13 : decode cX5_memberFault 13 = .ok (.aload_n 0, 1) := by decide +kernel
theorem dX5_memberFault_14 : decode cX5_memberFault 14 = .ok (.getfield 26, 3) := by decide +kernel
theorem dX5_memberFault_17 : decode cX5_memberFault 17 = .ok (.iload_n 1, 1) := by decide +kernel
theorem dX5_memberFault_18 : decode cX5_memberFault 18 = .ok (.invokevirtual 144, 3) := by decide +kernel
theorem dX5_memberFault_21 : decode cX5_memberFault 21 = .ok (.ifCond .eq 7, 3) := by decide +kernel
theorem dX5_memberFault_24 : decode cX5_memberFault 24 = .ok (.iconst 0, 1) := by decide +kernel
theorem dX5_memberFault_25 : decode cX5_memberFault 25 = .ok (.goto 4, 3) := by decide +kernel
theorem dX5_memberFault_28 : decode cX5_memberFault 28 = .ok (.iconst 2, 1) := by decide +kernel
theorem dX5_memberFault_29 : decode cX5_memberFault 29 = .ok (.ireturn, 1) := by decide +kernel
set_option maxRecDepth 20000 in
theorem ggX5_lookupFault_X5_isOutside : GoodIn wsX5_lookupFault wsX5_isOutside := goodIn_r _ [4] (by decide +kernel) (by decide +kernel)
set_option maxRecDepth 20000 in
theorem gX5_lookupFault_X5_isOutside : GoodIn wsX5_lookupFault (va_wsS RX5 253 yX5_isOutside wsX5_isOutside) := goodIn_app (goodIn_of _ (by decide +kernel)) ggX5_lookupFault_X5_isOutside
set_option maxRecDepth 20000 in
theorem ggX5_lookupFault_X5_memberFault : GoodIn wsX5_lookupFault wsX5_memberFault := goodIn_r _ [8, 9, 1, 2, 3, 4, 10, 11, 12, 13, 14, 15, 16, 17, 18, 19, 20, 21, 22, 23, 24, 25, 26, 27, 28, 29, 30, 31, 32, 33, 34, 35, 36] (by decide +kernel) (by decide +kernel)
set_option maxRecDepth 20000 in
theorem gX5_lookupFault_X5_memberFault : GoodIn wsX5_lookupFault (wsV RX5 107 RX5 yX5_memberFault wsX5_memberFault) := goodIn_app (goodIn_of _ (by decide +kernel)) ggX5_lookupFault_X5_memberFault
theorem dX5_lookupFault_0 : decode cX5_lookupFault 0 = .ok (.iload_n 2, 1) := by decide +kernel
theorem dX5_lookupFault_1 : decode cX5_lookupFault 1 = .ok (.iconst 0, 1) := by decide +kernel
theorem dX5_lookupFault_2 : decode cX5_lookupFault 2 = .ok (.sipush 255, 3) := by decide +kernel
theorem dX5_lookupFault_5 : decode cX5_lookupFault 5 = .ok (.invokestatic 253, 3) := by decide +kernel
theorem dX5_lookupFault_8 : decode cX5_lookupFault 8 = .ok (.ifCond .eq 5, 3) := by decide +kernel
theorem dX5_lookupFault_11 : decode cX5_lookupFault 11 = .ok (.iconst 1, 1) := by decide +kernel
theorem dX5_lookupFault_12 : decode cX5_lookupFault 12 = .ok (.ireturn, 1) := by decide +kernel
theorem dX5_lookupFault_13 : decode cX5_lookupFault 13 = .ok (.aload_n 0, 1) := by decide +kernel
theorem dX5_lookupFault_14 : decode cX5_lookupFault 14 = .ok (.iload_n 1, 1) := by decide +kernel
theorem dX5_lookupFault_15 : decode cX5_lookupFault 15 = .ok (.invokevirtual 107, 3) := by decide +kernel
theorem dX5_lookupFault_18 : decode cX5_lookupFault 18 = .ok (.ireturn, 1) := by decide +kernel
set_option maxRecDepth 20000 in
theorem ggX5_entryFault_X5_isOutside : GoodIn wsX5_entryFault wsX5_isOutside := goodIn_r _ [6] (by decide +kernel) (by decide +kernel)
set_option maxRecDepth 20000 in
theorem gX5_entryFault_X5_isOutside : GoodIn wsX5_entryFault (va_wsS RX5 253 yX5_isOutside wsX5_isOutside) := goodIn_app (goodIn_of _ (by decide +kernel)) ggX5_entryFault_X5_isOutside
set_option maxRecDepth 20000 in
theorem ggX5_entryFault_X2_isMember : GoodIn wsX5_entryFault wsX2_isMember := goodIn_r _ [11, 12, 20, 21, 22, 23, 24, 25, 26, 27, 28, 29, 30, 31, 32, 33] (by decide +kernel) (by decide +kernel)
set_option maxRecDepth 20000 in
theorem gX5_entryFault_X2_isMember : GoodIn wsX5_entryFault (wsV RX5 144 RX2 yX2_isMember wsX2_isMember) := goodIn_app (goodIn_of _ (by decide +kernel)) ggX5_entryFault_X2_isMember
theorem dX5_entryFault_0 : decode cX5_entryFault 0 = .ok (.iload_n 1, 1) := by decide +kernel
theorem dX5_entryFault_1 : decode cX5_entryFault 1 = .ok (.iconst 0, 1) := by decide +kernel
theorem dX5_entryFault_2 : decode cX5_entryFault 2 = .ok (.sipush 255, 3) := by decide +kernel
theorem dX5_entryFault_5 : decode cX5_entryFault 5 = .ok (.invokestatic 253, 3) := by decide +kernel
theorem dX5_entryFault_8 : decode cX5_entryFault 8 = .ok (.ifCond .ne 24, 3) := by decide +kernel
theorem dX5_entryFault_11 : decode cX5_entryFault 11 = .ok (.iload_n 2, 1) := by decide +kernel
theorem dX5_entryFault_12 : decode cX5_entryFault 12 = .ok (.iconst 0, 1) := by decide +kernel
theorem dX5_entryFault_13 : decode cX5_entryFault 13 = .ok (.bipush 7, 2) := by decide +kernel
theorem dX5_entryFault_15 : decode cX5_entryFault 15 = .ok (.invokestatic 253, 3) := by decide +kernel
theorem dX5_entryFault_18 : decode cX5_entryFault 18 = .ok (.ifCond .ne 14, 3) := by decide +kernel
theorem dX5_entryFault_21 : decode cX5_entryFault 21 = .ok (.iload_n 3, 1) := by decide +kernel
theorem dX5_entryFault_22 : decode cX5_entryFault 22 = .ok (.iconst (-1), 1) := by decide +kernel
theorem dX5_entryFault_23 : decode cX5_entryFault 23 = .ok (.sipush 255, 3) := by decide +kernel
theorem dX5_entryFault_26 : decode cX5_entryFault 26 = .ok (.invokestatic 253, 3) := by decide +kernel
theorem dX5_entryFault_29 : decode cX5_entryFault 29 = .ok (.ifCond .eq 5, 3) := by decide +kernel
theorem dX5_entryFault_32 : decode cX5_entryFault 32 = .ok (.iconst 1, 1) := by decide +kernel
theorem dX5_entryFault_33 : decode cX5_entryFault 33 = .ok (.ireturn, 1) := by decide +kernel
theorem dX5_entryFault_34 : decode cX5_entryFault 34 = .ok (.aload_n 0, 1) := by decide +kernel
theorem dX5_entryFault_35 : decode cX5_entryFault 35 = .ok (.getfield 26, 3) := by decide +kernel
theorem dX5_entryFault_38 : decode cX5_entryFault 38 = .ok (.iload_n 1, 1) := by decide +kernel
theorem dX5_entryFault_39 : decode cX5_entryFault 39 = .ok (.invokevirtual 144, 3) := by decide +kernel
theorem dX5_entryFault_42 : decode cX5_entryFault 42 = .ok (.ifCond .ne 15, 3) := by decide +kernel
theorem dX5_entryFault_45 : decode cX5_entryFault 45 = .ok (.aload_n 0, 1) := by decide +kernel
theorem dX5_entryFault_46 : decode cX5_entryFault 46 = .ok (.getfield 26, 3) := by decide +kernel
theorem dX5_entryFault_49 : decode cX5_entryFault 49 = .ok (.getfield 113, 3) := by decide +kernel
theorem dX5_entryFault_52 : decode cX5_entryFault 52 = .ok (.bipush 24, 2) := by decide +kernel
theorem dX5_entryFault_54 : decode cX5_entryFault 54 = .ok (.if_icmp .lt 5, 3) := by decide +kernel
theorem dX5_entryFault_57 : decode cX5_entryFault 57 = .ok (.iconst 2, 1) := by decide +kernel
theorem dX5_entryFault_58 : decode cX5_entryFault 58 = .ok (.ireturn, 1) := by decide +kernel
theorem dX5_entryFault_59 : decode cX5_entryFault 59 = .ok (.aload_n 0, 1) := by decide +kernel
theorem dX5_entryFault_60 : decode cX5_entryFault 60 = .ok (.getfield 26, 3) := by decide +kernel
theorem dX5_entryFault_63 : decode cX5_entryFault 63 = .ok (.getfield 113, 3) := by decide +kernel
theorem dX5_entryFault_66 : decode cX5_entryFault 66 = .ok (.ifCond .ne 16, 3) := by decide +kernel
theorem dX5_entryFault_69 : decode cX5_entryFault 69 = .ok (.iload_n 3, 1) := by decide +kernel
theorem dX5_entryFault_70 : decode cX5_entryFault 70 = .ok (.iconst (-1), 1) := by decide +kernel
theorem dX5_entryFault_71 : decode cX5_entryFault 71 = .ok (.if_icmp .ne 7, 3) := by decide +kernel
theorem dX5_entryFault_74 : decode cX5_entryFault 74 = .ok (.iconst 1, 1) := by decide +kernel
theorem dX5_entryFault_75 : decode cX5_entryFault 75 = .ok (.goto 15, 3) := by decide +kernel
theorem dX5_entryFault_78 : decode cX5_entryFault 78 = .ok (.iconst 0, 1) := by decide +kernel
theorem dX5_entryFault_79 : decode cX5_entryFault 79 = .ok (.goto 11, 3) := by decide +kernel
theorem dX5_entryFault_82 : decode cX5_entryFault 82 = .ok (.aload_n 0, 1) := by decide +kernel
theorem dX5_entryFault_83 : decode cX5_entryFault 83 = .ok (.getfield 26, 3) := by decide +kernel
theorem dX5_entryFault_86 : decode cX5_entryFault 86 = .ok (.iload_n 3, 1) := by decide +kernel
theorem dX5_entryFault_87 : decode cX5_entryFault 87 = .ok (.invokevirtual 144, 3) := by decide +kernel
theorem dX5_entryFault_90 : decode cX5_entryFault 90 = .ok (.istore 4, 2) := by decide +kernel
theorem dX5_entryFault_92 : decode cX5_entryFault 92 = .ok (.iload 4, 2) := by decide +kernel
theorem dX5_entryFault_94 : decode cX5_entryFault 94 = .ok (.ifCond .eq 7, 3) := by decide +kernel
theorem dX5_entryFault_97 : decode cX5_entryFault 97 = .ok (.iconst 0, 1) := by decide +kernel
theorem dX5_entryFault_98 : decode cX5_entryFault 98 = .ok (.goto 4, 3) := by decide +kernel
theorem dX5_entryFault_101 : decode cX5_entryFault 101 = .ok (.iconst 3, 1) := by decide +kernel
theorem dX5_entryFault_102 : decode cX5_entryFault 102 = .ok (.ireturn, 1) := by decide +kernel
set_option maxRecDepth 20000 in
theorem ggX5_admissionFault_X5_entryFault : GoodIn wsX5_admissionFault wsX5_entryFault := goodIn_r _ [6, 1, 7, 8, 9, 5, 10, 11, 12, 13, 14, 15, 16, 58, 59, 60, 61, 62, 63, 64, 65, 66, 67, 68, 69, 70, 71, 72, 73, 74, 75, 76, 77, 78] (by decide +kernel) (by decide +kernel)
set_option maxRecDepth 20000 in
theorem gX5_admissionFault_X5_entryFault : GoodIn wsX5_admissionFault (wsV RX5 86 RX5 yX5_entryFault wsX5_entryFault) := goodIn_app (goodIn_of _ (by decide +kernel)) ggX5_admissionFault_X5_entryFault
set_option maxRecDepth 20000 in
theorem ggX5_admissionFault_X2_smallestNonce : GoodIn wsX5_admissionFault wsX2_smallestNonce := goodIn_r _ [20, 21, 22, 23, 24, 25, 14, 26, 27, 28, 29, 30, 31, 32, 33, 34, 35, 36, 37, 38, 39, 40, 41, 42, 43, 44, 45, 46, 47, 48, 49, 50, 51, 52, 53, 54, 55, 56, 57, 65, 66, 67, 68, 69, 70, 71, 72, 73, 74, 75, 76, 77, 78] (by decide +kernel) (by decide +kernel)
set_option maxRecDepth 20000 in
theorem gX5_admissionFault_X2_smallestNonce : GoodIn wsX5_admissionFault (wsV RX5 73 RX2 yX2_smallestNonce wsX2_smallestNonce) := goodIn_app (goodIn_of _ (by decide +kernel)) ggX5_admissionFault_X2_smallestNonce
theorem dX5_admissionFault_0 : decode cX5_admissionFault 0 = .ok (.aload_n 0, 1) := by decide +kernel
theorem dX5_admissionFault_1 : decode cX5_admissionFault 1 = .ok (.iload_n 1, 1) := by decide +kernel
theorem dX5_admissionFault_2 : decode cX5_admissionFault 2 = .ok (.iload_n 2, 1) := by decide +kernel
theorem dX5_admissionFault_3 : decode cX5_admissionFault 3 = .ok (.iload_n 3, 1) := by decide +kernel
theorem dX5_admissionFault_4 : decode cX5_admissionFault 4 = .ok (.invokevirtual 86, 3) := by decide +kernel
theorem dX5_admissionFault_7 : decode cX5_admissionFault 7 = .ok (.istore 4, 2) := by decide +kernel
theorem dX5_admissionFault_9 : decode cX5_admissionFault 9 = .ok (.iload 4, 2) := by decide +kernel
theorem dX5_admissionFault_11 : decode cX5_admissionFault 11 = .ok (.ifCond .ne 17, 3) := by decide +kernel
theorem dX5_admissionFault_14 : decode cX5_admissionFault 14 = .ok (.aload_n 0, 1) := by decide +kernel
theorem dX5_admissionFault_15 : decode cX5_admissionFault 15 = .ok (.getfield 26, 3) := by decide +kernel
theorem dX5_admissionFault_18 : decode cX5_admissionFault 18 = .ok (.iload_n 1, 1) := by decide +kernel
theorem dX5_admissionFault_19 : decode cX5_admissionFault 19 = .ok (.invokevirtual 73, 3) := by decide +kernel
theorem dX5_admissionFault_22 : decode cX5_admissionFault 22 = .ok (.iconst (-1), 1) := by decide +kernel
theorem dX5_admissionFault_23 : decode cX5_admissionFault 23 = .ok (.if_icmp .ne 5, 3) := by decide +kernel
theorem dX5_admissionFault_26 : decode cX5_admissionFault 26 = .ok (.iconst 3, 1) := by decide +kernel
theorem dX5_admissionFault_27 : decode cX5_admissionFault 27 = .ok (.ireturn, 1) := by decide +kernel
theorem dX5_admissionFault_28 : decode cX5_admissionFault 28 = .ok (.iload 4, 2) := by decide +kernel
theorem dX5_admissionFault_30 : decode cX5_admissionFault 30 = .ok (.ireturn, 1) := by decide +kernel
theorem dX6_init_0 : decode cX6_init 0 = .ok (.aload_n 0, 1) := by decide +kernel
theorem dX6_init_1 : decode cX6_init 1 = .ok (.invokespecial 1, 3) := by decide +kernel
theorem dX6_init_4 : decode cX6_init 4 = .ok (.aload_n 0, 1) := by decide +kernel
theorem dX6_init_5 : decode cX6_init 5 = .ok (.sipush 1816, 3) := by decide +kernel
theorem dX6_init_8 : decode cX6_init 8 = .ok (.newarray .int, 2) := by decide +kernel
theorem dX6_init_10 : decode cX6_init 10 = .ok (.putfield 7, 3) := by decide +kernel
theorem dX6_init_13 : decode cX6_init 13 = .ok (.aload_n 0, 1) := by decide +kernel
theorem dX6_init_14 : decode cX6_init 14 = .ok (.sipush 5448, 3) := by decide +kernel
theorem dX6_init_17 : decode cX6_init 17 = .ok (.newarray .int, 2) := by decide +kernel
theorem dX6_init_19 : decode cX6_init 19 = .ok (.putfield 13, 3) := by decide +kernel
theorem dX6_init_22 : decode cX6_init 22 = .ok (.aload_n 0, 1) := by decide +kernel
theorem dX6_init_23 : decode cX6_init 23 = .ok (.sipush 1816, 3) := by decide +kernel
theorem dX6_init_26 : decode cX6_init 26 = .ok (.newarray .int, 2) := by decide +kernel
theorem dX6_init_28 : decode cX6_init 28 = .ok (.putfield 16, 3) := by decide +kernel
theorem dX6_init_31 : decode cX6_init 31 = .ok (.aload_n 0, 1) := by decide +kernel
theorem dX6_init_32 : decode cX6_init 32 = .ok (.bipush 120, 2) := by decide +kernel
theorem dX6_init_34 : decode cX6_init 34 = .ok (.newarray .int, 2) := by decide +kernel
theorem dX6_init_36 : decode cX6_init 36 = .ok (.putfield 19, 3) := by decide +kernel
theorem dX6_init_39 : decode cX6_init 39 = .ok (.aload_n 0, 1) := by decide +kernel
theorem dX6_init_40 : decode cX6_init 40 = .ok (.sipush 256, 3) := by decide +kernel
theorem dX6_init_43 : decode cX6_init 43 = .ok (.newarray .int, 2) := by decide +kernel
theorem dX6_init_45 : decode cX6_init 45 = .ok (.putfield 22, 3) := by decide +kernel
theorem dX6_init_48 : decode cX6_init 48 = .ok (.aload_n 0, 1) := by decide +kernel
theorem dX6_init_49 : decode cX6_init 49 = .ok (.iconst 3, 1) := by decide +kernel
theorem dX6_init_50 : decode cX6_init 50 = .ok (.newarray .int, 2) := by decide +kernel
theorem dX6_init_52 : decode cX6_init 52 = .ok (.putfield 25, 3) := by decide +kernel
theorem dX6_init_55 : decode cX6_init 55 = .ok (.aload_n 0, 1) := by decide +kernel
theorem dX6_init_56 : decode cX6_init 56 = .ok (.getfield 7, 3) := by decide +kernel
theorem dX6_init_59 : decode cX6_init 59 = .ok (.iconst 0, 1) := by decide +kernel
theorem dX6_init_60 : decode cX6_init 60 = .ok (.iconst 2, 1) := by decide +kernel
theorem dX6_init_61 : decode cX6_init 61 = .ok (.iastore, 1) := by decide +kernel
theorem dX6_init_62 : decode cX6_init 62 = .ok (.aload_n 0, 1) := by decide +kernel
theorem dX6_init_63 : decode cX6_init 63 = .ok (.getfield 7, 3) := by decide +kernel
theorem dX6_init_66 : decode cX6_init 66 = .ok (.iconst 1, 1) := by decide +kernel
theorem dX6_init_67 : decode cX6_init 67 = .ok (.bipush 100, 2) := by decide +kernel
theorem dX6_init_69 : decode cX6_init 69 = .ok (.iastore, 1) := by decide +kernel
theorem dX6_init_70 : decode cX6_init 70 = .ok (.aload_n 0, 1) := by decide +kernel
theorem dX6_init_71 : decode cX6_init 71 = .ok (.getfield 7, 3) := by decide +kernel
theorem dX6_init_74 : decode cX6_init 74 = .ok (.iconst 2, 1) := by decide +kernel
theorem dX6_init_75 : decode cX6_init 75 = .ok (.bipush 20, 2) := by decide +kernel
theorem dX6_init_77 : decode cX6_init 77 = .ok (.iastore, 1) := by decide +kernel
theorem dX6_init_78 : decode cX6_init 78 = .ok (.aload_n 0, 1) := by decide +kernel
theorem dX6_init_79 : decode cX6_init 79 = .ok (.getfield 7, 3) := by decide +kernel
theorem dX6_init_82 : decode cX6_init 82 = .ok (.iconst 3, 1) := by decide +kernel
