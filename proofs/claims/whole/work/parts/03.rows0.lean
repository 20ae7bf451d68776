theorem dX0_sumWithoutNonce_0 : decode cX0_sumWithoutNonce 0 = .ok (.iload_n 0, 1) := by decide +kernel
theorem dX0_sumWithoutNonce_1 : decode cX0_sumWithoutNonce 1 = .ok (.ldc 7, 2) := by decide +kernel
theorem dX0_sumWithoutNonce_3 : decode cX0_sumWithoutNonce 3 = .ok (.imul, 1) := by decide +kernel
theorem dX0_sumWithoutNonce_4 : decode cX0_sumWithoutNonce 4 = .ok (.iload_n 1, 1) := by decide +kernel
theorem dX0_sumWithoutNonce_5 : decode cX0_sumWithoutNonce 5 = .ok (.ldc 8, 2) := by decide +kernel
theorem dX0_sumWithoutNonce_7 : decode cX0_sumWithoutNonce 7 = .ok (.imul, 1) := by decide +kernel
theorem dX0_sumWithoutNonce_8 : decode cX0_sumWithoutNonce 8 = .ok (.iadd, 1) := by decide +kernel
theorem dX0_sumWithoutNonce_9 : decode cX0_sumWithoutNonce 9 = .ok (.ireturn, 1) := by decide +kernel
theorem dX0_mix_0 : decode cX0_mix 0 = .ok (.iload_n 0, 1) := by decide +kernel
theorem dX0_mix_1 : decode cX0_mix 1 = .ok (.iload_n 0, 1) := by decide +kernel
theorem dX0_mix_2 : decode cX0_mix 2 = .ok (.bipush 15, 2) := by decide +kernel
theorem dX0_mix_4 : decode cX0_mix 4 = .ok (.iushr, 1) := by decide +kernel
theorem dX0_mix_5 : decode cX0_mix 5 = .ok (.ixor, 1) := by decide +kernel
theorem dX0_mix_6 : decode cX0_mix 6 = .ok (.istore_n 1, 1) := by decide +kernel
theorem dX0_mix_7 : decode cX0_mix 7 = .ok (.iload_n 1, 1) := by decide +kernel
theorem dX0_mix_8 : decode cX0_mix 8 = .ok (.ldc 9, 2) := by decide +kernel
theorem dX0_mix_10 : decode cX0_mix 10 = .ok (.imul, 1) := by decide +kernel
theorem dX0_mix_11 : decode cX0_mix 11 = .ok (.istore_n 1, 1) := by decide +kernel
theorem dX0_mix_12 : decode cX0_mix 12 = .ok (.iload_n 1, 1) := by decide +kernel
theorem dX0_mix_13 : decode cX0_mix 13 = .ok (.iload_n 1, 1) := by decide +kernel
theorem dX0_mix_14 : decode cX0_mix 14 = .ok (.bipush 13, 2) := by decide +kernel
theorem dX0_mix_16 : decode cX0_mix 16 = .ok (.iushr, 1) := by decide +kernel
theorem dX0_mix_17 : decode cX0_mix 17 = .ok (.ixor, 1) := by decide +kernel
theorem dX0_mix_18 : decode cX0_mix 18 = .ok (.ireturn, 1) := by decide +kernel
set_option maxRecDepth 20000 in
theorem ggX0_leadingZeros_X0_sumWithoutNonce : GoodIn wsX0_leadingZeros wsX0_sumWithoutNonce := goodIn_r _ [5, 6, 7] (by decide +kernel) (by decide +kernel)
set_option maxRecDepth 20000 in
theorem gX0_leadingZeros_X0_sumWithoutNonce : GoodIn wsX0_leadingZeros (va_wsS RX0 10 yX0_sumWithoutNonce wsX0_sumWithoutNonce) := goodIn_app (goodIn_of _ (by decide +kernel)) ggX0_leadingZeros_X0_sumWithoutNonce
set_option maxRecDepth 20000 in
theorem ggX0_leadingZeros_X0_mix : GoodIn wsX0_leadingZeros wsX0_mix := goodIn_r _ [10, 11] (by decide +kernel) (by decide +kernel)
set_option maxRecDepth 20000 in
theorem gX0_leadingZeros_X0_mix : GoodIn wsX0_leadingZeros (va_wsS RX0 17 yX0_mix wsX0_mix) := goodIn_app (goodIn_of _ (by decide +kernel)) ggX0_leadingZeros_X0_mix
set_option maxRecDepth 20000 in
theorem ggX0_leadingZeros_J6_numberOfLeadingZeros_0f7a4 : GoodIn wsX0_leadingZeros wsJ6_numberOfLeadingZeros_0f7a4 := goodIn_r _ [15, 16] (by decide +kernel) (by decide +kernel)
set_option maxRecDepth 20000 in
theorem gX0_leadingZeros_J6_numberOfLeadingZeros_0f7a4 : GoodIn wsX0_leadingZeros (va_wsS RX0 21 yJ6_numberOfLeadingZeros_0f7a4 wsJ6_numberOfLeadingZeros_0f7a4) := goodIn_app (goodIn_of _ (by decide +kernel)) ggX0_leadingZeros_J6_numberOfLeadingZeros_0f7a4
theorem dX0_leadingZeros_0 : decode cX0_leadingZeros 0 = .ok (.iload_n 0, 1) := by decide +kernel
theorem dX0_leadingZeros_1 : decode cX0_leadingZeros 1 = .ok (.iload_n 2, 1) := by decide +kernel
theorem dX0_leadingZeros_2 : decode cX0_leadingZeros 2 = .ok (.invokestatic 10, 3) := by decide +kernel
theorem dX0_leadingZeros_5 : decode cX0_leadingZeros 5 = .ok (.iload_n 1, 1) := by decide +kernel
theorem dX0_leadingZeros_6 : decode cX0_leadingZeros 6 = .ok (.ldc 16, 2) := by decide +kernel
theorem dX0_leadingZeros_8 : decode cX0_leadingZeros 8 = .ok (.imul, 1) := by decide +kernel
theorem dX0_leadingZeros_9 : decode cX0_leadingZeros 9 = .ok (.iadd, 1) := by decide +kernel
theorem dX0_leadingZeros_10 : decode cX0_leadingZeros 10 = .ok (.invokestatic 17, 3) := by decide +kernel
theorem dX0_leadingZeros_13 : decode cX0_leadingZeros 13 = .ok (.invokestatic 21, 3) := by decide +kernel
theorem dX0_leadingZeros_16 : decode cX0_leadingZeros 16 = .ok (.ireturn, 1) := by decide +kernel
theorem dX1_init_0 : decode cX1_init 0 = .ok (.aload_n 0, 1) := by decide +kernel
theorem dX1_init_1 : decode cX1_init 1 = .ok (.invokespecial 3, 3) := by decide +kernel
theorem dX1_init_4 : decode cX1_init 4 = .ok (.aload_n 0, 1) := by decide +kernel
theorem dX1_init_5 : decode cX1_init 5 = .ok (.bipush 120, 2) := by decide +kernel
theorem dX1_init_7 : decode cX1_init 7 = .ok (.newarray .int, 2) := by decide +kernel
theorem dX1_init_9 : decode cX1_init 9 = .ok (.putfield 11, 3) := by decide +kernel
theorem dX1_init_12 : decode cX1_init 12 = .ok (.aload_n 0, 1) := by decide +kernel
theorem dX1_init_13 : decode cX1_init 13 = .ok (.iconst 0, 1) := by decide +kernel
theorem dX1_init_14 : decode cX1_init 14 = .ok (.putfield 15, 3) := by decide +kernel
theorem dX1_init_17 : decode cX1_init 17 = .ok (.aload_n 0, 1) := by decide +kernel
theorem dX1_init_18 : decode cX1_init 18 = .ok (.bipush 20, 2) := by decide +kernel
theorem dX1_init_20 : decode cX1_init 20 = .ok (.newarray .int, 2) := by decide +kernel
theorem dX1_init_22 : decode cX1_init 22 = .ok (.putfield 19, 3) := by decide +kernel
theorem dX1_init_25 : decode cX1_init 25 = .ok (.aload_n 0, 1) := by decide +kernel
theorem dX1_init_26 : decode cX1_init 26 = .ok (.iconst 0, 1) := by decide +kernel
theorem dX1_init_27 : decode cX1_init 27 = .ok (.putfield 22, 3) := by decide +kernel
theorem dX1_init_30 : decode cX1_init 30 = .ok (.aload_n 0, 1) := by decide +kernel
theorem dX1_init_31 : decode cX1_init 31 = .ok (.bipush 60, 2) := by decide +kernel
theorem dX1_init_33 : decode cX1_init 33 = .ok (.newarray .int, 2) := by decide +kernel
theorem dX1_init_35 : decode cX1_init 35 = .ok (.putfield 25, 3) := by decide +kernel
theorem dX1_init_38 : decode cX1_init 38 = .ok (.aload_n 0, 1) := by decide +kernel
theorem dX1_init_39 : decode cX1_init 39 = .ok (.iconst 0, 1) := by decide +kernel
theorem dX1_init_40 : decode cX1_init 40 = .ok (.putfield 28, 3) := by decide +kernel
theorem dX1_init_43 : decode cX1_init 43 = .ok (.return_, 1) := by decide +kernel
theorem dX1_number_0 : decode cX1_number 0 = .ok (.aload_n 0, 1) := by decide +kernel
theorem dX1_number_1 : decode cX1_number 1 = .ok (.getfield 25, 3) := by decide +kernel
theorem dX1_number_4 : decode cX1_number 4 = .ok (.iload_n 1, 1) := by decide +kernel
theorem dX1_number_5 : decode cX1_number 5 = .ok (.iconst 3, 1) := by decide +kernel
theorem dX1_number_6 : decode cX1_number 6 = .ok (.imul, 1) := by decide +kernel
theorem dX1_number_7 : decode cX1_number 7 = .ok (.iload_n 2, 1) := by decide +kernel
theorem dX1_number_8 : decode cX1_number 8 = .ok (.iadd, 1) := by decide +kernel
theorem dX1_number_9 : decode cX1_number 9 = .ok (.iaload, 1) := by decide +kernel
theorem dX1_number_10 : decode cX1_number 10 = .ok (.ireturn, 1) := by decide +kernel
set_option maxRecDepth 20000 in
theorem ggX1_parse_X1_skipSpaces : GoodIn wsX1_parse wsX1_skipSpaces := goodIn_r _ [8, 1, 3, 9, 91, 92, 93, 94, 95, 96] (by decide +kernel) (by decide +kernel)
set_option maxRecDepth 20000 in
theorem gX1_parse_X1_skipSpaces : GoodIn wsX1_parse (wsV RX1 31 RX1 yX1_skipSpaces wsX1_skipSpaces) := goodIn_app (goodIn_of _ (by decide +kernel)) ggX1_parse_X1_skipSpaces
set_option maxRecDepth 20000 in
theorem ggX1_parse_X1_readCommand : GoodIn wsX1_parse wsX1_readCommand := goodIn_r _ [13, 1, 14, 2, 15, 16, 17, 7, 18, 3, 9, 19, 20, 21, 22, 23, 24, 25, 26, 27, 28, 29, 30, 31, 32, 33, 34, 35, 36, 37, 38, 39, 40, 41, 42, 43, 44, 45, 46, 47, 48, 49, 50, 51, 52, 53, 54, 55, 56, 57, 58, 59, 60, 61, 62, 63, 64, 65, 66, 67, 68, 69, 70, 71, 72, 73, 74, 75, 76, 77, 78, 79, 80, 81, 82, 83, 84, 85, 86, 87, 4, 5, 6, 8, 88, 89, 90, 91, 92, 93, 94, 95, 96] (by decide +kernel) (by decide +kernel)
set_option maxRecDepth 20000 in
theorem gX1_parse_X1_readCommand : GoodIn wsX1_parse (wsV RX1 34 RX1 yX1_readCommand wsX1_readCommand) := goodIn_app (goodIn_of _ (by decide +kernel)) ggX1_parse_X1_readCommand
theorem dX1_parse_0 : decode cX1_parse 0 = .ok (.aload_n 0, 1) := by decide +kernel
theorem dX1_parse_1 : decode cX1_parse 1 = .ok (.iconst 0, 1) := by decide +kernel
theorem dX1_parse_2 : decode cX1_parse 2 = .ok (.putfield 28, 3) := by decide +kernel
theorem dX1_parse_5 : decode cX1_parse 5 = .ok (.aload_n 0, 1) := by decide +kernel
theorem dX1_parse_6 : decode cX1_parse 6 = .ok (.iconst 0, 1) := by decide +kernel
theorem dX1_parse_7 : decode cX1_parse 7 = .ok (.putfield 22, 3) := by decide +kernel
theorem dX1_parse_10 : decode cX1_parse 10 = .ok (.iconst 0, 1) := by decide +kernel
theorem dX1_parse_11 : decode cX1_parse 11 = .ok (.istore_n 1, 1) := by decide +kernel
theorem dX1_parse_12 : decode cX1_parse 12 = .ok (.iload_n 1, 1) := by decide +kernel
theorem dX1_parse_13 : decode cX1_parse 13 = .ok (.bipush 20, 2) := by decide +kernel
theorem dX1_parse_15 : decode cX1_parse 15 = .ok (.if_icmp .ge 48, 3) := by decide +kernel
theorem dX1_parse_18 : decode cX1_parse 18 = .ok (.aload_n 0, 1) := by decide +kernel
theorem dX1_parse_19 : decode cX1_parse 19 = .ok (.invokevirtual 31, 3) := by decide +kernel
theorem dX1_parse_22 : decode cX1_parse 22 = .ok (.aload_n 0, 1) := by decide +kernel
theorem dX1_parse_23 : decode cX1_parse 23 = .ok (.getfield 28, 3) := by decide +kernel
theorem dX1_parse_26 : decode cX1_parse 26 = .ok (.aload_n 0, 1) := by decide +kernel
theorem dX1_parse_27 : decode cX1_parse 27 = .ok (.getfield 15, 3) := by decide +kernel
theorem dX1_parse_30 : decode cX1_parse 30 = .ok (.if_icmp .lt 5, 3) := by decide +kernel
theorem dX1_parse_33 : decode cX1_parse 33 = .ok (.iconst (-1), 1) := by decide +kernel
theorem dX1_parse_34 : decode cX1_parse 34 = .ok (.ireturn, 1) := by decide +kernel
theorem dX1_parse_35 : decode cX1_parse 35 = .ok (.aload_n 0, 1) := by decide +kernel
theorem dX1_parse_36 : decode cX1_parse 36 = .ok (.invokevirtual 34, 3) := by decide +kernel
theorem dX1_parse_39 : decode cX1_parse 39 = .ok (.istore_n 2, 1) := by decide +kernel
theorem dX1_parse_40 : decode cX1_parse 40 = .ok (.iload_n 2, 1) := by decide +kernel
theorem dX1_parse_41 : decode cX1_parse 41 = .ok (.iconst (-1), 1) := by decide +kernel
theorem dX1_parse_42 : decode cX1_parse 42 = .ok (.if_icmp .eq 5, 3) := by decide +kernel
theorem dX1_parse_45 : decode cX1_parse 45 = .ok (.iload_n 2, 1) := by decide +kernel
theorem dX1_parse_46 : decode cX1_parse 46 = .ok (.ireturn, 1) := by decide +kernel
theorem dX1_parse_47 : decode cX1_parse 47 = .ok (.aload_n 0, 1) := by decide +kernel
theorem dX1_parse_48 : decode cX1_parse 48 = .ok (.dup, 1) := by decide +kernel
theorem dX1_parse_49 : decode cX1_parse 49 = .ok (.getfield 22, 3) := by decide +kernel
theorem dX1_parse_52 : decode cX1_parse 52 = .ok (.iconst 1, 1) := by decide +kernel
theorem dX1_parse_53 : decode cX1_parse 53 = .ok (.iadd, 1) := by decide +kernel
theorem dX1_parse_54 : decode cX1_parse 54 = .ok (.putfield 22, 3) := by decide +kernel
theorem dX1_parse_57 : decode cX1_parse 57 = .ok (.iinc 1 1, 3) := by decide +kernel
theorem dX1_parse_60 : decode cX1_parse 60 = .ok (.goto (-48), 3) := by decide +kernel
theorem dX1_parse_63 : decode cX1_parse 63 = .ok (.iconst (-1), 1) := by decide +kernel
theorem dX1_parse_64 : decode cX1_parse 64 = .ok (.ireturn, 1) := by decide +kernel
set_option maxRecDepth 20000 in
theorem ggX1_readCommand_X1_skipLetters : GoodIn wsX1_readCommand wsX1_skipLetters := goodIn_r _ [8, 1, 9, 10, 87, 88, 89, 90, 91, 92] (by decide +kernel) (by decide +kernel)
set_option maxRecDepth 20000 in
theorem gX1_readCommand_X1_skipLetters : GoodIn wsX1_readCommand (wsV RX1 38 RX1 yX1_skipLetters wsX1_skipLetters) := goodIn_app (goodIn_of _ (by decide +kernel)) ggX1_readCommand_X1_skipLetters
set_option maxRecDepth 20000 in
theorem ggX1_readCommand_X1_wordFrom : GoodIn wsX1_readCommand wsX1_wordFrom := goodIn_r _ [14, 15, 16, 17, 7, 18, 1, 10, 19, 20, 21, 22, 23, 24, 25, 26, 27, 28, 29, 30, 31, 32, 33, 34, 35, 36, 37, 38, 39, 40, 41, 42, 43, 44, 45, 46, 47, 48, 49, 50, 51, 52, 53, 54, 55, 56, 57, 58, 59, 60, 61, 62, 63, 64, 65, 66, 67, 87, 88, 89, 90, 91, 92] (by decide +kernel) (by decide +kernel)
set_option maxRecDepth 20000 in
theorem gX1_readCommand_X1_wordFrom : GoodIn wsX1_readCommand (wsV RX1 41 RX1 yX1_wordFrom wsX1_wordFrom) := goodIn_app (goodIn_of _ (by decide +kernel)) ggX1_readCommand_X1_wordFrom
set_option maxRecDepth 20000 in
theorem ggX1_readCommand_X1_numbersOf : GoodIn wsX1_readCommand wsX1_numbersOf := goodIn_r _ [70] (by decide +kernel) (by decide +kernel)
set_option maxRecDepth 20000 in
theorem gX1_readCommand_X1_numbersOf : GoodIn wsX1_readCommand (va_wsS RX1 45 yX1_numbersOf wsX1_numbersOf) := goodIn_app (goodIn_of _ (by decide +kernel)) ggX1_readCommand_X1_numbersOf
set_option maxRecDepth 20000 in
theorem ggX1_readCommand_X1_readNumber : GoodIn wsX1_readCommand wsX1_readNumber := goodIn_r _ [74, 1, 75, 76, 77, 78, 7, 79, 9, 10, 80, 81, 82, 83, 84, 85, 86, 87, 88, 89, 90, 91, 92] (by decide +kernel) (by decide +kernel)
set_option maxRecDepth 20000 in
theorem gX1_readCommand_X1_readNumber : GoodIn wsX1_readCommand (wsV RX1 48 RX1 yX1_readNumber wsX1_readNumber) := goodIn_app (goodIn_of _ (by decide +kernel)) ggX1_readCommand_X1_readNumber
set_option maxRecDepth 20000 in
theorem ggX1_readCommand_X1_skipSpaces : GoodIn wsX1_readCommand wsX1_skipSpaces := goodIn_r _ [83, 1, 9, 10, 87, 88, 89, 90, 91, 92] (by decide +kernel) (by decide +kernel)
set_option maxRecDepth 20000 in
theorem gX1_readCommand_X1_skipSpaces : GoodIn wsX1_readCommand (wsV RX1 31 RX1 yX1_skipSpaces wsX1_skipSpaces) := goodIn_app (goodIn_of _ (by decide +kernel)) ggX1_readCommand_X1_skipSpaces
set_option maxRecDepth 20000 in
theorem ggX1_readCommand_X1_peek : GoodIn wsX1_readCommand wsX1_peek := goodIn_r _ [79, 1, 9, 10, 87, 88, 89, 90, 91, 92] (by decide +kernel) (by decide +kernel)
set_option maxRecDepth 20000 in
theorem gX1_readCommand_X1_peek : GoodIn wsX1_readCommand (wsV RX1 52 RX1 yX1_peek wsX1_peek) := goodIn_app (goodIn_of _ (by decide +kernel)) ggX1_readCommand_X1_peek
theorem dX1_readCommand_0 : decode cX1_readCommand 0 = .ok (.aload_n 0, 1) := by decide +kernel
theorem dX1_readCommand_1 : decode cX1_readCommand 1 = .ok (.getfield 28, 3) := by decide +kernel
theorem dX1_readCommand_4 : decode cX1_readCommand 4 = .ok (.istore_n 1, 1) := by decide +kernel
theorem dX1_readCommand_5 : decode cX1_readCommand 5 = .ok (.aload_n 0, 1) := by decide +kernel
theorem dX1_readCommand_6 : decode cX1_readCommand 6 = .ok (.invokevirtual 38, 3) := by decide +kernel
theorem dX1_readCommand_9 : decode cX1_readCommand 9 = .ok (.aload_n 0, 1) := by decide +kernel
theorem dX1_readCommand_10 : decode cX1_readCommand 10 = .ok (.iload_n 1, 1) := by decide +kernel
theorem dX1_readCommand_11 : decode cX1_readCommand 11 = .ok (.invokevirtual 41, 3) := by decide +kernel
theorem dX1_readCommand_14 : decode cX1_readCommand 14 = .ok (.istore_n 2, 1) := by decide +kernel
theorem dX1_readCommand_15 : decode cX1_readCommand 15 = .ok (.iload_n 2, 1) := by decide +kernel
theorem dX1_readCommand_16 : decode cX1_readCommand 16 = .ok (.iconst (-1), 1) := by decide +kernel
theorem dX1_readCommand_17 : decode cX1_readCommand 17 = .ok (.if_icmp .ne 5, 3) := by decide +kernel
theorem dX1_readCommand_20 : decode cX1_readCommand 20 = .ok (.iload_n 1, 1) := by decide +kernel
theorem dX1_readCommand_21 : decode cX1_readCommand 21 = .ok (.ireturn, 1) := by decide +kernel
theorem dX1_readCommand_22 : decode cX1_readCommand 22 = .ok (.aload_n 0, 1) := by decide +kernel
theorem dX1_readCommand_23 : decode cX1_readCommand 23 = .ok (.getfield 19, 3) := by decide +kernel
theorem dX1_readCommand_26 : decode cX1_readCommand 26 = .ok (.aload_n 0, 1) := by decide +kernel
theorem dX1_readCommand_27 : decode cX1_readCommand 27 = .ok (.getfield 22, 3) := by decide +kernel
theorem dX1_readCommand_30 : decode cX1_readCommand 30 = .ok (.iload_n 2, 1) := by decide +kernel
theorem dX1_readCommand_31 : decode cX1_readCommand 31 = .ok (.iastore, 1) := by decide +kernel
theorem dX1_readCommand_32 : decode cX1_readCommand 32 = .ok (.iconst 0, 1) := by decide +kernel
theorem dX1_readCommand_33 : decode cX1_readCommand 33 = .ok (.istore_n 3, 1) := by decide +kernel
theorem dX1_readCommand_34 : decode cX1_readCommand 34 = .ok (.iload_n 3, 1) := by decide +kernel
theorem dX1_readCommand_35 : decode cX1_readCommand 35 = .ok (.iload_n 2, 1) := by decide +kernel
theorem dX1_readCommand_36 : decode cX1_readCommand 36 = .ok (.invokestatic 45, 3) := by decide +kernel
theorem dX1_readCommand_39 : decode cX1_readCommand 39 = .ok (.if_icmp .ge 29, 3) := by decide +kernel
theorem dX1_readCommand_42 : decode cX1_readCommand 42 = .ok (.aload_n 0, 1) := by decide +kernel
theorem dX1_readCommand_43 : decode cX1_readCommand 43 = .ok (.aload_n 0, 1) := by decide +kernel
theorem dX1_readCommand_44 : decode cX1_readCommand 44 = .ok (.getfield 22, 3) := by decide +kernel
theorem dX1_readCommand_47 : decode cX1_readCommand 47 = .ok (.iconst 3, 1) := by decide +kernel
theorem dX1_readCommand_48 : decode cX1_readCommand 48 = .ok (.imul, 1) := by decide +kernel
theorem dX1_readCommand_49 : decode cX1_readCommand 49 = .ok (.iload_n 3, 1) := by decide +kernel
theorem dX1_readCommand_50 : decode cX1_readCommand 50 = .ok (.iadd, 1) := by decide +kernel
theorem dX1_readCommand_51 : decode cX1_readCommand 51 = .ok (.invokevirtual 48, 3) := by decide +kernel
theorem dX1_readCommand_54 : decode cX1_readCommand 54 = .ok (.ifCond .ne 8, 3) := by decide +kernel
theorem dX1_readCommand_57 : decode cX1_readCommand 57 = .ok (.aload_n 0, 1) := by decide +kernel
theorem dX1_readCommand_58 : decode cX1_readCommand 58 = .ok (.getfield 28, 3) := by decide +kernel
theorem dX1_readCommand_61 : decode cX1_readCommand 61 = .ok (.ireturn, 1) := by decide +kernel
theorem dX1_readCommand_62 : decode cX1_readCommand 62 = .ok (.iinc 3 1, 3) := by decide +kernel
theorem dX1_readCommand_65 : decode cX1_readCommand 65 = .ok (.goto (-31), 3) := by decide +kernel
theorem dX1_readCommand_68 : decode cX1_readCommand 68 = .ok (.aload_n 0, 1) := by decide +kernel
theorem dX1_readCommand_69 : decode cX1_readCommand 69 = .ok (.invokevirtual 31, 3) := by decide +kernel
theorem dX1_readCommand_72 : decode cX1_readCommand 72 = .ok (.aload_n 0, 1) := by decide +kernel
theorem dX1_readCommand_73 : decode cX1_readCommand 73 = .ok (.invokevirtual 52, 3) := by decide +kernel
theorem dX1_readCommand_76 : decode cX1_readCommand 76 = .ok (.bipush 59, 2) := by decide +kernel
theorem dX1_readCommand_78 : decode cX1_readCommand 78 = .ok (.if_icmp .eq 8, 3) := by decide +kernel
theorem dX1_readCommand_81 : decode cX1_readCommand 81 = .ok (.aload_n 0, 1) := by decide +kernel
theorem dX1_readCommand_82 : decode cX1_readCommand 82 = .ok (.getfield 28, 3) := by decide +kernel
theorem dX1_readCommand_85 : decode cX1_readCommand 85 = .ok (.ireturn, 1) := by decide +kernel
theorem dX1_readCommand_86 : decode cX1_readCommand 86 = .ok (.aload_n 0, 1) := by decide +kernel
theorem dX1_readCommand_87 : decode cX1_readCommand 87 = .ok (.dup, 1) := by decide +kernel
theorem dX1_readCommand_88 : decode cX1_readCommand 88 = .ok (.getfield 28, 3) := by decide +kernel
theorem dX1_readCommand_91 : decode cX1_readCommand 91 = .ok (.iconst 1, 1) := by decide +kernel
theorem dX1_readCommand_92 : decode cX1_readCommand 92 = .ok (.iadd, 1) := by decide +kernel
theorem dX1_readCommand_93 : decode cX1_readCommand 93 = .ok (.putfield 28, 3) := by decide +kernel
theorem dX1_readCommand_96 : decode cX1_readCommand 96 = .ok (.iconst (-1), 1) := by decide +kernel
theorem dX1_readCommand_97 : decode cX1_readCommand 97 = .ok (.ireturn, 1) := by decide +kernel
set_option maxRecDepth 20000 in
theorem ggX1_readNumber_X1_peek : GoodIn wsX1_readNumber wsX1_peek := goodIn_r _ [7, 1, 8, 9, 17, 18, 19, 20, 21, 22] (by decide +kernel) (by decide +kernel)
set_option maxRecDepth 20000 in
theorem gX1_readNumber_X1_peek : GoodIn wsX1_readNumber (wsV RX1 52 RX1 yX1_peek wsX1_peek) := goodIn_app (goodIn_of _ (by decide +kernel)) ggX1_readNumber_X1_peek
set_option maxRecDepth 20000 in
theorem ggX1_readNumber_X1_skipSpaces : GoodIn wsX1_readNumber wsX1_skipSpaces := goodIn_r _ [13, 1, 8, 9, 17, 18, 19, 20, 21, 22] (by decide +kernel) (by decide +kernel)
set_option maxRecDepth 20000 in
theorem gX1_readNumber_X1_skipSpaces : GoodIn wsX1_readNumber (wsV RX1 31 RX1 yX1_skipSpaces wsX1_skipSpaces) := goodIn_app (goodIn_of _ (by decide +kernel)) ggX1_readNumber_X1_skipSpaces
set_option maxRecDepth 20000 in
theorem ggX1_readNumber_X1_isDigit : GoodIn wsX1_readNumber wsX1_isDigit := goodIn_r _ [16] (by decide +kernel) (by decide +kernel)
set_option maxRecDepth 20000 in
theorem gX1_readNumber_X1_isDigit : GoodIn wsX1_readNumber (va_wsS RX1 55 yX1_isDigit wsX1_isDigit) := goodIn_app (goodIn_of _ (by decide +kernel)) ggX1_readNumber_X1_isDigit
theorem dX1_readNumber_0 : decode cX1_readNumber 0 = .ok (.aload_n 0, 1) := by decide +kernel
theorem dX1_readNumber_1 : decode cX1_readNumber 1 = .ok (.invokevirtual 52, 3) := by decide +kernel
theorem dX1_readNumber_4 : decode cX1_readNumber 4 = .ok (.bipush 32, 2) := by decide +kernel
theorem dX1_readNumber_6 : decode cX1_readNumber 6 = .ok (.if_icmp .eq 5, 3) := by decide +kernel
theorem dX1_readNumber_9 : decode cX1_readNumber 9 = .ok (.iconst 0, 1) := by decide +kernel
theorem dX1_readNumber_10 : decode cX1_readNumber 10 = .ok (.ireturn, 1) := by decide +kernel
theorem dX1_readNumber_11 : decode cX1_readNumber 11 = .ok (.aload_n 0, 1) := by decide +kernel
theorem dX1_readNumber_12 : decode cX1_readNumber 12 = .ok (.invokevirtual 31, 3) := by decide +kernel
theorem dX1_readNumber_15 : decode cX1_readNumber 15 = .ok (.aload_n 0, 1) := by decide +kernel
theorem dX1_readNumber_16 : decode cX1_readNumber 16 = .ok (.invokevirtual 52, 3) := by decide +kernel
theorem dX1_readNumber_19 : decode cX1_readNumber 19 = .ok (.invokestatic 55, 3) := by decide +kernel
theorem dX1_readNumber_22 : decode cX1_readNumber 22 = .ok (.ifCond .ne 5, 3) := by decide +kernel
theorem dX1_readNumber_25 : decode cX1_readNumber 25 = .ok (.iconst 0, 1) := by decide +kernel
theorem dX1_readNumber_26 : decode cX1_readNumber 26 = .ok (.ireturn, 1) := by decide +kernel
theorem dX1_readNumber_27 : decode cX1_readNumber 27 = .ok (.iconst 0, 1) := by decide +kernel
theorem dX1_readNumber_28 : decode cX1_readNumber 28 = .ok (.istore_n 2, 1) := by decide +kernel
theorem dX1_readNumber_29 : decode cX1_readNumber 29 = .ok (.iconst 0, 1) := by decide +kernel
theorem dX1_readNumber_30 : decode cX1_readNumber 30 = .ok (.istore_n 3, 1) := by decide +kernel
theorem dX1_readNumber_31 : decode cX1_readNumber 31 = .ok (.iload_n 3, 1) := by decide +kernel
theorem dX1_readNumber_32 : decode cX1_readNumber 32 = .ok (.iconst 5, 1) := by decide +kernel
theorem dX1_readNumber_33 : decode cX1_readNumber 33 = .ok (.if_icmp .ge 42, 3) := by decide +kernel
theorem dX1_readNumber_36 : decode cX1_readNumber 36 = .ok (.aload_n 0, 1) := by decide +kernel
theorem dX1_readNumber_37 : decode cX1_readNumber 37 = .ok (.invokevirtual 52, 3) := by decide +kernel
theorem dX1_readNumber_40 : decode cX1_readNumber 40 = .ok (.invokestatic 55, 3) := by decide +kernel
theorem dX1_readNumber_43 : decode cX1_readNumber 43 = .ok (.ifCond .eq 32, 3) := by decide +kernel
theorem dX1_readNumber_46 : decode cX1_readNumber 46 = .ok (.bipush 10, 2) := by decide +kernel
theorem dX1_readNumber_48 : decode cX1_readNumber 48 = .ok (.iload_n 2, 1) := by decide +kernel
theorem dX1_readNumber_49 : decode cX1_readNumber 49 = .ok (.imul, 1) := by decide +kernel
theorem dX1_readNumber_50 : decode cX1_readNumber 50 = .ok (.aload_n 0, 1) := by decide +kernel
theorem dX1_readNumber_51 : decode cX1_readNumber 51 = .ok (.invokevirtual 52, 3) := by decide +kernel
theorem dX1_readNumber_54 : decode cX1_readNumber 54 = .ok (.bipush 48, 2) := by decide +kernel
theorem dX1_readNumber_56 : decode cX1_readNumber 56 = .ok (.isub, 1) := by decide +kernel
theorem dX1_readNumber_57 : decode cX1_readNumber 57 = .ok (.iadd, 1) := by decide +kernel
theorem dX1_readNumber_58 : decode cX1_readNumber 58 = .ok (.istore_n 2, 1) := by decide +kernel
theorem dX1_readNumber_59 : decode cX1_readNumber 59 = .ok (.aload_n 0, 1) := by decide +kernel
theorem dX1_readNumber_60 : decode cX1_readNumber 60 = .ok (.dup, 1) := by decide +kernel
theorem dX1_readNumber_61 : decode cX1_readNumber 61 = .ok (.getfield 28, 3) := by decide +kernel
theorem dX1_readNumber_64 : decode cX1_readNumber 64 = .ok (.iconst 1, 1) := by decide +kernel
theorem dX1_readNumber_65 : decode cX1_readNumber 65 = .ok (.iadd, 1) := by decide +kernel
theorem dX1_readNumber_66 : decode cX1_readNumber 66 = .ok (.putfield 28, 3) := by decide +kernel
theorem dX1_readNumber_69 : decode cX1_readNumber 69 = .ok (.iinc 3 1, 3) := by decide +kernel
theorem dX1_readNumber_72 : decode cX1_readNumber 72 = .ok (.goto (-41), 3) := by decide +kernel
theorem dX1_readNumber_75 : decode cX1_readNumber 75 = .ok (.aload_n 0, 1) := by decide +kernel
theorem dX1_readNumber_76 : decode cX1_readNumber 76 = .ok (.getfield 25, 3) := by decide +kernel
theorem dX1_readNumber_79 : decode cX1_readNumber 79 = .ok (.iload_n 1, 1) := by decide +kernel
theorem dX1_readNumber_80 : decode cX1_readNumber 80 = .ok (.iload_n 2, 1) := by decide +kernel
theorem dX1_readNumber_81 : decode cX1_readNumber 81 = .ok (.iastore, 1) := by decide +kernel
theorem dX1_readNumber_82 : decode cX1_readNumber 82 = .ok (.aload_n 0, 1) := by decide +kernel
theorem dX1_readNumber_83 : decode cX1_readNumber 83 = .ok (.invokevirtual 52, 3) := by decide +kernel
theorem dX1_readNumber_86 : decode cX1_readNumber 86 = .ok (.invokestatic 55, 3) := by decide +kernel
theorem dX1_readNumber_89 : decode cX1_readNumber 89 = .ok (.ifCond .ne 7, 3) := by decide +kernel
theorem dX1_readNumber_92 : decode cX1_readNumber 92 = .ok (.iconst 1, 1) := by decide +kernel
theorem dX1_readNumber_93 : decode cX1_readNumber 93 = .ok (.goto 4, 3) := by decide +kernel
theorem dX1_readNumber_96 : decode cX1_readNumber 96 = .ok (.iconst 0, 1) := by decide +kernel
theorem dX1_readNumber_97 : decode cX1_readNumber 97 = .ok (.ireturn, 1) := by decide +kernel
set_option maxRecDepth 20000 in
theorem ggX1_wordFrom_X1_spells : GoodIn wsX1_wordFrom wsX1_spells := goodIn_r _ [5, 6, 7, 8, 9, 10, 11, 12, 13, 14, 15, 16, 17, 18, 19, 20, 21, 22, 23, 24, 25, 26, 27, 28, 29, 30, 31, 32, 33, 34, 35, 36, 37, 38, 39, 40, 41, 42, 43, 44, 45, 46, 47, 48, 49, 50, 51, 52, 53, 54, 55, 56, 57, 58, 59, 60, 61, 62] (by decide +kernel) (by decide +kernel)
set_option maxRecDepth 20000 in
theorem gX1_wordFrom_X1_spells : GoodIn wsX1_wordFrom (wsV RX1 60 RX1 yX1_spells wsX1_spells) := goodIn_app (goodIn_of _ (by decide +kernel)) ggX1_wordFrom_X1_spells
theorem dX1_wordFrom_0 : decode cX1_wordFrom 0 = .ok (.aload_n 0, 1) := by decide +kernel
theorem dX1_wordFrom_1 : decode cX1_wordFrom 1 = .ok (.iload_n 1, 1) := by decide +kernel
theorem dX1_wordFrom_2 : decode cX1_wordFrom 2 = .ok (.ldc 58, 2) := by decide +kernel
theorem dX1_wordFrom_4 : decode cX1_wordFrom 4 = .ok (.invokevirtual 60, 3) := by decide +kernel
theorem dX1_wordFrom_7 : decode cX1_wordFrom 7 = .ok (.ifCond .eq 5, 3) := by decide +kernel
theorem dX1_wordFrom_10 : decode cX1_wordFrom 10 = .ok (.iconst 0, 1) := by decide +kernel
theorem dX1_wordFrom_11 : decode cX1_wordFrom 11 = .ok (.ireturn, 1) := by decide +kernel
theorem dX1_wordFrom_12 : decode cX1_wordFrom 12 = .ok (.aload_n 0, 1) := by decide +kernel
theorem dX1_wordFrom_13 : decode cX1_wordFrom 13 = .ok (.iload_n 1, 1) := by decide +kernel
theorem dX1_wordFrom_14 : decode cX1_wordFrom 14 = .ok (.ldc 64, 2) := by decide +kernel
theorem dX1_wordFrom_16 : decode cX1_wordFrom 16 = .ok (.invokevirtual 60, 3) := by decide +kernel
theorem dX1_wordFrom_19 : decode cX1_wordFrom 19 = .ok (.ifCond .eq 5, 3) := by decide +kernel
theorem dX1_wordFrom_22 : decode cX1_wordFrom 22 = .ok (.iconst 1, 1) := by decide +kernel
theorem dX1_wordFrom_23 : decode cX1_wordFrom 23 = .ok (.ireturn, 1) := by decide +kernel
theorem dX1_wordFrom_24 : decode cX1_wordFrom 24 = .ok (.aload_n 0, 1) := by decide +kernel
theorem dX1_wordFrom_25 : decode cX1_wordFrom 25 = .ok (.iload_n 1, 1) := by decide +kernel
theorem dX1_wordFrom_26 : decode cX1_wordFrom 26 = .ok (.ldc 66, 2) := by decide +kernel
theorem dX1_wordFrom_28 : decode cX1_wordFrom 28 = .ok (.invokevirtual 60, 3) := by decide +kernel
theorem dX1_wordFrom_31 : decode cX1_wordFrom 31 = .ok (.ifCond .eq 5, 3) := by decide +kernel
theorem dX1_wordFrom_34 : decode cX1_wordFrom 34 = .ok (.iconst 2, 1) := by decide +kernel
theorem dX1_wordFrom_35 : decode cX1_wordFrom 35 = .ok (.ireturn, 1) := by decide +kernel
theorem dX1_wordFrom_36 : decode cX1_wordFrom 36 = .ok (.aload_n 0, 1) := by decide +kernel
theorem dX1_wordFrom_37 : decode cX1_wordFrom 37 = .ok (.iload_n 1, 1) := by decide +kernel
theorem dX1_wordFrom_38 : decode cX1_wordFrom 38 = .ok (.ldc 68, 2) := by decide +kernel
theorem dX1_wordFrom_40 : decode cX1_wordFrom 40 = .ok (.invokevirtual 60, 3) := by decide +kernel
theorem dX1_wordFrom_43 : decode cX1_wordFrom 43 = .ok (.ifCond .eq 7, 3) := by decide +kernel
theorem dX1_wordFrom_46 : decode cX1_wordFrom 46 = .ok (.iconst 3, 1) := by decide +kernel
theorem dX1_wordFrom_47 : decode cX1_wordFrom 47 = .ok (.goto 4, 3) := by decide +kernel
theorem dX1_wordFrom_50 : decode cX1_wordFrom 50 = .ok (.iconst (-1), 1) := by decide +kernel
theorem dX1_wordFrom_51 : decode cX1_wordFrom 51 = .ok (.ireturn, 1) := by decide +kernel
set_option maxRecDepth 20000 in
theorem ggX1_spells_J0_length_8abf5 : GoodIn wsX1_spells wsJ0_length_8abf5 := goodIn_r _ [7, 8, 9, 10, 11, 6, 12, 13, 14] (by decide +kernel) (by decide +kernel)
set_option maxRecDepth 20000 in
theorem gX1_spells_J0_length_8abf5 : GoodIn wsX1_spells (wsV RX1 70 RJ0 yJ0_length_8abf5 wsJ0_length_8abf5) := goodIn_app (goodIn_of _ (by decide +kernel)) ggX1_spells_J0_length_8abf5
set_option maxRecDepth 20000 in
theorem ggX1_spells_J0_charAt_5068e : GoodIn wsX1_spells wsJ0_charAt_5068e := goodIn_r _ [18, 8, 19, 20, 21, 6, 22, 13, 14, 23, 24, 25, 26, 27, 28, 29, 30, 31, 32, 33, 34, 35, 36, 37, 38, 39, 40, 41, 42, 43, 44, 45, 46, 47, 48, 49, 50, 51] (by decide +kernel) (by decide +kernel)
set_option maxRecDepth 20000 in
theorem gX1_spells_J0_charAt_5068e : GoodIn wsX1_spells (wsV RX1 74 RJ0 yJ0_charAt_5068e wsJ0_charAt_5068e) := goodIn_app (goodIn_of _ (by decide +kernel)) ggX1_spells_J0_charAt_5068e
theorem dX1_spells_0 : decode cX1_spells 0 = .ok (.aload_n 0, 1) := by decide +kernel
theorem dX1_spells_1 : decode cX1_spells 1 = .ok (.getfield 28, 3) := by decide +kernel
theorem dX1_spells_4 : decode cX1_spells 4 = .ok (.iload_n 1, 1) := by decide +kernel
theorem dX1_spells_5 : decode cX1_spells 5 = .ok (.isub, 1) := by decide +kernel
theorem dX1_spells_6 : decode cX1_spells 6 = .ok (.aload_n 2, 1) := by decide +kernel
theorem dX1_spells_7 : decode cX1_spells 7 = .ok (.invokevirtual 70, 3) := by decide +kernel
theorem dX1_spells_10 : decode cX1_spells 10 = .ok (.if_icmp .eq 5, 3) := by decide +kernel
theorem dX1_spells_13 : decode cX1_spells 13 = .ok (.iconst 0, 1) := by decide +kernel
theorem dX1_spells_14 : decode cX1_spells 14 = .ok (.ireturn, 1) := by decide +kernel
theorem dX1_spells_15 : decode cX1_spells 15 = .ok (.iconst 0, 1) := by decide +kernel
theorem dX1_spells_16 : decode cX1_spells 16 = .ok (.istore_n 3, 1) := by decide +kernel
theorem dX1_spells_17 : decode cX1_spells 17 = .ok (.iload_n 3, 1) := by decide +kernel
theorem dX1_spells_18 : decode cX1_spells 18 = .ok (.aload_n 2, 1) := by decide +kernel
theorem dX1_spells_19 : decode cX1_spells 19 = .ok (.invokevirtual 70, 3) := by decide +kernel
theorem dX1_spells_22 : decode cX1_spells 22 = .ok (.if_icmp .ge 27, 3) := by decide +kernel
theorem dX1_spells_25 : decode cX1_spells 25 = .ok (.aload_n 0, 1) := by decide +kernel
theorem dX1_spells_26 : decode cX1_spells 26 = .ok (.getfield 11, 3) := by decide +kernel
theorem dX1_spells_29 : decode cX1_spells 29 = .ok (.iload_n 1, 1) := by decide +kernel
theorem dX1_spells_30 : decode cX1_spells 30 = .ok (.iload_n 3, 1) := by decide +kernel
theorem dX1_spells_31 : decode cX1_spells 31 = .ok (.iadd, 1) := by decide +kernel
theorem dX1_spells_32 : decode cX1_spells 32 = .ok (.iaload, 1) := by decide +kernel
theorem dX1_spells_33 : decode cX1_spells 33 = .ok (.aload_n 2, 1) := by decide +kernel
theorem dX1_spells_34 : decode cX1_spells 34 = .ok (.iload_n 3, 1) := by decide +kernel
theorem dX1_spells_35 : decode cX1_spells 35 = .ok (.invokevirtual 74, 3) := by decide +kernel
theorem dX1_spells_38 : decode cX1_spells 38 = .ok (.if_icmp .eq 5, 3) := by decide +kernel
theorem dX1_spells_41 : decode cX1_spells 41 = .ok (.iconst 0, 1) := by decide +kernel
theorem dX1_spells_42 : decode cX1_spells 42 = .ok (.ireturn, 1) := by decide +kernel
theorem dX1_spells_43 : decode cX1_spells 43 = .ok (.iinc 3 1, 3) := by decide +kernel
theorem dX1_spells_46 : decode cX1_spells 46 = .ok (.goto (-29), 3) := by decide +kernel
theorem dX1_spells_49 : decode cX1_spells 49 = .ok (.iconst 1, 1) := by decide +kernel
theorem dX1_spells_50 : decode cX1_spells 50 = .ok (.ireturn, 1) := by decide +kernel
theorem dX1_numbersOf_0 : decode cX1_numbersOf 0 = .ok (.iload_n 0, 1) := by decide +kernel
theorem dX1_numbersOf_1 : decode cX1_numbersOf 1 = .ok (.lookupswitch 31 #[(0, 27), (2, 29)], 27) := by decide +kernel
theorem dX1_numbersOf_28 : decode cX1_numbersOf 28 = .ok (.iconst 3, 1) := by decide +kernel
theorem dX1_numbersOf_29 : decode cX1_numbersOf 29 = .ok (.ireturn, 1) := by decide +kernel
theorem dX1_numbersOf_30 : decode cX1_numbersOf 30 = .ok (.iconst 2, 1) := by decide +kernel
theorem dX1_numbersOf_31 : decode cX1_numbersOf 31 = .ok (.ireturn, 1) := by decide +kernel
theorem dX1_numbersOf_32 : decode cX1_numbersOf 32 = .ok (.iconst 1, 1) := by decide +kernel
theorem dX1_numbersOf_33 : decode cX1_numbersOf 33 = .ok (.ireturn, 1) := by decide +kernel
theorem dX1_skipSpaces_0 : decode cX1_skipSpaces 0 = .ok (.aload_n 0, 1) := by decide +kernel
theorem dX1_skipSpaces_1 : decode cX1_skipSpaces 1 = .ok (.getfield 28, 3) := by decide +kernel
theorem dX1_skipSpaces_4 : decode cX1_skipSpaces 4 = .ok (.aload_n 0, 1) := by decide +kernel
theorem dX1_skipSpaces_5 : decode cX1_skipSpaces 5 = .ok (.getfield 15, 3) := by decide +kernel
theorem dX1_skipSpaces_8 : decode cX1_skipSpaces 8 = .ok (.if_icmp .ge 30, 3) := by decide +kernel
theorem dX1_skipSpaces_11 : decode cX1_skipSpaces 11 = .ok (.aload_n 0, 1) := by decide +kernel
theorem dX1_skipSpaces_12 : decode cX1_skipSpaces 12 = .ok (.getfield 11, 3) := by decide +kernel
theorem dX1_skipSpaces_15 : decode cX1_skipSpaces 15 = .ok (.aload_n 0, 1) := by decide +kernel
theorem dX1_skipSpaces_16 : decode cX1_skipSpaces 16 = .ok (.getfield 28, 3) := by decide +kernel
theorem dX1_skipSpaces_19 : decode cX1_skipSpaces 19 = .ok (.iaload, 1) := by decide +kernel
theorem dX1_skipSpaces_20 : decode cX1_skipSpaces 20 = .ok (.bipush 32, 2) := by decide +kernel
theorem dX1_skipSpaces_22 : decode cX1_skipSpaces 22 = .ok (.if_icmp .ne 16, 3) := by decide +kernel
theorem dX1_skipSpaces_25 : decode cX1_skipSpaces 25 = .ok (.aload_n 0, 1) := by decide +kernel
theorem dX1_skipSpaces_26 : decode cX1_skipSpaces 26 = .ok (.dup, 1) := by decide +kernel
theorem dX1_skipSpaces_27 : decode cX1_skipSpaces 27 = .ok (.getfield 28, 3) := by decide +kernel
theorem dX1_skipSpaces_30 : decode cX1_skipSpaces 30 = .ok (.iconst 1, 1) := by decide +kernel
theorem dX1_skipSpaces_31 : decode cX1_skipSpaces 31 = .ok (.iadd, 1) := by decide +kernel
theorem dX1_skipSpaces_32 : decode cX1_skipSpaces 32 = .ok (.putfield 28, 3) := by decide +kernel
theorem dX1_skipSpaces_35 : decode cX1_skipSpaces 35 = .ok (.goto (-35), 3) := by decide +kernel
theorem dX1_skipSpaces_38 : decode cX1_skipSpaces 38 = .ok (.return_, 1) := by decide +kernel
theorem dX1_skipLetters_0 : decode cX1_skipLetters 0 = .ok (.aload_n 0, 1) := by decide +kernel
theorem dX1_skipLetters_1 : decode cX1_skipLetters 1 = .ok (.getfield 28, 3) := by decide +kernel
theorem dX1_skipLetters_4 : decode cX1_skipLetters 4 = .ok (.aload_n 0, 1) := by decide +kernel
theorem dX1_skipLetters_5 : decode cX1_skipLetters 5 = .ok (.getfield 15, 3) := by decide +kernel
theorem dX1_skipLetters_8 : decode cX1_skipLetters 8 = .ok (.if_icmp .ge 44, 3) := by decide +kernel
theorem dX1_skipLetters_11 : decode cX1_skipLetters 11 = .ok (.aload_n 0, 1) := by decide +kernel
theorem dX1_skipLetters_12 : decode cX1_skipLetters 12 = .ok (.getfield 11, 3) := by decide +kernel
theorem dX1_skipLetters_15 : decode cX1_skipLetters 15 = .ok (.aload_n 0, 1) := by decide +kernel
theorem dX1_skipLetters_16 : decode cX1_skipLetters 16 = .ok (.getfield 28, 3) := by decide +kernel
theorem dX1_skipLetters_19 : decode cX1_skipLetters 19 = .ok (.iaload, 1) := by decide +kernel
theorem dX1_skipLetters_20 : decode cX1_skipLetters 20 = .ok (.bipush 97, 2) := by decide +kernel
theorem dX1_skipLetters_22 : decode cX1_skipLetters 22 = .ok (.if_icmp .lt 30, 3) := by decide +kernel
theorem dX1_skipLetters_25 : decode cX1_skipLetters 25 = .ok (.aload_n 0, 1) := by decide +kernel
theorem dX1_skipLetters_26 : decode cX1_skipLetters 26 = .ok (.getfield 11, 3) := by decide +kernel
theorem dX1_skipLetters_29 : decode cX1_skipLetters 29 = .ok (.aload_n 0, 1) := by decide +kernel
theorem dX1_skipLetters_30 : decode cX1_skipLetters 30 = .ok (.getfield 28, 3) := by decide +kernel
theorem dX1_skipLetters_33 : decode cX1_skipLetters 33 = .ok (.iaload, 1) := by decide +kernel
theorem dX1_skipLetters_34 : decode cX1_skipLetters 34 = .ok (.bipush 122, 2) := by decide +kernel
theorem dX1_skipLetters_36 : decode cX1_skipLetters 36 = .ok (.if_icmp .gt 16, 3) := by decide +kernel
theorem dX1_skipLetters_39 : decode cX1_skipLetters 39 = .ok (.aload_n 0, 1) := by decide +kernel
theorem dX1_skipLetters_40 : decode cX1_skipLetters 40 = .ok (.dup, 1) := by decide +kernel
theorem dX1_skipLetters_41 : decode cX1_skipLetters 41 = .ok (.getfield 28, 3) := by decide +kernel
theorem dX1_skipLetters_44 : decode cX1_skipLetters 44 = .ok (.iconst 1, 1) := by decide +kernel
theorem dX1_skipLetters_45 : decode cX1_skipLetters 45 = .ok (.iadd, 1) := by decide +kernel
theorem dX1_skipLetters_46 : decode cX1_skipLetters 46 = .ok (.putfield 28, 3) := by decide +kernel
theorem dX1_skipLetters_49 : decode cX1_skipLetters 49 = .ok (.goto (-49), 3) := by decide +kernel
theorem dX1_skipLetters_52 : decode cX1_skipLetters 52 = .ok (.return_, 1) := by decide +kernel
theorem dX1_peek_0 : decode cX1_peek 0 = .ok (.aload_n 0, 1) := by decide +kernel
theorem dX1_peek_1 : decode cX1_peek 1 = .ok (.getfield 28, 3) := by decide +kernel
theorem dX1_peek_4 : decode cX1_peek 4 = .ok (.aload_n 0, 1) := by decide +kernel
theorem dX1_peek_5 : decode cX1_peek 5 = .ok (.getfield 15, 3) := by decide +kernel
theorem dX1_peek_8 : decode cX1_peek 8 = .ok (.if_icmp .ge 15, 3) := by decide +kernel
theorem dX1_peek_11 : decode cX1_peek 11 = .ok (.aload_n 0, 1) := by decide +kernel
theorem dX1_peek_12 : decode cX1_peek 12 = .ok (.getfield 11, 3) := by decide +kernel
theorem dX1_peek_15 : decode cX1_peek 15 = .ok (.aload_n 0, 1) := by decide +kernel
theorem dX1_peek_16 : decode cX1_peek 16 = .ok (.getfield 28, 3) := by decide +kernel
theorem dX1_peek_19 : decode cX1_peek 19 = .ok (.iaload, 1) := by decide +kernel
theorem dX1_peek_20 : decode cX1_peek 20 = .ok (.goto 4, 3) := by decide +kernel
theorem dX1_peek_23 : decode cX1_peek 23 = .ok (.iconst (-1), 1) := by decide +kernel
theorem dX1_peek_24 : decode cX1_peek 24 = .ok (.ireturn, 1) := by decide +kernel
theorem dX1_isDigit_0 : decode cX1_isDigit 0 = .ok (.iload_n 0, 1) := by decide +kernel
theorem dX1_isDigit_1 : decode cX1_isDigit 1 = .ok (.bipush 48, 2) := by decide +kernel
theorem dX1_isDigit_3 : decode cX1_isDigit 3 = .ok (.if_icmp .lt 13, 3) := by decide +kernel
theorem dX1_isDigit_6 : decode cX1_isDigit 6 = .ok (.iload_n 0, 1) := by decide +kernel
theorem dX1_isDigit_7 : decode cX1_isDigit 7 = .ok (.bipush 57, 2) := by decide +kernel
theorem dX1_isDigit_9 : decode cX1_isDigit 9 = .ok (.if_icmp .gt 7, 3) := by decide +kernel
theorem dX1_isDigit_12 : decode cX1_isDigit 12 = .ok (.iconst 1, 1) := by decide +kernel
theorem dX1_isDigit_13 : decode cX1_isDigit 13 = .ok (.goto 4, 3) := by decide +kernel
theorem dX1_isDigit_16 : decode cX1_isDigit 16 = .ok (.iconst 0, 1) := by decide +kernel
theorem dX1_isDigit_17 : decode cX1_isDigit 17 = .ok (.ireturn, 1) := by decide +kernel
set_option maxRecDepth 20000 in
theorem ggX2_init_X3_init : GoodIn wsX2_init wsX3_init := goodIn_r _ [23, 24, 2, 3, 12, 25, 26, 27, 46, 47, 48] (by decide +kernel) (by decide +kernel)
set_option maxRecDepth 20000 in
theorem gX2_init_X3_init_n54 : GoodIn wsX2_init (wsX3_init) := ggX2_init_X3_init
set_option maxRecDepth 20000 in
theorem ggX2_init_J7_fill_53178 : GoodIn wsX2_init wsJ7_fill_53178 := goodIn_r _ [31] (by decide +kernel) (by decide +kernel)
set_option maxRecDepth 20000 in
theorem gX2_init_J7_fill_53178 : GoodIn wsX2_init (va_wsS RX2 59 yJ7_fill_53178 wsJ7_fill_53178) := goodIn_app (goodIn_of _ (by decide +kernel)) ggX2_init_J7_fill_53178
theorem dX2_init_0 : decode cX2_init 0 = .ok (.aload_n 0, 1) := by decide +kernel
theorem dX2_init_1 : decode cX2_init 1 = .ok (.invokespecial 3, 3) := by decide +kernel
theorem dX2_init_4 : decode cX2_init 4 = .ok (.aload_n 0, 1) := by decide +kernel
theorem dX2_init_5 : decode cX2_init 5 = .ok (.iconst 2, 1) := by decide +kernel
theorem dX2_init_6 : decode cX2_init 6 = .ok (.putfield 9, 3) := by decide +kernel
theorem dX2_init_9 : decode cX2_init 9 = .ok (.aload_n 0, 1) := by decide +kernel
theorem dX2_init_10 : decode cX2_init 10 = .ok (.bipush 100, 2) := by decide +kernel
theorem dX2_init_12 : decode cX2_init 12 = .ok (.putfield 15, 3) := by decide +kernel
theorem dX2_init_15 : decode cX2_init 15 = .ok (.aload_n 0, 1) := by decide +kernel
theorem dX2_init_16 : decode cX2_init 16 = .ok (.bipush 20, 2) := by decide +kernel
theorem dX2_init_18 : decode cX2_init 18 = .ok (.putfield 18, 3) := by decide +kernel
theorem dX2_init_21 : decode cX2_init 21 = .ok (.aload_n 0, 1) := by decide +kernel
theorem dX2_init_22 : decode cX2_init 22 = .ok (.iconst 2, 1) := by decide +kernel
theorem dX2_init_23 : decode cX2_init 23 = .ok (.putfield 21, 3) := by decide +kernel
theorem dX2_init_26 : decode cX2_init 26 = .ok (.aload_n 0, 1) := by decide +kernel
theorem dX2_init_27 : decode cX2_init 27 = .ok (.bipush 8, 2) := by decide +kernel
theorem dX2_init_29 : decode cX2_init 29 = .ok (.putfield 24, 3) := by decide +kernel
theorem dX2_init_32 : decode cX2_init 32 = .ok (.aload_n 0, 1) := by decide +kernel
theorem dX2_init_33 : decode cX2_init 33 = .ok (.iconst 0, 1) := by decide +kernel
theorem dX2_init_34 : decode cX2_init 34 = .ok (.putfield 27, 3) := by decide +kernel
theorem dX2_init_37 : decode cX2_init 37 = .ok (.aload_n 0, 1) := by decide +kernel
theorem dX2_init_38 : decode cX2_init 38 = .ok (.iconst 0, 1) := by decide +kernel
theorem dX2_init_39 : decode cX2_init 39 = .ok (.putfield 30, 3) := by decide +kernel
theorem dX2_init_42 : decode cX2_init 42 = .ok (.aload_n 0, 1) := by decide +kernel
theorem dX2_init_43 : decode cX2_init 43 = .ok (.iconst 0, 1) := by decide +kernel
theorem dX2_init_44 : decode cX2_init 44 = .ok (.putfield 33, 3) := by decide +kernel
theorem dX2_init_47 : decode cX2_init 47 = .ok (.aload_n 0, 1) := by decide +kernel
theorem dX2_init_48 : decode cX2_init 48 = .ok (.bipush 9, 2) := by decide +kernel
theorem dX2_init_50 : decode cX2_init 50 = .ok (.newarray .int, 2) := by decide +kernel
theorem dX2_init_52 : decode cX2_init 52 = .ok (.putfield 36, 3) := by decide +kernel
theorem dX2_init_55 : decode cX2_init 55 = .ok (.aload_n 0, 1) := by decide +kernel
theorem dX2_init_56 : decode cX2_init 56 = .ok (.sipush 256, 3) := by decide +kernel
theorem dX2_init_59 : decode cX2_init 59 = .ok (.newarray .int, 2) := by decide +kernel
theorem dX2_init_61 : decode cX2_init 61 = .ok (.putfield 40, 3) := by decide +kernel
theorem dX2_init_64 : decode cX2_init 64 = .ok (.aload_n 0, 1) := by decide +kernel
theorem dX2_init_65 : decode cX2_init 65 = .ok (.bipush 24, 2) := by decide +kernel
theorem dX2_init_67 : decode cX2_init 67 = .ok (.newarray .int, 2) := by decide +kernel
theorem dX2_init_69 : decode cX2_init 69 = .ok (.putfield 43, 3) := by decide +kernel
theorem dX2_init_72 : decode cX2_init 72 = .ok (.aload_n 0, 1) := by decide +kernel
theorem dX2_init_73 : decode cX2_init 73 = .ok (.bipush 24, 2) := by decide +kernel
theorem dX2_init_75 : decode cX2_init 75 = .ok (.newarray .int, 2) := by decide +kernel
theorem dX2_init_77 : decode cX2_init 77 = .ok (.putfield 46, 3) := by decide +kernel
theorem dX2_init_80 : decode cX2_init 80 = .ok (.aload_n 0, 1) := by decide +kernel
theorem dX2_init_81 : decode cX2_init 81 = .ok (.bipush 24, 2) := by decide +kernel
theorem dX2_init_83 : decode cX2_init 83 = .ok (.newarray .int, 2) := by decide +kernel
theorem dX2_init_85 : decode cX2_init 85 = .ok (.putfield 49, 3) := by decide +kernel
theorem dX2_init_88 : decode cX2_init 88 = .ok (.aload_n 0, 1) := by decide +kernel
theorem dX2_init_89 : decode cX2_init 89 = .ok (.new 52, 3) := by decide +kernel
theorem dX2_init_92 : decode cX2_init 92 = .ok (.dup, 1) := by decide +kernel
theorem dX2_init_93 : decode cX2_init 93 = .ok (.invokespecial 54, 3) := by decide +kernel
theorem dX2_init_96 : decode cX2_init 96 = .ok (.putfield 55, 3) := by decide +kernel
theorem dX2_init_99 : decode cX2_init 99 = .ok (.aload_n 0, 1) := by decide +kernel
theorem dX2_init_100 : decode cX2_init 100 = .ok (.getfield 40, 3) := by decide +kernel
theorem dX2_init_103 : decode cX2_init 103 = .ok (.iconst (-1), 1) := by decide +kernel
theorem dX2_init_104 : decode cX2_init 104 = .ok (.invokestatic 59, 3) := by decide +kernel
theorem dX2_init_107 : decode cX2_init 107 = .ok (.aload_n 0, 1) := by decide +kernel
theorem dX2_init_108 : decode cX2_init 108 = .ok (.getfield 43, 3) := by decide +kernel
theorem dX2_init_111 : decode cX2_init 111 = .ok (.iconst (-1), 1) := by decide +kernel
theorem dX2_init_112 : decode cX2_init 112 = .ok (.invokestatic 59, 3) := by decide +kernel
theorem dX2_init_115 : decode cX2_init 115 = .ok (.return_, 1) := by decide +kernel
set_option maxRecDepth 20000 in
theorem ggX2_copyFrom_X3_copyFrom : GoodIn wsX2_copyFrom wsX3_copyFrom := goodIn_r _ [23, 24, 25, 11, 12, 13, 26, 27, 42, 43, 44] (by decide +kernel) (by decide +kernel)
set_option maxRecDepth 20000 in
theorem gX2_copyFrom_X3_copyFrom : GoodIn wsX2_copyFrom (wsV RX2 71 RX3 yX3_copyFrom wsX3_copyFrom) := goodIn_app (goodIn_of _ (by decide +kernel)) ggX2_copyFrom_X3_copyFrom
theorem dX2_copyFrom_0 : decode cX2_copyFrom 0 = .ok (.aload_n 0, 1) := by decide +kernel
theorem dX2_copyFrom_1 : decode cX2_copyFrom 1 = .ok (.aload_n 1, 1) := by decide +kernel
theorem dX2_copyFrom_2 : decode cX2_copyFrom 2 = .ok (.getfield 9, 3) := by decide +kernel
theorem dX2_copyFrom_5 : decode cX2_copyFrom 5 = .ok (.putfield 9, 3) := by decide +kernel
theorem dX2_copyFrom_8 : decode cX2_copyFrom 8 = .ok (.aload_n 0, 1) := by decide +kernel
theorem dX2_copyFrom_9 : decode cX2_copyFrom 9 = .ok (.aload_n 1, 1) := by decide +kernel
theorem dX2_copyFrom_10 : decode cX2_copyFrom 10 = .ok (.getfield 15, 3) := by decide +kernel
theorem dX2_copyFrom_13 : decode cX2_copyFrom 13 = .ok (.putfield 15, 3) := by decide +kernel
theorem dX2_copyFrom_16 : decode cX2_copyFrom 16 = .ok (.aload_n 0, 1) := by decide +kernel
theorem dX2_copyFrom_17 : decode cX2_copyFrom 17 = .ok (.aload_n 1, 1) := by decide +kernel
theorem dX2_copyFrom_18 : decode cX2_copyFrom 18 = .ok (.getfield 18, 3) := by decide +kernel
theorem dX2_copyFrom_21 : decode cX2_copyFrom 21 = .ok (.putfield 18, 3) := by decide +kernel
theorem dX2_copyFrom_24 : decode cX2_copyFrom 24 = .ok (.aload_n 0, 1) := by decide +kernel
theorem dX2_copyFrom_25 : decode cX2_copyFrom 25 = .ok (.aload_n 1, 1) := by decide +kernel
theorem dX2_copyFrom_26 : decode cX2_copyFrom 26 = .ok (.getfield 21, 3) := by decide +kernel
theorem dX2_copyFrom_29 : decode cX2_copyFrom 29 = .ok (.putfield 21, 3) := by decide +kernel
theorem dX2_copyFrom_32 : decode cX2_copyFrom 32 = .ok (.aload_n 0, 1) := by decide +kernel
theorem dX2_copyFrom_33 : decode cX2_copyFrom 33 = .ok (.aload_n 1, 1) := by decide +kernel
theorem dX2_copyFrom_34 : decode cX2_copyFrom 34 = .ok (.getfield 24, 3) := by decide +kernel
theorem dX2_copyFrom_37 : decode cX2_copyFrom 37 = .ok (.putfield 24, 3) := by decide +kernel
theorem dX2_copyFrom_40 : decode cX2_copyFrom 40 = .ok (.aload_n 0, 1) := by decide +kernel
theorem dX2_copyFrom_41 : decode cX2_copyFrom 41 = .ok (.aload_n 1, 1) := by decide +kernel
theorem dX2_copyFrom_42 : decode cX2_copyFrom 42 = .ok (.getfield 27, 3) := by decide +kernel
theorem dX2_copyFrom_45 : decode cX2_copyFrom 45 = .ok (.putfield 27, 3) := by decide +kernel
theorem dX2_copyFrom_48 : decode cX2_copyFrom 48 = .ok (.aload_n 0, 1) := by decide +kernel
theorem dX2_copyFrom_49 : decode cX2_copyFrom 49 = .ok (.aload_n 1, 1) := by decide +kernel
theorem dX2_copyFrom_50 : decode cX2_copyFrom 50 = .ok (.getfield 30, 3) := by decide +kernel
theorem dX2_copyFrom_53 : decode cX2_copyFrom 53 = .ok (.putfield 30, 3) := by decide +kernel
theorem dX2_copyFrom_56 : decode cX2_copyFrom 56 = .ok (.aload_n 0, 1) := by decide +kernel
theorem dX2_copyFrom_57 : decode cX2_copyFrom 57 = .ok (.aload_n 1, 1) := by decide +kernel
theorem dX2_copyFrom_58 : decode cX2_copyFrom 58 = .ok (.getfield 33, 3) := by decide +kernel
theorem dX2_copyFrom_61 : decode cX2_copyFrom 61 = .ok (.putfield 33, 3) := by decide +kernel
theorem dX2_copyFrom_64 : decode cX2_copyFrom 64 = .ok (.aload_n 1, 1) := by decide +kernel
theorem dX2_copyFrom_65 : decode cX2_copyFrom 65 = .ok (.getfield 36, 3) := by decide +kernel
theorem dX2_copyFrom_68 : decode cX2_copyFrom 68 = .ok (.iconst 0, 1) := by decide +kernel
theorem dX2_copyFrom_69 : decode cX2_copyFrom 69 = .ok (.aload_n 0, 1) := by decide +kernel
theorem dX2_copyFrom_70 : decode cX2_copyFrom 70 = .ok (.getfield 36, 3) := by decide +kernel
theorem dX2_copyFrom_73 : decode cX2_copyFrom 73 = .ok (.iconst 0, 1) := by decide +kernel
theorem dX2_copyFrom_74 : decode cX2_copyFrom 74 = .ok (.bipush 9, 2) := by decide +kernel
theorem dX2_copyFrom_76 : decode cX2_copyFrom 76 = .ok (.invokestatic 65, 3) := by decide +kernel
theorem dX2_copyFrom_79 : decode cX2_copyFrom 79 = .ok (.aload_n 1, 1) := by decide +kernel
theorem dX2_copyFrom_80 : decode cX2_copyFrom 80 = .ok (.getfield 40, 3) := by decide +kernel
theorem dX2_copyFrom_83 : decode cX2_copyFrom 83 = .ok (.iconst 0, 1) := by decide +kernel
theorem dX2_copyFrom_84 : decode cX2_copyFrom 84 = .ok (.aload_n 0, 1) := by decide +kernel
theorem dX2_copyFrom_85 : decode cX2_copyFrom 85 = .ok (.getfield 40, 3) := by decide +kernel
theorem dX2_copyFrom_88 : decode cX2_copyFrom 88 = .ok (.iconst 0, 1) := by decide +kernel
theorem dX2_copyFrom_89 : decode cX2_copyFrom 89 = .ok (.sipush 256, 3) := by decide +kernel
theorem dX2_copyFrom_92 : decode cX2_copyFrom 92 = .ok (.invokestatic 65, 3) := by decide +kernel
theorem dX2_copyFrom_95 : decode cX2_copyFrom 95 = .ok (.aload_n 1, 1) := by decide +kernel
theorem dX2_copyFrom_96 : decode cX2_copyFrom 96 = .ok (.getfield 43, 3) := by decide +kernel
theorem dX2_copyFrom_99 : decode cX2_copyFrom 99 = .ok (.iconst 0, 1) := by decide +kernel
theorem dX2_copyFrom_100 : decode cX2_copyFrom 100 = .ok (.aload_n 0, 1) := by decide +kernel
theorem dX2_copyFrom_101 : decode cX2_copyFrom 101 = .ok (.getfield 43, 3) := by decide +kernel
theorem dX2_copyFrom_104 : decode cX2_copyFrom 104 = .ok (.iconst 0, 1) := by decide +kernel
theorem dX2_copyFrom_105 : decode cX2_copyFrom 105 = .ok (.bipush 24, 2) := by decide +kernel
theorem dX2_copyFrom_107 : decode cX2_copyFrom 107 = .ok (.invokestatic 65, 3) := by decide +kernel
theorem dX2_copyFrom_110 : decode cX2_copyFrom 110 = .ok (.aload_n 1, 1) := by decide +kernel
theorem dX2_copyFrom_111 : decode cX2_copyFrom 111 = .ok (.getfield 46, 3) := by decide +kernel
theorem dX2_copyFrom_114 : decode cX2_copyFrom 114 = .ok (.iconst 0, 1) := by decide +kernel
theorem dX2_copyFrom_115 : decode cX2_copyFrom 115 = .ok (.aload_n 0, 1) := by decide +kernel
theorem dX2_copyFrom_116 : decode cX2_copyFrom 116 = .ok (.getfield 46, 3) := by decide +kernel
theorem dX2_copyFrom_119 : decode cX2_copyFrom 119 = .ok (.iconst 0, 1) := by decide +kernel
theorem dX2_copyFrom_120 : decode cX2_copyFrom 120 = .ok (.bipush 24, 2) := by decide +kernel
theorem dX2_copyFrom_122 : decode cX2_copyFrom 122 = .ok (.invokestatic 65, 3) := by decide +kernel
theorem dX2_copyFrom_125 : decode cX2_copyFrom 125 = .ok (.aload_n 1, 1) := by decide +kernel
theorem dX2_copyFrom_126 : decode cX2_copyFrom 126 = .ok (.getfield 49, 3) := by decide +kernel
theorem dX2_copyFrom_129 : decode cX2_copyFrom 129 = .ok (.iconst 0, 1) := by decide +kernel
theorem dX2_copyFrom_130 : decode cX2_copyFrom 130 = .ok (.aload_n 0, 1) := by decide +kernel
theorem dX2_copyFrom_131 : decode cX2_copyFrom 131 = .ok (.getfield 49, 3) := by decide +kernel
theorem dX2_copyFrom_134 : decode cX2_copyFrom 134 = .ok (.iconst 0, 1) := by decide +kernel
theorem dX2_copyFrom_135 : decode cX2_copyFrom 135 = .ok (.bipush 24, 2) := by decide +kernel
theorem dX2_copyFrom_137 : decode cX2_copyFrom 137 = .ok (.invokestatic 65, 3) := by decide +kernel
theorem dX2_copyFrom_140 : decode cX2_copyFrom 140 = .ok (.aload_n 0, 1) := by decide +kernel
theorem dX2_copyFrom_141 : decode cX2_copyFrom 141 = .ok (.getfield 55, 3) := by decide +kernel
theorem dX2_copyFrom_144 : decode cX2_copyFrom 144 = .ok (.aload_n 1, 1) := by decide +kernel
theorem dX2_copyFrom_145 : decode cX2_copyFrom 145 = .ok (.getfield 55, 3) := by decide +kernel
theorem dX2_copyFrom_148 : decode cX2_copyFrom 148 = .ok (.invokevirtual 71, 3) := by decide +kernel
theorem dX2_copyFrom_151 : decode cX2_copyFrom 151 = .ok (.return_, 1) := by decide +kernel
theorem dX2_isMember_0 : decode cX2_isMember 0 = .ok (.iload_n 1, 1) := by decide +kernel
theorem dX2_isMember_1 : decode cX2_isMember 1 = .ok (.ifCond .lt 24, 3) := by decide +kernel
theorem dX2_isMember_4 : decode cX2_isMember 4 = .ok (.iload_n 1, 1) := by decide +kernel
theorem dX2_isMember_5 : decode cX2_isMember 5 = .ok (.sipush 255, 3) := by decide +kernel
theorem dX2_isMember_8 : decode cX2_isMember 8 = .ok (.if_icmp .gt 17, 3) := by decide +kernel
theorem dX2_isMember_11 : decode cX2_isMember 11 = .ok (.aload_n 0, 1) := by decide +kernel
theorem dX2_isMember_12 : decode cX2_isMember 12 = .ok (.getfield 40, 3) := by decide +kernel
theorem dX2_isMember_15 : decode cX2_isMember 15 = .ok (.iload_n 1, 1) := by decide +kernel
theorem dX2_isMember_16 : decode cX2_isMember 16 = .ok (.iaload, 1) := by decide +kernel
theorem dX2_isMember_17 : decode cX2_isMember 17 = .ok (.iconst (-1), 1) := by decide +kernel
theorem dX2_isMember_18 : decode cX2_isMember 18 = .ok (.if_icmp .eq 7, 3) := by decide +kernel
theorem dX2_isMember_21 : decode cX2_isMember 21 = .ok (.iconst 1, 1) := by decide +kernel
theorem dX2_isMember_22 : decode cX2_isMember 22 = .ok (.goto 4, 3) := by decide +kernel
theorem dX2_isMember_25 : decode cX2_isMember 25 = .ok (.iconst 0, 1) := by decide +kernel
theorem dX2_isMember_26 : decode cX2_isMember 26 = .ok (.ireturn, 1) := by decide +kernel
set_option maxRecDepth 20000 in
theorem ggX2_epoch_J9_floorDiv_7cf53 : GoodIn wsX2_epoch wsJ9_floorDiv_7cf53 := goodIn_r _ [6] (by decide +kernel) (by decide +kernel)
set_option maxRecDepth 20000 in
theorem gX2_epoch_J9_floorDiv_7cf53 : GoodIn wsX2_epoch (va_wsS RX2 75 yJ9_floorDiv_7cf53 wsJ9_floorDiv_7cf53) := goodIn_app (goodIn_of _ (by decide +kernel)) ggX2_epoch_J9_floorDiv_7cf53
theorem dX2_epoch_0 : decode cX2_epoch 0 = .ok (.aload_n 0, 1) := by decide +kernel
theorem dX2_epoch_1 : decode cX2_epoch 1 = .ok (.getfield 18, 3) := by decide +kernel
theorem dX2_epoch_4 : decode cX2_epoch 4 = .ok (.ifCond .le 17, 3) := by decide +kernel
theorem dX2_epoch_7 : decode cX2_epoch 7 = .ok (.aload_n 0, 1) := by decide +kernel
theorem dX2_epoch_8 : decode cX2_epoch 8 = .ok (.getfield 27, 3) := by decide +kernel
theorem dX2_epoch_11 : decode cX2_epoch 11 = .ok (.aload_n 0, 1) := by decide +kernel
theorem dX2_epoch_12 : decode cX2_epoch 12 = .ok (.getfield 18, 3) := by decide +kernel
theorem dX2_epoch_15 : decode cX2_epoch 15 = .ok (.invokestatic 75, 3) := by decide +kernel
theorem dX2_epoch_18 : decode cX2_epoch 18 = .ok (.goto 4, 3) := by decide +kernel
theorem dX2_epoch_21 : decode cX2_epoch 21 = .ok (.iconst 0, 1) := by decide +kernel
theorem dX2_epoch_22 : decode cX2_epoch 22 = .ok (.ireturn, 1) := by decide +kernel
theorem dX2_difficulty_0 : decode cX2_difficulty 0 = .ok (.aload_n 0, 1) := by decide +kernel
theorem dX2_difficulty_1 : decode cX2_difficulty 1 = .ok (.getfield 9, 3) := by decide +kernel
theorem dX2_difficulty_4 : decode cX2_difficulty 4 = .ok (.aload_n 0, 1) := by decide +kernel
theorem dX2_difficulty_5 : decode cX2_difficulty 5 = .ok (.getfield 30, 3) := by decide +kernel
theorem dX2_difficulty_8 : decode cX2_difficulty 8 = .ok (.iconst 4, 1) := by decide +kernel
theorem dX2_difficulty_9 : decode cX2_difficulty 9 = .ok (.idiv, 1) := by decide +kernel
theorem dX2_difficulty_10 : decode cX2_difficulty 10 = .ok (.iadd, 1) := by decide +kernel
theorem dX2_difficulty_11 : decode cX2_difficulty 11 = .ok (.bipush 12, 2) := by decide +kernel
theorem dX2_difficulty_13 : decode cX2_difficulty 13 = .ok (.invokestatic 81, 3) := by decide +kernel
theorem dX2_difficulty_16 : decode cX2_difficulty 16 = .ok (.ireturn, 1) := by decide +kernel
set_option maxRecDepth 20000 in
theorem ggX2_isSolvedBy_X2_epoch : GoodIn wsX2_isSolvedBy wsX2_epoch := goodIn_r _ [5, 6, 7, 8, 9, 10, 11, 41, 42, 43, 44, 45, 46, 47, 48, 49, 50, 51, 52, 53, 54] (by decide +kernel) (by decide +kernel)
set_option maxRecDepth 20000 in
theorem gX2_isSolvedBy_X2_epoch : GoodIn wsX2_isSolvedBy (wsV RX2 84 RX2 yX2_epoch wsX2_epoch) := goodIn_app (goodIn_of _ (by decide +kernel)) ggX2_isSolvedBy_X2_epoch
set_option maxRecDepth 20000 in
theorem ggX2_isSolvedBy_X0_leadingZeros : GoodIn wsX2_isSolvedBy wsX0_leadingZeros := goodIn_r _ [15, 16, 17, 18, 14, 19, 20, 21, 22, 23, 24, 25, 26, 27, 28, 29, 30] (by decide +kernel) (by decide +kernel)
set_option maxRecDepth 20000 in
theorem gX2_isSolvedBy_X0_leadingZeros : GoodIn wsX2_isSolvedBy (va_wsS RX2 88 yX0_leadingZeros wsX0_leadingZeros) := goodIn_app (goodIn_of _ (by decide +kernel)) ggX2_isSolvedBy_X0_leadingZeros
set_option maxRecDepth 20000 in
theorem ggX2_isSolvedBy_X2_difficulty : GoodIn wsX2_isSolvedBy wsX2_difficulty := goodIn_r _ [34, 35, 36, 37, 38, 39, 40, 41, 42, 43, 44, 45, 46, 47, 48, 49, 50, 51, 52, 53, 54] (by decide +kernel) (by decide +kernel)
set_option maxRecDepth 20000 in
theorem gX2_isSolvedBy_X2_difficulty : GoodIn wsX2_isSolvedBy (wsV RX2 94 RX2 yX2_difficulty wsX2_difficulty) := goodIn_app (goodIn_of _ (by decide +kernel)) ggX2_isSolvedBy_X2_difficulty
theorem dX2_isSolvedBy_0 : decode cX2_isSolvedBy 0 = .ok (.iload_n 1, 1) := by decide +kernel
theorem dX2_isSolvedBy_1 : decode cX2_isSolvedBy 1 = .ok (.iload_n 2, 1) := by decide +kernel
theorem dX2_isSolvedBy_2 : decode cX2_isSolvedBy 2 = .ok (.aload_n 0, 1) := by decide +kernel
theorem dX2_isSolvedBy_3 : decode cX2_isSolvedBy 3 = .ok (.invokevirtual 84, 3) := by decide +kernel
theorem dX2_isSolvedBy_6 : decode cX2_isSolvedBy 6 = .ok (.invokestatic 88, 3) := by decide +kernel
theorem dX2_isSolvedBy_9 : decode cX2_isSolvedBy 9 = .ok (.aload_n 0, 1) := by decide +kernel
theorem dX2_isSolvedBy_10 : decode cX2_isSolvedBy 10 = .ok (.invokevirtual 94, 3) := by decide +kernel
theorem dX2_isSolvedBy_13 : decode cX2_isSolvedBy 13 = .ok (.if_icmp .lt 7, 3) := by decide +kernel
theorem dX2_isSolvedBy_16 : decode cX2_isSolvedBy 16 = .ok (.iconst 1, 1) := by decide +kernel
theorem dX2_isSolvedBy_17 : decode cX2_isSolvedBy 17 = .ok (.goto 4, 3) := by decide +kernel
theorem dX2_isSolvedBy_20 : decode cX2_isSolvedBy 20 = .ok (.iconst 0, 1) := by decide +kernel
theorem dX2_isSolvedBy_21 : decode cX2_isSolvedBy 21 = .ok (.ireturn, 1) := by decide +kernel
set_option maxRecDepth 20000 in
theorem ggX2_smallestNonce_X2_epoch : GoodIn wsX2_smallestNonce wsX2_epoch := goodIn_r _ [7, 8, 9, 10, 11, 12, 13, 39, 40, 41, 42, 43, 44, 45, 46, 47, 48, 49, 50, 51, 52] (by decide +kernel) (by decide +kernel)
set_option maxRecDepth 20000 in
theorem gX2_smallestNonce_X2_epoch : GoodIn wsX2_smallestNonce (wsV RX2 84 RX2 yX2_epoch wsX2_epoch) := goodIn_app (goodIn_of _ (by decide +kernel)) ggX2_smallestNonce_X2_epoch
set_option maxRecDepth 20000 in
theorem ggX2_smallestNonce_X0_sumWithoutNonce : GoodIn wsX2_smallestNonce wsX0_sumWithoutNonce := goodIn_r _ [17, 18, 19] (by decide +kernel) (by decide +kernel)
set_option maxRecDepth 20000 in
theorem gX2_smallestNonce_X0_sumWithoutNonce : GoodIn wsX2_smallestNonce (va_wsS RX2 97 yX0_sumWithoutNonce wsX0_sumWithoutNonce) := goodIn_app (goodIn_of _ (by decide +kernel)) ggX2_smallestNonce_X0_sumWithoutNonce
set_option maxRecDepth 20000 in
theorem ggX2_smallestNonce_X2_difficulty : GoodIn wsX2_smallestNonce wsX2_difficulty := goodIn_r _ [23, 24, 25, 26, 27, 28, 29, 39, 40, 41, 42, 43, 44, 45, 46, 47, 48, 49, 50, 51, 52] (by decide +kernel) (by decide +kernel)
set_option maxRecDepth 20000 in
theorem gX2_smallestNonce_X2_difficulty : GoodIn wsX2_smallestNonce (wsV RX2 94 RX2 yX2_difficulty wsX2_difficulty) := goodIn_app (goodIn_of _ (by decide +kernel)) ggX2_smallestNonce_X2_difficulty
set_option maxRecDepth 20000 in
theorem ggX2_smallestNonce_X0_mix : GoodIn wsX2_smallestNonce wsX0_mix := goodIn_r _ [32, 33] (by decide +kernel) (by decide +kernel)
set_option maxRecDepth 20000 in
theorem gX2_smallestNonce_X0_mix : GoodIn wsX2_smallestNonce (va_wsS RX2 101 yX0_mix wsX0_mix) := goodIn_app (goodIn_of _ (by decide +kernel)) ggX2_smallestNonce_X0_mix
set_option maxRecDepth 20000 in
theorem ggX2_smallestNonce_J6_numberOfLeadingZeros_0f7a4 : GoodIn wsX2_smallestNonce wsJ6_numberOfLeadingZeros_0f7a4 := goodIn_r _ [37, 38] (by decide +kernel) (by decide +kernel)
set_option maxRecDepth 20000 in
theorem gX2_smallestNonce_J6_numberOfLeadingZeros_0f7a4 : GoodIn wsX2_smallestNonce (va_wsS RX2 105 yJ6_numberOfLeadingZeros_0f7a4 wsJ6_numberOfLeadingZeros_0f7a4) := goodIn_app (goodIn_of _ (by decide +kernel)) ggX2_smallestNonce_J6_numberOfLeadingZeros_0f7a4
theorem dX2_smallestNonce_0 : decode cX2_smallestNonce 0 = .ok (.iload_n 1, 1) := by decide +kernel
theorem dX2_smallestNonce_1 : decode cX2_smallestNonce 1 = .ok (.aload_n 0, 1) := by decide +kernel
theorem dX2_smallestNonce_2 : decode cX2_smallestNonce 2 = .ok (.invokevirtual 84, 3) := by decide +kernel
theorem dX2_smallestNonce_5 : decode cX2_smallestNonce 5 = .ok (.invokestatic 97, 3) := by decide +kernel
theorem dX2_smallestNonce_8 : decode cX2_smallestNonce 8 = .ok (.istore_n 2, 1) := by decide +kernel
theorem dX2_smallestNonce_9 : decode cX2_smallestNonce 9 = .ok (.aload_n 0, 1) := by decide +kernel
theorem dX2_smallestNonce_10 : decode cX2_smallestNonce 10 = .ok (.invokevirtual 94, 3) := by decide +kernel
theorem dX2_smallestNonce_13 : decode cX2_smallestNonce 13 = .ok (.istore_n 3, 1) := by decide +kernel
theorem dX2_smallestNonce_14 : decode cX2_smallestNonce 14 = .ok (.iconst 0, 1) := by decide +kernel
theorem dX2_smallestNonce_15 : decode cX2_smallestNonce 15 = .ok (.istore 4, 2) := by decide +kernel
theorem dX2_smallestNonce_17 : decode cX2_smallestNonce 17 = .ok (.iload 4, 2) := by decide +kernel
theorem dX2_smallestNonce_19 : decode cX2_smallestNonce 19 = .ok (.ldc 100, 2) := by decide +kernel
theorem dX2_smallestNonce_21 : decode cX2_smallestNonce 21 = .ok (.if_icmp .gt 28, 3) := by decide +kernel
theorem dX2_smallestNonce_24 : decode cX2_smallestNonce 24 = .ok (.iload_n 2, 1) := by decide +kernel
theorem dX2_smallestNonce_25 : decode cX2_smallestNonce 25 = .ok (.invokestatic 101, 3) := by decide +kernel
theorem dX2_smallestNonce_28 : decode cX2_smallestNonce 28 = .ok (.invokestatic 105, 3) := by decide +kernel
theorem dX2_smallestNonce_31 : decode cX2_smallestNonce 31 = .ok (.iload_n 3, 1) := by decide +kernel
theorem dX2_smallestNonce_32 : decode cX2_smallestNonce 32 = .ok (.if_icmp .lt 6, 3) := by decide +kernel
theorem dX2_smallestNonce_35 : decode cX2_smallestNonce 35 = .ok (.iload 4, 2) := by decide +kernel
theorem dX2_smallestNonce_37 : decode cX2_smallestNonce 37 = .ok (.ireturn, 1) := by decide +kernel
theorem dX2_smallestNonce_38 : decode cX2_smallestNonce 38 = .ok (.iload_n 2, 1) := by decide +kernel
theorem dX2_smallestNonce_39 : decode cX2_smallestNonce 39 = .ok (.ldc 110, 2) := by decide +kernel
theorem dX2_smallestNonce_41 : decode cX2_smallestNonce 41 = .ok (.iadd, 1) := by decide +kernel
theorem dX2_smallestNonce_42 : decode cX2_smallestNonce 42 = .ok (.istore_n 2, 1) := by decide +kernel
theorem dX2_smallestNonce_43 : decode cX2_smallestNonce 43 = .ok (.iinc 4 1, 3) := by decide +kernel
theorem dX2_smallestNonce_46 : decode cX2_smallestNonce 46 = .ok (.goto (-29), 3) := by decide +kernel
theorem dX2_smallestNonce_49 : decode cX2_smallestNonce 49 = .ok (.iconst (-1), 1) := by decide +kernel
theorem dX2_smallestNonce_50 : decode cX2_smallestNonce 50 = .ok (.ireturn, 1) := by decide +kernel
set_option maxRecDepth 20000 in
theorem ggX2_adoptPuzzles_X2_epoch : GoodIn wsX2_adoptPuzzles wsX2_epoch := goodIn_r _ [8, 3, 9, 10, 11, 12, 13, 19, 20, 21, 22, 23, 24, 25, 26, 27, 28, 29, 30, 31, 32] (by decide +kernel) (by decide +kernel)
set_option maxRecDepth 20000 in
theorem gX2_adoptPuzzles_X2_epoch : GoodIn wsX2_adoptPuzzles (wsV RX2 84 RX2 yX2_epoch wsX2_epoch) := goodIn_app (goodIn_of _ (by decide +kernel)) ggX2_adoptPuzzles_X2_epoch
set_option maxRecDepth 20000 in
theorem ggX2_adoptPuzzles_X2_startEpochIfOther : GoodIn wsX2_adoptPuzzles wsX2_startEpochIfOther := goodIn_r _ [17, 18, 4, 5, 6, 7, 8, 3, 9, 10, 11, 12, 13, 19, 20, 21, 22, 23, 24, 25, 26, 27, 28, 29, 30, 31, 32] (by decide +kernel) (by decide +kernel)
set_option maxRecDepth 20000 in
theorem gX2_adoptPuzzles_X2_startEpochIfOther : GoodIn wsX2_adoptPuzzles (wsV RX2 111 RX2 yX2_startEpochIfOther wsX2_startEpochIfOther) := goodIn_app (goodIn_of _ (by decide +kernel)) ggX2_adoptPuzzles_X2_startEpochIfOther
theorem dX2_adoptPuzzles_0 : decode cX2_adoptPuzzles 0 = .ok (.aload_n 0, 1) := by decide +kernel
theorem dX2_adoptPuzzles_1 : decode cX2_adoptPuzzles 1 = .ok (.invokevirtual 84, 3) := by decide +kernel
theorem dX2_adoptPuzzles_4 : decode cX2_adoptPuzzles 4 = .ok (.istore 4, 2) := by decide +kernel
theorem dX2_adoptPuzzles_6 : decode cX2_adoptPuzzles 6 = .ok (.aload_n 0, 1) := by decide +kernel
theorem dX2_adoptPuzzles_7 : decode cX2_adoptPuzzles 7 = .ok (.iload_n 1, 1) := by decide +kernel
theorem dX2_adoptPuzzles_8 : decode cX2_adoptPuzzles 8 = .ok (.putfield 9, 3) := by decide +kernel
theorem dX2_adoptPuzzles_11 : decode cX2_adoptPuzzles 11 = .ok (.aload_n 0, 1) := by decide +kernel
theorem dX2_adoptPuzzles_12 : decode cX2_adoptPuzzles 12 = .ok (.iload_n 2, 1) := by decide +kernel
theorem dX2_adoptPuzzles_13 : decode cX2_adoptPuzzles 13 = .ok (.putfield 15, 3) := by decide +kernel
theorem dX2_adoptPuzzles_16 : decode cX2_adoptPuzzles 16 = .ok (.aload_n 0, 1) := by decide +kernel
theorem dX2_adoptPuzzles_17 : decode cX2_adoptPuzzles 17 = .ok (.iload_n 3, 1) := by decide +kernel
theorem dX2_adoptPuzzles_18 : decode cX2_adoptPuzzles 18 = .ok (.putfield 18, 3) := by decide +kernel
theorem dX2_adoptPuzzles_21 : decode cX2_adoptPuzzles 21 = .ok (.aload_n 0, 1) := by decide +kernel
theorem dX2_adoptPuzzles_22 : decode cX2_adoptPuzzles 22 = .ok (.iload 4, 2) := by decide +kernel
theorem dX2_adoptPuzzles_24 : decode cX2_adoptPuzzles 24 = .ok (.invokevirtual 111, 3) := by decide +kernel
theorem dX2_adoptPuzzles_27 : decode cX2_adoptPuzzles 27 = .ok (.return_, 1) := by decide +kernel
set_option maxRecDepth 20000 in
theorem ggX2_passTime_X2_epoch : GoodIn wsX2_passTime wsX2_epoch := goodIn_r _ [9, 10, 1, 11, 12, 13, 14, 31, 32, 33, 34, 35, 36, 37, 38, 39, 40, 41, 42, 43, 44] (by decide +kernel) (by decide +kernel)
set_option maxRecDepth 20000 in
theorem gX2_passTime_X2_epoch : GoodIn wsX2_passTime (wsV RX2 84 RX2 yX2_epoch wsX2_epoch) := goodIn_app (goodIn_of _ (by decide +kernel)) ggX2_passTime_X2_epoch
set_option maxRecDepth 20000 in
theorem ggX2_passTime_X2_startEpochIfOther : GoodIn wsX2_passTime wsX2_startEpochIfOther := goodIn_r _ [18, 19, 5, 6, 7, 8, 9, 10, 1, 11, 12, 13, 14, 31, 32, 33, 34, 35, 36, 37, 38, 39, 40, 41, 42, 43, 44] (by decide +kernel) (by decide +kernel)
set_option maxRecDepth 20000 in
theorem gX2_passTime_X2_startEpochIfOther : GoodIn wsX2_passTime (wsV RX2 111 RX2 yX2_startEpochIfOther wsX2_startEpochIfOther) := goodIn_app (goodIn_of _ (by decide +kernel)) ggX2_passTime_X2_startEpochIfOther
set_option maxRecDepth 20000 in
theorem ggX2_passTime_X2_endIdentity : GoodIn wsX2_passTime wsX2_endIdentity := goodIn_r _ [23, 2, 24, 25, 26, 27, 28, 29, 8, 30, 31, 32, 33, 34, 35, 36, 37, 38, 39, 40, 41, 42, 43, 44] (by decide +kernel) (by decide +kernel)
set_option maxRecDepth 20000 in
theorem gX2_passTime_X2_endIdentity : GoodIn wsX2_passTime (wsV RX2 115 RX2 yX2_endIdentity wsX2_endIdentity) := goodIn_app (goodIn_of _ (by decide +kernel)) ggX2_passTime_X2_endIdentity
theorem dX2_passTime_0 : decode cX2_passTime 0 = .ok (.aload_n 0, 1) := by decide +kernel
theorem dX2_passTime_1 : decode cX2_passTime 1 = .ok (.invokevirtual 84, 3) := by decide +kernel
theorem dX2_passTime_4 : decode cX2_passTime 4 = .ok (.istore_n 2, 1) := by decide +kernel
theorem dX2_passTime_5 : decode cX2_passTime 5 = .ok (.aload_n 0, 1) := by decide +kernel
theorem dX2_passTime_6 : decode cX2_passTime 6 = .ok (.dup, 1) := by decide +kernel
theorem dX2_passTime_7 : decode cX2_passTime 7 = .ok (.getfield 27, 3) := by decide +kernel
theorem dX2_passTime_10 : decode cX2_passTime 10 = .ok (.iload_n 1, 1) := by decide +kernel
theorem dX2_passTime_11 : decode cX2_passTime 11 = .ok (.iadd, 1) := by decide +kernel
theorem dX2_passTime_12 : decode cX2_passTime 12 = .ok (.putfield 27, 3) := by decide +kernel
theorem dX2_passTime_15 : decode cX2_passTime 15 = .ok (.aload_n 0, 1) := by decide +kernel
theorem dX2_passTime_16 : decode cX2_passTime 16 = .ok (.iload_n 2, 1) := by decide +kernel
theorem dX2_passTime_17 : decode cX2_passTime 17 = .ok (.invokevirtual 111, 3) := by decide +kernel
theorem dX2_passTime_20 : decode cX2_passTime 20 = .ok (.iconst 0, 1) := by decide +kernel
theorem dX2_passTime_21 : decode cX2_passTime 21 = .ok (.istore_n 3, 1) := by decide +kernel
theorem dX2_passTime_22 : decode cX2_passTime 22 = .ok (.iconst 0, 1) := by decide +kernel
theorem dX2_passTime_23 : decode cX2_passTime 23 = .ok (.istore 4, 2) := by decide +kernel
theorem dX2_passTime_25 : decode cX2_passTime 25 = .ok (.iload 4, 2) := by decide +kernel
theorem dX2_passTime_27 : decode cX2_passTime 27 = .ok (.bipush 24, 2) := by decide +kernel
theorem dX2_passTime_29 : decode cX2_passTime 29 = .ok (.if_icmp .ge 53, 3) := by decide +kernel
theorem dX2_passTime_32 : decode cX2_passTime 32 = .ok (.aload_n 0, 1) := by decide +kernel
theorem dX2_passTime_33 : decode cX2_passTime 33 = .ok (.getfield 43, 3) := by decide +kernel
theorem dX2_passTime_36 : decode cX2_passTime 36 = .ok (.iload 4, 2) := by decide +kernel
theorem dX2_passTime_38 : decode cX2_passTime 38 = .ok (.iaload, 1) := by decide +kernel
theorem dX2_passTime_39 : decode cX2_passTime 39 = .ok (.iconst (-1), 1) := by decide +kernel
theorem dX2_passTime_40 : decode cX2_passTime 40 = .ok (.if_icmp .eq 36, 3) := by decide +kernel
theorem dX2_passTime_43 : decode cX2_passTime 43 = .ok (.aload_n 0, 1) := by decide +kernel
theorem dX2_passTime_44 : decode cX2_passTime 44 = .ok (.getfield 49, 3) := by decide +kernel
theorem dX2_passTime_47 : decode cX2_passTime 47 = .ok (.iload 4, 2) := by decide +kernel
theorem dX2_passTime_49 : decode cX2_passTime 49 = .ok (.iaload, 1) := by decide +kernel
theorem dX2_passTime_50 : decode cX2_passTime 50 = .ok (.aload_n 0, 1) := by decide +kernel
theorem dX2_passTime_51 : decode cX2_passTime 51 = .ok (.getfield 15, 3) := by decide +kernel
theorem dX2_passTime_54 : decode cX2_passTime 54 = .ok (.iadd, 1) := by decide +kernel
theorem dX2_passTime_55 : decode cX2_passTime 55 = .ok (.aload_n 0, 1) := by decide +kernel
theorem dX2_passTime_56 : decode cX2_passTime 56 = .ok (.getfield 27, 3) := by decide +kernel
theorem dX2_passTime_59 : decode cX2_passTime 59 = .ok (.if_icmp .gt 17, 3) := by decide +kernel
theorem dX2_passTime_62 : decode cX2_passTime 62 = .ok (.aload_n 0, 1) := by decide +kernel
theorem dX2_passTime_63 : decode cX2_passTime 63 = .ok (.aload_n 0, 1) := by decide +kernel
theorem dX2_passTime_64 : decode cX2_passTime 64 = .ok (.getfield 43, 3) := by decide +kernel
theorem dX2_passTime_67 : decode cX2_passTime 67 = .ok (.iload 4, 2) := by decide +kernel
theorem dX2_passTime_69 : decode cX2_passTime 69 = .ok (.iaload, 1) := by decide +kernel
theorem dX2_passTime_70 : decode cX2_passTime 70 = .ok (.invokevirtual 115, 3) := by decide +kernel
theorem dX2_passTime_73 : decode cX2_passTime 73 = .ok (.iinc 3 1, 3) := by decide +kernel
theorem dX2_passTime_76 : decode cX2_passTime 76 = .ok (.iinc 4 1, 3) := by decide +kernel
theorem dX2_passTime_79 : decode cX2_passTime 79 = .ok (.goto (-54), 3) := by decide +kernel
theorem dX2_passTime_82 : decode cX2_passTime 82 = .ok (.iload_n 3, 1) := by decide +kernel
theorem dX2_passTime_83 : decode cX2_passTime 83 = .ok (.ireturn, 1) := by decide +kernel
set_option maxRecDepth 20000 in
theorem ggX2_startEpochIfOther_X2_epoch : GoodIn wsX2_startEpochIfOther wsX2_epoch := goodIn_r _ [6, 7, 8, 9, 10, 11, 12, 13, 14, 15, 16, 17, 18, 19, 20, 21, 22, 23, 24, 25, 26] (by decide +kernel) (by decide +kernel)
set_option maxRecDepth 20000 in
theorem gX2_startEpochIfOther_X2_epoch : GoodIn wsX2_startEpochIfOther (wsV RX2 84 RX2 yX2_epoch wsX2_epoch) := goodIn_app (goodIn_of _ (by decide +kernel)) ggX2_startEpochIfOther_X2_epoch
theorem dX2_startEpochIfOther_0 : decode cX2_startEpochIfOther 0 = .ok (.aload_n 0, 1) := by decide +kernel
theorem dX2_startEpochIfOther_1 : decode cX2_startEpochIfOther 1 = .ok (.invokevirtual 84, 3) := by decide +kernel
theorem dX2_startEpochIfOther_4 : decode cX2_startEpochIfOther 4 = .ok (.iload_n 1, 1) := by decide +kernel
theorem dX2_startEpochIfOther_5 : decode cX2_startEpochIfOther 5 = .ok (.if_icmp .eq 8, 3) := by decide +kernel
theorem dX2_startEpochIfOther_8 : decode cX2_startEpochIfOther 8 = .ok (.aload_n 0, 1) := by decide +kernel
theorem dX2_startEpochIfOther_9 : decode cX2_startEpochIfOther 9 = .ok (.iconst 0, 1) := by decide +kernel
theorem dX2_startEpochIfOther_10 : decode cX2_startEpochIfOther 10 = .ok (.putfield 30, 3) := by decide +kernel
theorem dX2_startEpochIfOther_13 : decode cX2_startEpochIfOther 13 = .ok (.return_, 1) := by decide +kernel
set_option maxRecDepth 20000 in
theorem ggX2_endIdentity_X2_isMember : GoodIn wsX2_endIdentity wsX2_isMember := goodIn_r _ [9, 2, 10, 11, 12, 13, 14, 15, 16, 17, 18, 19, 20, 21, 22, 23] (by decide +kernel) (by decide +kernel)
set_option maxRecDepth 20000 in
theorem gX2_endIdentity_X2_isMember : GoodIn wsX2_endIdentity (wsV RX2 118 RX2 yX2_isMember wsX2_isMember) := goodIn_app (goodIn_of _ (by decide +kernel)) ggX2_endIdentity_X2_isMember
theorem dX2_endIdentity_0 : decode cX2_endIdentity 0 = .ok (.aload_n 0, 1) := by decide +kernel
theorem dX2_endIdentity_1 : decode cX2_endIdentity 1 = .ok (.iload_n 1, 1) := by decide +kernel
theorem dX2_endIdentity_2 : decode cX2_endIdentity 2 = .ok (.invokevirtual 118, 3) := by decide +kernel
theorem dX2_endIdentity_5 : decode cX2_endIdentity 5 = .ok (.ifCond .eq 42, 3) := by decide +kernel
theorem dX2_endIdentity_8 : decode cX2_endIdentity 8 = .ok (.aload_n 0, 1) := by decide +kernel
theorem dX2_endIdentity_9 : decode cX2_endIdentity 9 = .ok (.getfield 43, 3) := by decide +kernel
theorem dX2_endIdentity_12 : decode cX2_endIdentity 12 = .ok (.aload_n 0, 1) := by decide +kernel
theorem dX2_endIdentity_13 : decode cX2_endIdentity 13 = .ok (.getfield 40, 3) := by decide +kernel
theorem dX2_endIdentity_16 : decode cX2_endIdentity 16 = .ok (.iload_n 1, 1) := by decide +kernel
theorem dX2_endIdentity_17 : decode cX2_endIdentity 17 = .ok (.iaload, 1) := by decide +kernel
theorem dX2_endIdentity_18 : decode cX2_endIdentity 18 = .ok (.iconst (-1), 1) := by decide +kernel
theorem dX2_endIdentity_19 : decode cX2_endIdentity 19 = .ok (.iastore, 1) := by decide +kernel
theorem dX2_endIdentity_20 : decode cX2_endIdentity 20 = .ok (.aload_n 0, 1) := by decide +kernel
theorem dX2_endIdentity_21 : decode cX2_endIdentity 21 = .ok (.getfield 40, 3) := by decide +kernel
theorem dX2_endIdentity_24 : decode cX2_endIdentity 24 = .ok (.iload_n 1, 1) := by decide +kernel
theorem dX2_endIdentity_25 : decode cX2_endIdentity 25 = .ok (.iconst (-1), 1) := by decide +kernel
theorem dX2_endIdentity_26 : decode cX2_endIdentity 26 = .ok (.iastore, 1) := by decide +kernel
theorem dX2_endIdentity_27 : decode cX2_endIdentity 27 = .ok (.aload_n 0, 1) := by decide +kernel
theorem dX2_endIdentity_28 : decode cX2_endIdentity 28 = .ok (.dup, 1) := by decide +kernel
theorem dX2_endIdentity_29 : decode cX2_endIdentity 29 = .ok (.getfield 33, 3) := by decide +kernel
theorem dX2_endIdentity_32 : decode cX2_endIdentity 32 = .ok (.iconst 1, 1) := by decide +kernel
theorem dX2_endIdentity_33 : decode cX2_endIdentity 33 = .ok (.isub, 1) := by decide +kernel
theorem dX2_endIdentity_34 : decode cX2_endIdentity 34 = .ok (.putfield 33, 3) := by decide +kernel
theorem dX2_endIdentity_37 : decode cX2_endIdentity 37 = .ok (.aload_n 0, 1) := by decide +kernel
theorem dX2_endIdentity_38 : decode cX2_endIdentity 38 = .ok (.getfield 36, 3) := by decide +kernel
theorem dX2_endIdentity_41 : decode cX2_endIdentity 41 = .ok (.iconst 1, 1) := by decide +kernel
theorem dX2_endIdentity_42 : decode cX2_endIdentity 42 = .ok (.dup2, 1) := by decide +kernel
theorem dX2_endIdentity_43 : decode cX2_endIdentity 43 = .ok (.iaload, 1) := by decide +kernel
theorem dX2_endIdentity_44 : decode cX2_endIdentity 44 = .ok (.iconst 1, 1) := by decide +kernel
theorem dX2_endIdentity_45 : decode cX2_endIdentity 45 = .ok (.iadd, 1) := by decide +kernel
theorem dX2_endIdentity_46 : decode cX2_endIdentity 46 = .ok (.iastore, 1) := by decide +kernel
theorem dX2_endIdentity_47 : decode cX2_endIdentity 47 = .ok (.return_, 1) := by decide +kernel
set_option maxRecDepth 20000 in
theorem ggX2_enter_X2_freeRow : GoodIn wsX2_enter wsX2_freeRow := goodIn_r _ [14, 2, 131, 132, 133, 134, 135, 136, 137, 138, 139, 140, 141, 142, 143, 144] (by decide +kernel) (by decide +kernel)
set_option maxRecDepth 20000 in
theorem gX2_enter_X2_freeRow : GoodIn wsX2_enter (wsV RX2 122 RX2 yX2_freeRow wsX2_freeRow) := goodIn_app (goodIn_of _ (by decide +kernel)) ggX2_enter_X2_freeRow
set_option maxRecDepth 20000 in
theorem ggX2_enter_X3_clear : GoodIn wsX2_enter wsX3_clear := goodIn_r _ [19, 20, 21, 22, 18, 23, 145, 146, 147] (by decide +kernel) (by decide +kernel)
set_option maxRecDepth 20000 in
theorem gX2_enter_X3_clear : GoodIn wsX2_enter (wsV RX2 125 RX3 yX3_clear wsX3_clear) := goodIn_app (goodIn_of _ (by decide +kernel)) ggX2_enter_X3_clear
set_option maxRecDepth 20000 in
theorem ggX2_enter_X2_learn : GoodIn wsX2_enter wsX2_learn := goodIn_r _ [27, 1, 3, 6, 9, 28, 29, 30, 31, 32, 13, 33, 34, 35, 18, 36, 37, 38, 39, 40, 41, 42, 22, 23, 43, 44, 45, 46, 20, 47, 48, 49, 50, 51, 52, 53, 54, 55, 56, 57, 58, 59, 60, 61, 62, 63, 64, 65, 66, 67, 68, 131, 132, 133, 134, 135, 136, 137, 138, 139, 140, 141, 142, 143, 144, 145, 146, 147] (by decide +kernel) (by decide +kernel)
set_option maxRecDepth 20000 in
theorem gX2_enter_X2_learn : GoodIn wsX2_enter (wsV RX2 128 RX2 yX2_learn wsX2_learn) := goodIn_app (goodIn_of _ (by decide +kernel)) ggX2_enter_X2_learn
set_option maxRecDepth 20000 in
theorem ggX2_enter_X2_makeLookup : GoodIn wsX2_enter wsX2_makeLookup := goodIn_r _ [72, 9, 73, 74, 75, 76, 77, 78, 79, 80, 81, 82, 83, 84, 85, 86, 87, 88, 89, 90, 91, 92, 93, 94, 95, 96, 97, 98, 99, 100, 101, 102, 103, 104, 105, 31, 32, 13, 33, 1, 106, 22, 18, 23, 107, 108, 109, 110, 111, 112, 113, 114, 115, 116, 117, 118, 119, 120, 121, 122, 2, 30, 24, 25, 26, 27, 3, 6, 28, 29, 34, 35, 36, 37, 38, 39, 40, 41, 42, 43, 44, 45, 46, 20, 47, 48, 49, 50, 51, 52, 53, 54, 55, 56, 57, 58, 59, 60, 61, 62, 63, 64, 65, 66, 67, 68, 123, 124, 125, 126, 131, 132, 133, 134, 135, 136, 137, 138, 139, 140, 141, 142, 143, 144, 148, 149, 150, 151, 152, 153, 154, 155, 156, 157, 145, 146, 147] (by decide +kernel) (by decide +kernel)
set_option maxRecDepth 20000 in
theorem gX2_enter_X2_makeLookup : GoodIn wsX2_enter (wsV RX2 132 RX2 yX2_makeLookup wsX2_makeLookup) := goodIn_app (goodIn_of _ (by decide +kernel)) ggX2_enter_X2_makeLookup
set_option maxRecDepth 20000 in
theorem ggX2_enter_X3_entriesOf : GoodIn wsX2_enter wsX3_entriesOf := goodIn_r _ [130, 20, 21, 22, 18, 23, 145, 146, 147] (by decide +kernel) (by decide +kernel)
set_option maxRecDepth 20000 in
theorem gX2_enter_X3_entriesOf : GoodIn wsX2_enter (wsV RX2 136 RX3 yX3_entriesOf wsX3_entriesOf) := goodIn_app (goodIn_of _ (by decide +kernel)) ggX2_enter_X3_entriesOf
theorem dX2_enter_0 : decode cX2_enter 0 = .ok (.aload_n 0, 1) := by decide +kernel
theorem dX2_enter_1 : decode cX2_enter 1 = .ok (.invokevirtual 122, 3) := by decide +kernel
theorem dX2_enter_4 : decode cX2_enter 4 = .ok (.istore 5, 2) := by decide +kernel
theorem dX2_enter_6 : decode cX2_enter 6 = .ok (.iload 5, 2) := by decide +kernel
theorem dX2_enter_8 : decode cX2_enter 8 = .ok (.iconst (-1), 1) := by decide +kernel
theorem dX2_enter_9 : decode cX2_enter 9 = .ok (.if_icmp .ne 5, 3) := by decide +kernel
theorem dX2_enter_12 : decode cX2_enter 12 = .ok (.iconst 0, 1) := by decide +kernel
theorem dX2_enter_13 : decode cX2_enter 13 = .ok (.ireturn, 1) := by decide +kernel
theorem dX2_enter_14 : decode cX2_enter 14 = .ok (.aload_n 0, 1) := by decide +kernel
theorem dX2_enter_15 : decode cX2_enter 15 = .ok (.getfield 40, 3) := by decide +kernel
theorem dX2_enter_18 : decode cX2_enter 18 = .ok (.iload_n 2, 1) := by decide +kernel
theorem dX2_enter_19 : decode cX2_enter 19 = .ok (.iload 5, 2) := by decide +kernel
theorem dX2_enter_21 : decode cX2_enter 21 = .ok (.iastore, 1) := by decide +kernel
theorem dX2_enter_22 : decode cX2_enter 22 = .ok (.aload_n 0, 1) := by decide +kernel
theorem dX2_enter_23 : decode cX2_enter 23 = .ok (.getfield 43, 3) := by decide +kernel
theorem dX2_enter_26 : decode cX2_enter 26 = .ok (.iload 5, 2) := by decide +kernel
theorem dX2_enter_28 : decode cX2_enter 28 = .ok (.iload_n 2, 1) := by decide +kernel
theorem dX2_enter_29 : decode cX2_enter 29 = .ok (.iastore, 1) := by decide +kernel
theorem dX2_enter_30 : decode cX2_enter 30 = .ok (.aload_n 0, 1) := by decide +kernel
theorem dX2_enter_31 : decode cX2_enter 31 = .ok (.getfield 46, 3) := by decide +kernel
theorem dX2_enter_34 : decode cX2_enter 34 = .ok (.iload 5, 2) := by decide +kernel
theorem dX2_enter_36 : decode cX2_enter 36 = .ok (.iload_n 3, 1) := by decide +kernel
theorem dX2_enter_37 : decode cX2_enter 37 = .ok (.iastore, 1) := by decide +kernel
theorem dX2_enter_38 : decode cX2_enter 38 = .ok (.aload_n 0, 1) := by decide +kernel
theorem dX2_enter_39 : decode cX2_enter 39 = .ok (.getfield 49, 3) := by decide +kernel
theorem dX2_enter_42 : decode cX2_enter 42 = .ok (.iload 5, 2) := by decide +kernel
theorem dX2_enter_44 : decode cX2_enter 44 = .ok (.aload_n 0, 1) := by decide +kernel
theorem dX2_enter_45 : decode cX2_enter 45 = .ok (.getfield 27, 3) := by decide +kernel
theorem dX2_enter_48 : decode cX2_enter 48 = .ok (.iastore, 1) := by decide +kernel
theorem dX2_enter_49 : decode cX2_enter 49 = .ok (.aload_n 0, 1) := by decide +kernel
theorem dX2_enter_50 : decode cX2_enter 50 = .ok (.getfield 55, 3) := by decide +kernel
theorem dX2_enter_53 : decode cX2_enter 53 = .ok (.iload 5, 2) := by decide +kernel
theorem dX2_enter_55 : decode cX2_enter 55 = .ok (.invokevirtual 125, 3) := by decide +kernel
theorem dX2_enter_58 : decode cX2_enter 58 = .ok (.aload_n 0, 1) := by decide +kernel
theorem dX2_enter_59 : decode cX2_enter 59 = .ok (.dup, 1) := by decide +kernel
theorem dX2_enter_60 : decode cX2_enter 60 = .ok (.getfield 33, 3) := by decide +kernel
theorem dX2_enter_63 : decode cX2_enter 63 = .ok (.iconst 1, 1) := by decide +kernel
theorem dX2_enter_64 : decode cX2_enter 64 = .ok (.iadd, 1) := by decide +kernel
theorem dX2_enter_65 : decode cX2_enter 65 = .ok (.putfield 33, 3) := by decide +kernel
theorem dX2_enter_68 : decode cX2_enter 68 = .ok (.aload_n 0, 1) := by decide +kernel
theorem dX2_enter_69 : decode cX2_enter 69 = .ok (.dup, 1) := by decide +kernel
theorem dX2_enter_70 : decode cX2_enter 70 = .ok (.getfield 30, 3) := by decide +kernel
theorem dX2_enter_73 : decode cX2_enter 73 = .ok (.iconst 1, 1) := by decide +kernel
theorem dX2_enter_74 : decode cX2_enter 74 = .ok (.iadd, 1) := by decide +kernel
theorem dX2_enter_75 : decode cX2_enter 75 = .ok (.putfield 30, 3) := by decide +kernel
theorem dX2_enter_78 : decode cX2_enter 78 = .ok (.aload_n 0, 1) := by decide +kernel
theorem dX2_enter_79 : decode cX2_enter 79 = .ok (.getfield 36, 3) := by decide +kernel
theorem dX2_enter_82 : decode cX2_enter 82 = .ok (.iconst 0, 1) := by decide +kernel
theorem dX2_enter_83 : decode cX2_enter 83 = .ok (.dup2, 1) := by decide +kernel
theorem dX2_enter_84 : decode cX2_enter 84 = .ok (.iaload, 1) := by decide +kernel
theorem dX2_enter_85 : decode cX2_enter 85 = .ok (.iconst 1, 1) := by decide +kernel
theorem dX2_enter_86 : decode cX2_enter 86 = .ok (.iadd, 1) := by decide +kernel
theorem dX2_enter_87 : decode cX2_enter 87 = .ok (.iastore, 1) := by decide +kernel
theorem dX2_enter_88 : decode cX2_enter 88 = .ok (.iload 4, 2) := by decide +kernel
theorem dX2_enter_90 : decode cX2_enter 90 = .ok (.iconst (-1), 1) := by decide +kernel
theorem dX2_enter_91 : decode cX2_enter 91 = .ok (.if_icmp .eq 25, 3) := by decide +kernel
theorem dX2_enter_94 : decode cX2_enter 94 = .ok (.aload_n 0, 1) := by decide +kernel
theorem dX2_enter_95 : decode cX2_enter 95 = .ok (.iload 4, 2) := by decide +kernel
theorem dX2_enter_97 : decode cX2_enter 97 = .ok (.iload_n 2, 1) := by decide +kernel
theorem dX2_enter_98 : decode cX2_enter 98 = .ok (.invokevirtual 128, 3) := by decide +kernel
theorem dX2_enter_101 : decode cX2_enter 101 = .ok (.aload_n 0, 1) := by decide +kernel
theorem dX2_enter_102 : decode cX2_enter 102 = .ok (.iload_n 2, 1) := by decide +kernel
theorem dX2_enter_103 : decode cX2_enter 103 = .ok (.iload 4, 2) := by decide +kernel
theorem dX2_enter_105 : decode cX2_enter 105 = .ok (.invokevirtual 128, 3) := by decide +kernel
theorem dX2_enter_108 : decode cX2_enter 108 = .ok (.aload_n 0, 1) := by decide +kernel
theorem dX2_enter_109 : decode cX2_enter 109 = .ok (.aload_n 1, 1) := by decide +kernel
theorem dX2_enter_110 : decode cX2_enter 110 = .ok (.iload_n 2, 1) := by decide +kernel
theorem dX2_enter_111 : decode cX2_enter 111 = .ok (.iload_n 2, 1) := by decide +kernel
theorem dX2_enter_112 : decode cX2_enter 112 = .ok (.invokevirtual 132, 3) := by decide +kernel
theorem dX2_enter_115 : decode cX2_enter 115 = .ok (.pop, 1) := by decide +kernel
theorem dX2_enter_116 : decode cX2_enter 116 = .ok (.aload_n 0, 1) := by decide +kernel
theorem dX2_enter_117 : decode cX2_enter 117 = .ok (.getfield 55, 3) := by decide +kernel
theorem dX2_enter_120 : decode cX2_enter 120 = .ok (.iload 5, 2) := by decide +kernel
theorem dX2_enter_122 : decode cX2_enter 122 = .ok (.invokevirtual 136, 3) := by decide +kernel
theorem dX2_enter_125 : decode cX2_enter 125 = .ok (.ireturn, 1) := by decide +kernel
theorem dX2_freeRow_0 : decode cX2_freeRow 0 = .ok (.iconst 0, 1) := by decide +kernel
theorem dX2_freeRow_1 : decode cX2_freeRow 1 = .ok (.istore_n 1, 1) := by decide +kernel
theorem dX2_freeRow_2 : decode cX2_freeRow 2 = .ok (.iload_n 1, 1) := by decide +kernel
theorem dX2_freeRow_3 : decode cX2_freeRow 3 = .ok (.bipush 24, 2) := by decide +kernel
theorem dX2_freeRow_5 : decode cX2_freeRow 5 = .ok (.if_icmp .ge 21, 3) := by decide +kernel
theorem dX2_freeRow_8 : decode cX2_freeRow 8 = .ok (.aload_n 0, 1) := by decide +kernel
theorem dX2_freeRow_9 : decode cX2_freeRow 9 = .ok (.getfield 43, 3) := by decide +kernel
theorem dX2_freeRow_12 : decode cX2_freeRow 12 = .ok (.iload_n 1, 1) := by decide +kernel
theorem dX2_freeRow_13 : decode cX2_freeRow 13 = .ok (.iaload, 1) := by decide +kernel
theorem dX2_freeRow_14 : decode cX2_freeRow 14 = .ok (.iconst (-1), 1) := by decide +kernel
theorem dX2_freeRow_15 : decode cX2_freeRow 15 = .ok (.if_icmp .ne 5, 3) := by decide +kernel
theorem dX2_freeRow_18 : decode cX2_freeRow 18 = .ok (.iload_n 1, 1) := by decide +kernel
theorem dX2_freeRow_19 : decode cX2_freeRow 19 = .ok (.ireturn, 1) := by decide +kernel
theorem dX2_freeRow_20 : decode cX2_freeRow 20 = .ok (.iinc 1 1, 3) := by decide +kernel
theorem dX2_freeRow_23 : decode cX2_freeRow 23 = .ok (.goto (-21), 3) := by decide +kernel
theorem dX2_freeRow_26 : decode cX2_freeRow 26 = .ok (.iconst (-1), 1) := by decide +kernel
theorem dX2_freeRow_27 : decode cX2_freeRow 27 = .ok (.ireturn, 1) := by decide +kernel
set_option maxRecDepth 20000 in
theorem ggX2_makeLookup_X4_trace : GoodIn wsX2_makeLookup wsX4_trace := goodIn_r _ [11, 12, 13, 14, 15, 16, 17, 18, 19, 20, 21, 22, 23, 24, 25, 26, 10, 27, 28, 29, 30, 31, 32, 33, 34, 35, 36, 37, 38, 39, 40, 41, 42, 43, 44, 45, 46, 47, 48, 49, 50, 51, 52, 53, 54, 55, 56, 57, 58, 59, 60, 124, 125, 126, 127, 128, 129, 130, 131, 132, 133, 110, 111, 112, 113, 114, 115, 116, 117, 118, 119, 120, 121, 122, 123, 134, 135, 136] (by decide +kernel) (by decide +kernel)
set_option maxRecDepth 20000 in
theorem gX2_makeLookup_X4_trace : GoodIn wsX2_makeLookup (wsV RX2 139 RX4 yX4_trace wsX4_trace) := goodIn_app (goodIn_of _ (by decide +kernel)) ggX2_makeLookup_X4_trace
set_option maxRecDepth 20000 in
theorem ggX2_makeLookup_X2_isMember : GoodIn wsX2_makeLookup wsX2_isMember := goodIn_r _ [38, 39, 110, 111, 112, 113, 114, 115, 116, 117, 118, 119, 120, 121, 122, 123] (by decide +kernel) (by decide +kernel)
set_option maxRecDepth 20000 in
theorem gX2_makeLookup_X2_isMember : GoodIn wsX2_makeLookup (wsV RX2 118 RX2 yX2_isMember wsX2_isMember) := goodIn_app (goodIn_of _ (by decide +kernel)) ggX2_makeLookup_X2_isMember
set_option maxRecDepth 20000 in
theorem ggX2_makeLookup_X2_learn : GoodIn wsX2_makeLookup wsX2_learn := goodIn_r _ [65, 39, 66, 67, 1, 68, 69, 61, 35, 36, 37, 38, 70, 71, 42, 72, 73, 74, 75, 76, 77, 78, 41, 43, 79, 80, 81, 82, 83, 84, 85, 86, 87, 88, 89, 90, 91, 92, 93, 94, 95, 96, 97, 98, 99, 100, 101, 102, 103, 104, 105, 110, 111, 112, 113, 114, 115, 116, 117, 118, 119, 120, 121, 122, 123, 134, 135, 136] (by decide +kernel) (by decide +kernel)
set_option maxRecDepth 20000 in
theorem gX2_makeLookup_X2_learn : GoodIn wsX2_makeLookup (wsV RX2 128 RX2 yX2_learn wsX2_learn) := goodIn_app (goodIn_of _ (by decide +kernel)) ggX2_makeLookup_X2_learn
set_option maxRecDepth 20000 in
theorem ggX2_makeLookup_X2_forget : GoodIn wsX2_makeLookup wsX2_forget := goodIn_r _ [109, 39, 67, 61, 35, 36, 37, 38, 70, 71, 42, 72, 73, 74, 75, 76, 77, 78, 41, 43, 79, 80, 81, 82, 83, 84, 85, 86, 87, 88, 89, 110, 111, 112, 113, 114, 115, 116, 117, 118, 119, 120, 121, 122, 123, 134, 135, 136] (by decide +kernel) (by decide +kernel)
set_option maxRecDepth 20000 in
theorem gX2_makeLookup_X2_forget : GoodIn wsX2_makeLookup (wsV RX2 158 RX2 yX2_forget wsX2_forget) := goodIn_app (goodIn_of _ (by decide +kernel)) ggX2_makeLookup_X2_forget
theorem dX2_makeLookup_0 : decode cX2_makeLookup 0 = .ok (.aload_n 1, 1) := by decide +kernel
theorem dX2_makeLookup_1 : decode cX2_makeLookup 1 = .ok (.aload_n 0, 1) := by decide +kernel
theorem dX2_makeLookup_2 : decode cX2_makeLookup 2 = .ok (.iload_n 2, 1) := by decide +kernel
theorem dX2_makeLookup_3 : decode cX2_makeLookup 3 = .ok (.iload_n 3, 1) := by decide +kernel
theorem dX2_makeLookup_4 : decode cX2_makeLookup 4 = .ok (.invokevirtual 139, 3) := by decide +kernel
theorem dX2_makeLookup_7 : decode cX2_makeLookup 7 = .ok (.aload_n 0, 1) := by decide +kernel
theorem dX2_makeLookup_8 : decode cX2_makeLookup 8 = .ok (.getfield 36, 3) := by decide +kernel
theorem dX2_makeLookup_11 : decode cX2_makeLookup 11 = .ok (.iconst 2, 1) := by decide +kernel
theorem dX2_makeLookup_12 : decode cX2_makeLookup 12 = .ok (.dup2, 1) := by decide +kernel
theorem dX2_makeLookup_13 : decode cX2_makeLookup 13 = .ok (.iaload, 1) := by decide +kernel
theorem dX2_makeLookup_14 : decode cX2_makeLookup 14 = .ok (.iconst 1, 1) := by decide +kernel
theorem dX2_makeLookup_15 : decode cX2_makeLookup 15 = .ok (.iadd, 1) := by decide +kernel
theorem dX2_makeLookup_16 : decode cX2_makeLookup 16 = .ok (.iastore, 1) := by decide +kernel
theorem dX2_makeLookup_17 : decode cX2_makeLookup 17 = .ok (.aload_n 0, 1) := by decide +kernel
theorem dX2_makeLookup_18 : decode cX2_makeLookup 18 = .ok (.getfield 36, 3) := by decide +kernel
theorem dX2_makeLookup_21 : decode cX2_makeLookup 21 = .ok (.iconst 3, 1) := by decide +kernel
theorem dX2_makeLookup_22 : decode cX2_makeLookup 22 = .ok (.dup2, 1) := by decide +kernel
theorem dX2_makeLookup_23 : decode cX2_makeLookup 23 = .ok (.iaload, 1) := by decide +kernel
theorem dX2_makeLookup_24 : decode cX2_makeLookup 24 = .ok (.aload_n 1, 1) := by decide +kernel
theorem dX2_makeLookup_25 : decode cX2_makeLookup 25 = .ok (.getfield 145, 3) := by decide +kernel
theorem dX2_makeLookup_28 : decode cX2_makeLookup 28 = .ok (.iadd, 1) := by decide +kernel
theorem dX2_makeLookup_29 : decode cX2_makeLookup 29 = .ok (.iastore, 1) := by decide +kernel
theorem dX2_makeLookup_30 : decode cX2_makeLookup 30 = .ok (.aload_n 0, 1) := by decide +kernel
theorem dX2_makeLookup_31 : decode cX2_makeLookup 31 = .ok (.getfield 36, 3) := by decide +kernel
theorem dX2_makeLookup_34 : decode cX2_makeLookup 34 = .ok (.iconst 4, 1) := by decide +kernel
theorem dX2_makeLookup_35 : decode cX2_makeLookup 35 = .ok (.dup2, 1) := by decide +kernel
theorem dX2_makeLookup_36 : decode cX2_makeLookup 36 = .ok (.iaload, 1) := by decide +kernel
theorem dX2_makeLookup_37 : decode cX2_makeLookup 37 = .ok (.aload_n 1, 1) := by decide +kernel
theorem dX2_makeLookup_38 : decode cX2_makeLookup 38 = .ok (.getfield 148, 3) := by decide +kernel
theorem dX2_makeLookup_41 : decode cX2_makeLookup 41 = .ok (.iadd, 1) := by decide +kernel
theorem dX2_makeLookup_42 : decode cX2_makeLookup 42 = .ok (.iastore, 1) := by decide +kernel
theorem dX2_makeLookup_43 : decode cX2_makeLookup 43 = .ok (.aload_n 1, 1) := by decide +kernel
theorem dX2_makeLookup_44 : decode cX2_makeLookup 44 = .ok (.getfield 151, 3) := by decide +kernel
theorem dX2_makeLookup_47 : decode cX2_makeLookup 47 = .ok (.ifCond .eq 14, 3) := by decide +kernel
theorem dX2_makeLookup_50 : decode cX2_makeLookup 50 = .ok (.aload_n 0, 1) := by decide +kernel
theorem dX2_makeLookup_51 : decode cX2_makeLookup 51 = .ok (.getfield 36, 3) := by decide +kernel
theorem dX2_makeLookup_54 : decode cX2_makeLookup 54 = .ok (.bipush 8, 2) := by decide +kernel
theorem dX2_makeLookup_56 : decode cX2_makeLookup 56 = .ok (.dup2, 1) := by decide +kernel
theorem dX2_makeLookup_57 : decode cX2_makeLookup 57 = .ok (.iaload, 1) := by decide +kernel
theorem dX2_makeLookup_58 : decode cX2_makeLookup 58 = .ok (.iconst 1, 1) := by decide +kernel
theorem dX2_makeLookup_59 : decode cX2_makeLookup 59 = .ok (.iadd, 1) := by decide +kernel
theorem dX2_makeLookup_60 : decode cX2_makeLookup 60 = .ok (.iastore, 1) := by decide +kernel
theorem dX2_makeLookup_61 : decode cX2_makeLookup 61 = .ok (.iconst 0, 1) := by decide +kernel
theorem dX2_makeLookup_62 : decode cX2_makeLookup 62 = .ok (.istore 4, 2) := by decide +kernel
theorem dX2_makeLookup_64 : decode cX2_makeLookup 64 = .ok (.iload 4, 2) := by decide +kernel
theorem dX2_makeLookup_66 : decode cX2_makeLookup 66 = .ok (.aload_n 1, 1) := by decide +kernel
theorem dX2_makeLookup_67 : decode cX2_makeLookup 67 = .ok (.getfield 145, 3) := by decide +kernel
theorem dX2_makeLookup_70 : decode cX2_makeLookup 70 = .ok (.if_icmp .ge 51, 3) := by decide +kernel
theorem dX2_makeLookup_73 : decode cX2_makeLookup 73 = .ok (.aload_n 1, 1) := by decide +kernel
theorem dX2_makeLookup_74 : decode cX2_makeLookup 74 = .ok (.getfield 155, 3) := by decide +kernel
theorem dX2_makeLookup_77 : decode cX2_makeLookup 77 = .ok (.iload 4, 2) := by decide +kernel
theorem dX2_makeLookup_79 : decode cX2_makeLookup 79 = .ok (.iaload, 1) := by decide +kernel
theorem dX2_makeLookup_80 : decode cX2_makeLookup 80 = .ok (.istore 5, 2) := by decide +kernel
theorem dX2_makeLookup_82 : decode cX2_makeLookup 82 = .ok (.aload_n 0, 1) := by decide +kernel
theorem dX2_makeLookup_83 : decode cX2_makeLookup 83 = .ok (.iload 5, 2) := by decide +kernel
theorem dX2_makeLookup_85 : decode cX2_makeLookup 85 = .ok (.invokevirtual 118, 3) := by decide +kernel
theorem dX2_makeLookup_88 : decode cX2_makeLookup 88 = .ok (.ifCond .eq 20, 3) := by decide +kernel
theorem dX2_makeLookup_91 : decode cX2_makeLookup 91 = .ok (.aload_n 0, 1) := by decide +kernel
theorem dX2_makeLookup_92 : decode cX2_makeLookup 92 = .ok (.iload 5, 2) := by decide +kernel
theorem dX2_makeLookup_94 : decode cX2_makeLookup 94 = .ok (.iload_n 2, 1) := by decide +kernel
theorem dX2_makeLookup_95 : decode cX2_makeLookup 95 = .ok (.invokevirtual 128, 3) := by decide +kernel
theorem dX2_makeLookup_98 : decode cX2_makeLookup 98 = .ok (.aload_n 0, 1) := by decide +kernel
theorem dX2_makeLookup_99 : decode cX2_makeLookup 99 = .ok (.iload_n 2, 1) := by decide +kernel
theorem dX2_makeLookup_100 : decode cX2_makeLookup 100 = .ok (.iload 5, 2) := by decide +kernel
theorem dX2_makeLookup_102 : decode cX2_makeLookup 102 = .ok (.invokevirtual 128, 3) := by decide +kernel
theorem dX2_makeLookup_105 : decode cX2_makeLookup 105 = .ok (.goto 10, 3) := by decide +kernel
theorem dX2_makeLookup_108 : decode cX2_makeLookup 108 = .ok (.aload_n 0, 1) := by decide +kernel
theorem dX2_makeLookup_109 : decode cX2_makeLookup 109 = .ok (.iload_n 2, 1) := by decide +kernel
theorem dX2_makeLookup_110 : decode cX2_makeLookup 110 = .ok (.iload 5, 2) := by decide +kernel
theorem dX2_makeLookup_112 : decode cX2_makeLookup 112 = .ok (.invokevirtual 158, 3) := by decide +kernel
theorem dX2_makeLookup_115 : decode cX2_makeLookup 115 = .ok (.iinc 4 1, 3) := by decide +kernel
theorem dX2_makeLookup_118 : decode cX2_makeLookup 118 = .ok (.goto (-54), 3) := by decide +kernel
theorem dX2_makeLookup_121 : decode cX2_makeLookup 121 = .ok (.aload_n 1, 1) := by decide +kernel
theorem dX2_makeLookup_122 : decode cX2_makeLookup 122 = .ok (.getfield 161, 3) := by decide +kernel
theorem dX2_makeLookup_125 : decode cX2_makeLookup 125 = .ok (.ireturn, 1) := by decide +kernel
set_option maxRecDepth 20000 in
theorem ggX2_learn_X2_isMember : GoodIn wsX2_learn wsX2_isMember := goodIn_r _ [11, 1, 51, 52, 53, 54, 55, 56, 57, 58, 59, 60, 61, 62, 63, 64] (by decide +kernel) (by decide +kernel)
set_option maxRecDepth 20000 in
theorem gX2_learn_X2_isMember : GoodIn wsX2_learn (wsV RX2 118 RX2 yX2_isMember wsX2_isMember) := goodIn_app (goodIn_of _ (by decide +kernel)) ggX2_learn_X2_isMember
set_option maxRecDepth 20000 in
theorem ggX2_learn_X3_bucketFor : GoodIn wsX2_learn wsX3_bucketFor := goodIn_r _ [15, 16, 17, 18, 19, 20] (by decide +kernel) (by decide +kernel)
set_option maxRecDepth 20000 in
theorem gX2_learn_X3_bucketFor : GoodIn wsX2_learn (va_wsS RX2 164 yX3_bucketFor wsX3_bucketFor) := goodIn_app (goodIn_of _ (by decide +kernel)) ggX2_learn_X3_bucketFor
set_option maxRecDepth 20000 in
theorem ggX2_learn_X3_bucketPlace : GoodIn wsX2_learn wsX3_bucketPlace := goodIn_r _ [23] (by decide +kernel) (by decide +kernel)
set_option maxRecDepth 20000 in
theorem gX2_learn_X3_bucketPlace : GoodIn wsX2_learn (va_wsS RX2 167 yX3_bucketPlace wsX3_bucketPlace) := goodIn_app (goodIn_of _ (by decide +kernel)) ggX2_learn_X3_bucketPlace
set_option maxRecDepth 20000 in
theorem ggX2_learn_X3_indexOf : GoodIn wsX2_learn wsX3_indexOf := goodIn_r _ [27, 28, 29, 65, 66, 67] (by decide +kernel) (by decide +kernel)
set_option maxRecDepth 20000 in
theorem gX2_learn_X3_indexOf : GoodIn wsX2_learn (wsV RX2 170 RX3 yX3_indexOf wsX3_indexOf) := goodIn_app (goodIn_of _ (by decide +kernel)) ggX2_learn_X3_indexOf
set_option maxRecDepth 20000 in
theorem ggX2_learn_X3_removeAt : GoodIn wsX2_learn wsX3_removeAt := goodIn_r _ [33, 28, 29, 34, 65, 66, 67] (by decide +kernel) (by decide +kernel)
set_option maxRecDepth 20000 in
theorem gX2_learn_X3_removeAt : GoodIn wsX2_learn (wsV RX2 173 RX3 yX3_removeAt wsX3_removeAt) := goodIn_app (goodIn_of _ (by decide +kernel)) ggX2_learn_X3_removeAt
set_option maxRecDepth 20000 in
theorem ggX2_learn_X3_append : GoodIn wsX2_learn wsX3_append := goodIn_r _ [38, 28, 29, 34, 39, 31, 32, 14, 33, 65, 66, 67] (by decide +kernel) (by decide +kernel)
set_option maxRecDepth 20000 in
theorem gX2_learn_X3_append : GoodIn wsX2_learn (wsV RX2 176 RX3 yX3_append wsX3_append) := goodIn_app (goodIn_of _ (by decide +kernel)) ggX2_learn_X3_append
set_option maxRecDepth 20000 in
theorem ggX2_learn_X2_refusalOf : GoodIn wsX2_learn wsX2_refusalOf := goodIn_r _ [43, 3, 44, 45, 46, 5, 47, 48, 49, 14, 50, 28, 34, 21, 22, 23, 7, 8, 9, 10, 11, 1, 51, 52, 53, 54, 55, 56, 57, 58, 59, 60, 61, 62, 63, 64, 65, 66, 67] (by decide +kernel) (by decide +kernel)
set_option maxRecDepth 20000 in
theorem gX2_learn_X2_refusalOf : GoodIn wsX2_learn (wsV RX2 180 RX2 yX2_refusalOf wsX2_refusalOf) := goodIn_app (goodIn_of _ (by decide +kernel)) ggX2_learn_X2_refusalOf
theorem dX2_learn_0 : decode cX2_learn 0 = .ok (.iload_n 1, 1) := by decide +kernel
theorem dX2_learn_1 : decode cX2_learn 1 = .ok (.iload_n 2, 1) := by decide +kernel
theorem dX2_learn_2 : decode cX2_learn 2 = .ok (.if_icmp .eq 19, 3) := by decide +kernel
theorem dX2_learn_5 : decode cX2_learn 5 = .ok (.aload_n 0, 1) := by decide +kernel
theorem dX2_learn_6 : decode cX2_learn 6 = .ok (.iload_n 1, 1) := by decide +kernel
theorem dX2_learn_7 : decode cX2_learn 7 = .ok (.invokevirtual 118, 3) := by decide +kernel
theorem dX2_learn_10 : decode cX2_learn 10 = .ok (.ifCond .eq 11, 3) := by decide +kernel
theorem dX2_learn_13 : decode cX2_learn 13 = .ok (.aload_n 0, 1) := by decide +kernel
theorem dX2_learn_14 : decode cX2_learn 14 = .ok (.iload_n 2, 1) := by decide +kernel
theorem dX2_learn_15 : decode cX2_learn 15 = .ok (.invokevirtual 118, 3) := by decide +kernel
theorem dX2_learn_18 : decode cX2_learn 18 = .ok (.ifCond .ne 4, 3) := by decide +kernel
theorem dX2_learn_21 : decode cX2_learn 21 = .ok (.return_, 1) := by decide +kernel
theorem dX2_learn_22 : decode cX2_learn 22 = .ok (.aload_n 0, 1) := by decide +kernel
theorem dX2_learn_23 : decode cX2_learn 23 = .ok (.getfield 40, 3) := by decide +kernel
theorem dX2_learn_26 : decode cX2_learn 26 = .ok (.iload_n 1, 1) := by decide +kernel
theorem dX2_learn_27 : decode cX2_learn 27 = .ok (.iaload, 1) := by decide +kernel
theorem dX2_learn_28 : decode cX2_learn 28 = .ok (.istore_n 3, 1) := by decide +kernel
theorem dX2_learn_29 : decode cX2_learn 29 = .ok (.aload_n 0, 1) := by decide +kernel
theorem dX2_learn_30 : decode cX2_learn 30 = .ok (.getfield 46, 3) := by decide +kernel
theorem dX2_learn_33 : decode cX2_learn 33 = .ok (.aload_n 0, 1) := by decide +kernel
theorem dX2_learn_34 : decode cX2_learn 34 = .ok (.getfield 40, 3) := by decide +kernel
theorem dX2_learn_37 : decode cX2_learn 37 = .ok (.iload_n 2, 1) := by decide +kernel
theorem dX2_learn_38 : decode cX2_learn 38 = .ok (.iaload, 1) := by decide +kernel
theorem dX2_learn_39 : decode cX2_learn 39 = .ok (.iaload, 1) := by decide +kernel
theorem dX2_learn_40 : decode cX2_learn 40 = .ok (.istore 4, 2) := by decide +kernel
theorem dX2_learn_42 : decode cX2_learn 42 = .ok (.iload_n 3, 1) := by decide +kernel
theorem dX2_learn_43 : decode cX2_learn 43 = .ok (.iload_n 1, 1) := by decide +kernel
theorem dX2_learn_44 : decode cX2_learn 44 = .ok (.iload_n 2, 1) := by decide +kernel
theorem dX2_learn_45 : decode cX2_learn 45 = .ok (.invokestatic 164, 3) := by decide +kernel
theorem dX2_learn_48 : decode cX2_learn 48 = .ok (.invokestatic 167, 3) := by decide +kernel
theorem dX2_learn_51 : decode cX2_learn 51 = .ok (.istore 5, 2) := by decide +kernel
theorem dX2_learn_53 : decode cX2_learn 53 = .ok (.aload_n 0, 1) := by decide +kernel
theorem dX2_learn_54 : decode cX2_learn 54 = .ok (.getfield 55, 3) := by decide +kernel
theorem dX2_learn_57 : decode cX2_learn 57 = .ok (.iload 5, 2) := by decide +kernel
theorem dX2_learn_59 : decode cX2_learn 59 = .ok (.iload_n 2, 1) := by decide +kernel
theorem dX2_learn_60 : decode cX2_learn 60 = .ok (.invokevirtual 170, 3) := by decide +kernel
theorem dX2_learn_63 : decode cX2_learn 63 = .ok (.istore 6, 2) := by decide +kernel
theorem dX2_learn_65 : decode cX2_learn 65 = .ok (.iload 6, 2) := by decide +kernel
theorem dX2_learn_67 : decode cX2_learn 67 = .ok (.iconst (-1), 1) := by decide +kernel
theorem dX2_learn_68 : decode cX2_learn 68 = .ok (.if_icmp .eq 27, 3) := by decide +kernel
theorem dX2_learn_71 : decode cX2_learn 71 = .ok (.aload_n 0, 1) := by decide +kernel
theorem dX2_learn_72 : decode cX2_learn 72 = .ok (.getfield 55, 3) := by decide +kernel
theorem dX2_learn_75 : decode cX2_learn 75 = .ok (.iload 5, 2) := by decide +kernel
theorem dX2_learn_77 : decode cX2_learn 77 = .ok (.iload 6, 2) := by decide +kernel
theorem dX2_learn_79 : decode cX2_learn 79 = .ok (.invokevirtual 173, 3) := by decide +kernel
theorem dX2_learn_82 : decode cX2_learn 82 = .ok (.aload_n 0, 1) := by decide +kernel
theorem dX2_learn_83 : decode cX2_learn 83 = .ok (.getfield 55, 3) := by decide +kernel
theorem dX2_learn_86 : decode cX2_learn 86 = .ok (.iload 5, 2) := by decide +kernel
theorem dX2_learn_88 : decode cX2_learn 88 = .ok (.iload_n 2, 1) := by decide +kernel
theorem dX2_learn_89 : decode cX2_learn 89 = .ok (.iload 4, 2) := by decide +kernel
theorem dX2_learn_91 : decode cX2_learn 91 = .ok (.invokevirtual 176, 3) := by decide +kernel
theorem dX2_learn_94 : decode cX2_learn 94 = .ok (.return_, 1) := by decide +kernel
theorem dX2_learn_95 : decode cX2_learn 95 = .ok (.aload_n 0, 1) := by decide +kernel
theorem dX2_learn_96 : decode cX2_learn 96 = .ok (.iload_n 3, 1) := by decide +kernel
theorem dX2_learn_97 : decode cX2_learn 97 = .ok (.iload 5, 2) := by decide +kernel
theorem dX2_learn_99 : decode cX2_learn 99 = .ok (.iload 4, 2) := by decide +kernel
theorem dX2_learn_101 : decode cX2_learn 101 = .ok (.invokevirtual 180, 3) := by decide +kernel
theorem dX2_learn_104 : decode cX2_learn 104 = .ok (.istore 7, 2) := by decide +kernel
theorem dX2_learn_106 : decode cX2_learn 106 = .ok (.iload 7, 2) := by decide +kernel
theorem dX2_learn_108 : decode cX2_learn 108 = .ok (.iconst (-1), 1) := by decide +kernel
theorem dX2_learn_109 : decode cX2_learn 109 = .ok (.if_icmp .ne 16, 3) := by decide +kernel
theorem dX2_learn_112 : decode cX2_learn 112 = .ok (.aload_n 0, 1) := by decide +kernel
theorem dX2_learn_113 : decode cX2_learn 113 = .ok (.getfield 55, 3) := by decide +kernel
theorem dX2_learn_116 : decode cX2_learn 116 = .ok (.iload 5, 2) := by decide +kernel
theorem dX2_learn_118 : decode cX2_learn 118 = .ok (.iload_n 2, 1) := by decide +kernel
theorem dX2_learn_119 : decode cX2_learn 119 = .ok (.iload 4, 2) := by decide +kernel
theorem dX2_learn_121 : decode cX2_learn 121 = .ok (.invokevirtual 176, 3) := by decide +kernel
theorem dX2_learn_124 : decode cX2_learn 124 = .ok (.return_, 1) := by decide +kernel
theorem dX2_learn_125 : decode cX2_learn 125 = .ok (.aload_n 0, 1) := by decide +kernel
theorem dX2_learn_126 : decode cX2_learn 126 = .ok (.getfield 36, 3) := by decide +kernel
theorem dX2_learn_129 : decode cX2_learn 129 = .ok (.iload 7, 2) := by decide +kernel
theorem dX2_learn_131 : decode cX2_learn 131 = .ok (.dup2, 1) := by decide +kernel
theorem dX2_learn_132 : decode cX2_learn 132 = .ok (.iaload, 1) := by decide +kernel
theorem dX2_learn_133 : decode cX2_learn 133 = .ok (.iconst 1, 1) := by decide +kernel
theorem dX2_learn_134 : decode cX2_learn 134 = .ok (.iadd, 1) := by decide +kernel
theorem dX2_learn_135 : decode cX2_learn 135 = .ok (.iastore, 1) := by decide +kernel
theorem dX2_learn_136 : decode cX2_learn 136 = .ok (.iload 7, 2) := by decide +kernel
theorem dX2_learn_138 : decode cX2_learn 138 = .ok (.bipush 7, 2) := by decide +kernel
theorem dX2_learn_140 : decode cX2_learn 140 = .ok (.if_icmp .ne 38, 3) := by decide +kernel
theorem dX2_learn_143 : decode cX2_learn 143 = .ok (.iload 5, 2) := by decide +kernel
theorem dX2_learn_145 : decode cX2_learn 145 = .ok (.iconst 4, 1) := by decide +kernel
theorem dX2_learn_146 : decode cX2_learn 146 = .ok (.imul, 1) := by decide +kernel
theorem dX2_learn_147 : decode cX2_learn 147 = .ok (.istore 8, 2) := by decide +kernel
theorem dX2_learn_149 : decode cX2_learn 149 = .ok (.aload_n 0, 1) := by decide +kernel
theorem dX2_learn_150 : decode cX2_learn 150 = .ok (.getfield 55, 3) := by decide +kernel
theorem dX2_learn_153 : decode cX2_learn 153 = .ok (.iload 5, 2) := by decide +kernel
theorem dX2_learn_155 : decode cX2_learn 155 = .ok (.aload_n 0, 1) := by decide +kernel
theorem dX2_learn_156 : decode cX2_learn 156 = .ok (.getfield 55, 3) := by decide +kernel
theorem dX2_learn_159 : decode cX2_learn 159 = .ok (.getfield 183, 3) := by decide +kernel
theorem dX2_learn_162 : decode cX2_learn 162 = .ok (.iload 8, 2) := by decide +kernel
theorem dX2_learn_164 : decode cX2_learn 164 = .ok (.iaload, 1) := by decide +kernel
theorem dX2_learn_165 : decode cX2_learn 165 = .ok (.aload_n 0, 1) := by decide +kernel
theorem dX2_learn_166 : decode cX2_learn 166 = .ok (.getfield 55, 3) := by decide +kernel
theorem dX2_learn_169 : decode cX2_learn 169 = .ok (.getfield 186, 3) := by decide +kernel
theorem dX2_learn_172 : decode cX2_learn 172 = .ok (.iload 8, 2) := by decide +kernel
theorem dX2_learn_174 : decode cX2_learn 174 = .ok (.iaload, 1) := by decide +kernel
theorem dX2_learn_175 : decode cX2_learn 175 = .ok (.invokevirtual 176, 3) := by decide +kernel
theorem dX2_learn_178 : decode cX2_learn 178 = .ok (.return_, 1) := by decide +kernel
set_option maxRecDepth 20000 in
theorem ggX2_refusalOf_X3_entriesOfOrigin : GoodIn wsX2_refusalOf wsX3_entriesOfOrigin := goodIn_r _ [10, 11, 12, 36, 37, 38] (by decide +kernel) (by decide +kernel)
set_option maxRecDepth 20000 in
theorem gX2_refusalOf_X3_entriesOfOrigin : GoodIn wsX2_refusalOf (wsV RX2 187 RX3 yX3_entriesOfOrigin wsX3_entriesOfOrigin) := goodIn_app (goodIn_of _ (by decide +kernel)) ggX2_refusalOf_X3_entriesOfOrigin
set_option maxRecDepth 20000 in
theorem ggX2_refusalOf_X3_bucketPlace : GoodIn wsX2_refusalOf wsX3_bucketPlace := goodIn_r _ [15] (by decide +kernel) (by decide +kernel)
set_option maxRecDepth 20000 in
theorem gX2_refusalOf_X3_bucketPlace : GoodIn wsX2_refusalOf (va_wsS RX2 167 yX3_bucketPlace wsX3_bucketPlace) := goodIn_app (goodIn_of _ (by decide +kernel)) ggX2_refusalOf_X3_bucketPlace
set_option maxRecDepth 20000 in
theorem ggX2_refusalOf_X2_isMember : GoodIn wsX2_refusalOf wsX2_isMember := goodIn_r _ [20, 21, 22, 23, 24, 25, 26, 27, 28, 29, 30, 31, 32, 33, 34, 35] (by decide +kernel) (by decide +kernel)
set_option maxRecDepth 20000 in
theorem gX2_refusalOf_X2_isMember : GoodIn wsX2_refusalOf (wsV RX2 118 RX2 yX2_isMember wsX2_isMember) := goodIn_app (goodIn_of _ (by decide +kernel)) ggX2_refusalOf_X2_isMember
theorem dX2_refusalOf_0 : decode cX2_refusalOf 0 = .ok (.aload_n 0, 1) := by decide +kernel
theorem dX2_refusalOf_1 : decode cX2_refusalOf 1 = .ok (.getfield 55, 3) := by decide +kernel
theorem dX2_refusalOf_4 : decode cX2_refusalOf 4 = .ok (.iload_n 2, 1) := by decide +kernel
theorem dX2_refusalOf_5 : decode cX2_refusalOf 5 = .ok (.iconst 1, 1) := by decide +kernel
theorem dX2_refusalOf_6 : decode cX2_refusalOf 6 = .ok (.iload_n 3, 1) := by decide +kernel
theorem dX2_refusalOf_7 : decode cX2_refusalOf 7 = .ok (.invokevirtual 187, 3) := by decide +kernel
theorem dX2_refusalOf_10 : decode cX2_refusalOf 10 = .ok (.aload_n 0, 1) := by decide +kernel
theorem dX2_refusalOf_11 : decode cX2_refusalOf 11 = .ok (.getfield 21, 3) := by decide +kernel
theorem dX2_refusalOf_14 : decode cX2_refusalOf 14 = .ok (.if_icmp .lt 5, 3) := by decide +kernel
theorem dX2_refusalOf_17 : decode cX2_refusalOf 17 = .ok (.iconst 5, 1) := by decide +kernel
theorem dX2_refusalOf_18 : decode cX2_refusalOf 18 = .ok (.ireturn, 1) := by decide +kernel
theorem dX2_refusalOf_19 : decode cX2_refusalOf 19 = .ok (.aload_n 0, 1) := by decide +kernel
theorem dX2_refusalOf_20 : decode cX2_refusalOf 20 = .ok (.getfield 55, 3) := by decide +kernel
theorem dX2_refusalOf_23 : decode cX2_refusalOf 23 = .ok (.iload_n 1, 1) := by decide +kernel
theorem dX2_refusalOf_24 : decode cX2_refusalOf 24 = .ok (.iconst 0, 1) := by decide +kernel
theorem dX2_refusalOf_25 : decode cX2_refusalOf 25 = .ok (.invokestatic 167, 3) := by decide +kernel
theorem dX2_refusalOf_28 : decode cX2_refusalOf 28 = .ok (.bipush 8, 2) := by decide +kernel
theorem dX2_refusalOf_30 : decode cX2_refusalOf 30 = .ok (.iload_n 3, 1) := by decide +kernel
theorem dX2_refusalOf_31 : decode cX2_refusalOf 31 = .ok (.invokevirtual 187, 3) := by decide +kernel
theorem dX2_refusalOf_34 : decode cX2_refusalOf 34 = .ok (.aload_n 0, 1) := by decide +kernel
theorem dX2_refusalOf_35 : decode cX2_refusalOf 35 = .ok (.getfield 24, 3) := by decide +kernel
theorem dX2_refusalOf_38 : decode cX2_refusalOf 38 = .ok (.if_icmp .lt 6, 3) := by decide +kernel
theorem dX2_refusalOf_41 : decode cX2_refusalOf 41 = .ok (.bipush 6, 2) := by decide +kernel
theorem dX2_refusalOf_43 : decode cX2_refusalOf 43 = .ok (.ireturn, 1) := by decide +kernel
theorem dX2_refusalOf_44 : decode cX2_refusalOf 44 = .ok (.aload_n 0, 1) := by decide +kernel
theorem dX2_refusalOf_45 : decode cX2_refusalOf 45 = .ok (.getfield 55, 3) := by decide +kernel
theorem dX2_refusalOf_48 : decode cX2_refusalOf 48 = .ok (.getfield 190, 3) := by decide +kernel
theorem dX2_refusalOf_51 : decode cX2_refusalOf 51 = .ok (.iload_n 2, 1) := by decide +kernel
theorem dX2_refusalOf_52 : decode cX2_refusalOf 52 = .ok (.iaload, 1) := by decide +kernel
theorem dX2_refusalOf_53 : decode cX2_refusalOf 53 = .ok (.iconst 4, 1) := by decide +kernel
theorem dX2_refusalOf_54 : decode cX2_refusalOf 54 = .ok (.if_icmp .lt 7, 3) := by decide +kernel
theorem dX2_refusalOf_57 : decode cX2_refusalOf 57 = .ok (.iconst 1, 1) := by decide +kernel
theorem dX2_refusalOf_58 : decode cX2_refusalOf 58 = .ok (.goto 4, 3) := by decide +kernel
theorem dX2_refusalOf_61 : decode cX2_refusalOf 61 = .ok (.iconst 0, 1) := by decide +kernel
theorem dX2_refusalOf_62 : decode cX2_refusalOf 62 = .ok (.istore 4, 2) := by decide +kernel
theorem dX2_refusalOf_64 : decode cX2_refusalOf 64 = .ok (.iload 4, 2) := by decide +kernel
theorem dX2_refusalOf_66 : decode cX2_refusalOf 66 = .ok (.ifCond .eq 26, 3) := by decide +kernel
theorem dX2_refusalOf_69 : decode cX2_refusalOf 69 = .ok (.aload_n 0, 1) := by decide +kernel
theorem dX2_refusalOf_70 : decode cX2_refusalOf 70 = .ok (.aload_n 0, 1) := by decide +kernel
theorem dX2_refusalOf_71 : decode cX2_refusalOf 71 = .ok (.getfield 55, 3) := by decide +kernel
theorem dX2_refusalOf_74 : decode cX2_refusalOf 74 = .ok (.getfield 183, 3) := by decide +kernel
theorem dX2_refusalOf_77 : decode cX2_refusalOf 77 = .ok (.iload_n 2, 1) := by decide +kernel
theorem dX2_refusalOf_78 : decode cX2_refusalOf 78 = .ok (.iconst 4, 1) := by decide +kernel
theorem dX2_refusalOf_79 : decode cX2_refusalOf 79 = .ok (.imul, 1) := by decide +kernel
theorem dX2_refusalOf_80 : decode cX2_refusalOf 80 = .ok (.iaload, 1) := by decide +kernel
theorem dX2_refusalOf_81 : decode cX2_refusalOf 81 = .ok (.invokevirtual 118, 3) := by decide +kernel
theorem dX2_refusalOf_84 : decode cX2_refusalOf 84 = .ok (.ifCond .eq 8, 3) := by decide +kernel
theorem dX2_refusalOf_87 : decode cX2_refusalOf 87 = .ok (.bipush 7, 2) := by decide +kernel
theorem dX2_refusalOf_89 : decode cX2_refusalOf 89 = .ok (.goto 4, 3) := by decide +kernel
theorem dX2_refusalOf_92 : decode cX2_refusalOf 92 = .ok (.iconst (-1), 1) := by decide +kernel
theorem dX2_refusalOf_93 : decode cX2_refusalOf 93 = .ok (.ireturn, 1) := by decide +kernel
set_option maxRecDepth 20000 in
theorem ggX2_forget_X2_isMember : GoodIn wsX2_forget wsX2_isMember := goodIn_r _ [7, 1, 31, 32, 33, 34, 35, 36, 37, 38, 39, 40, 41, 42, 43, 44] (by decide +kernel) (by decide +kernel)
set_option maxRecDepth 20000 in
theorem gX2_forget_X2_isMember : GoodIn wsX2_forget (wsV RX2 118 RX2 yX2_isMember wsX2_isMember) := goodIn_app (goodIn_of _ (by decide +kernel)) ggX2_forget_X2_isMember
set_option maxRecDepth 20000 in
theorem ggX2_forget_X3_bucketFor : GoodIn wsX2_forget wsX3_bucketFor := goodIn_r _ [11, 12, 13, 14, 15, 16] (by decide +kernel) (by decide +kernel)
set_option maxRecDepth 20000 in
theorem gX2_forget_X3_bucketFor : GoodIn wsX2_forget (va_wsS RX2 164 yX3_bucketFor wsX3_bucketFor) := goodIn_app (goodIn_of _ (by decide +kernel)) ggX2_forget_X3_bucketFor
set_option maxRecDepth 20000 in
theorem ggX2_forget_X3_bucketPlace : GoodIn wsX2_forget wsX3_bucketPlace := goodIn_r _ [19] (by decide +kernel) (by decide +kernel)
set_option maxRecDepth 20000 in
theorem gX2_forget_X3_bucketPlace : GoodIn wsX2_forget (va_wsS RX2 167 yX3_bucketPlace wsX3_bucketPlace) := goodIn_app (goodIn_of _ (by decide +kernel)) ggX2_forget_X3_bucketPlace
set_option maxRecDepth 20000 in
theorem ggX2_forget_X3_indexOf : GoodIn wsX2_forget wsX3_indexOf := goodIn_r _ [23, 24, 25, 45, 46, 47] (by decide +kernel) (by decide +kernel)
set_option maxRecDepth 20000 in
theorem gX2_forget_X3_indexOf : GoodIn wsX2_forget (wsV RX2 170 RX3 yX3_indexOf wsX3_indexOf) := goodIn_app (goodIn_of _ (by decide +kernel)) ggX2_forget_X3_indexOf
set_option maxRecDepth 20000 in
theorem ggX2_forget_X3_removeAt : GoodIn wsX2_forget wsX3_removeAt := goodIn_r _ [29, 24, 25, 30, 45, 46, 47] (by decide +kernel) (by decide +kernel)
set_option maxRecDepth 20000 in
theorem gX2_forget_X3_removeAt : GoodIn wsX2_forget (wsV RX2 173 RX3 yX3_removeAt wsX3_removeAt) := goodIn_app (goodIn_of _ (by decide +kernel)) ggX2_forget_X3_removeAt
theorem dX2_forget_0 : decode cX2_forget 0 = .ok (.iload_n 1, 1) := by decide +kernel
theorem dX2_forget_1 : decode cX2_forget 1 = .ok (.iload_n 2, 1) := by decide +kernel
theorem dX2_forget_2 : decode cX2_forget 2 = .ok (.if_icmp .eq 11, 3) := by decide +kernel
theorem dX2_forget_5 : decode cX2_forget 5 = .ok (.aload_n 0, 1) := by decide +kernel
theorem dX2_forget_6 : decode cX2_forget 6 = .ok (.iload_n 1, 1) := by decide +kernel
theorem dX2_forget_7 : decode cX2_forget 7 = .ok (.invokevirtual 118, 3) := by decide +kernel
theorem dX2_forget_10 : decode cX2_forget 10 = .ok (.ifCond .ne 4, 3) := by decide +kernel
theorem dX2_forget_13 : decode cX2_forget 13 = .ok (.return_, 1) := by decide +kernel
theorem dX2_forget_14 : decode cX2_forget 14 = .ok (.aload_n 0, 1) := by decide +kernel
theorem dX2_forget_15 : decode cX2_forget 15 = .ok (.getfield 40, 3) := by decide +kernel
theorem dX2_forget_18 : decode cX2_forget 18 = .ok (.iload_n 1, 1) := by decide +kernel
theorem dX2_forget_19 : decode cX2_forget 19 = .ok (.iaload, 1) := by decide +kernel
theorem dX2_forget_20 : decode cX2_forget 20 = .ok (.iload_n 1, 1) := by decide +kernel
theorem dX2_forget_21 : decode cX2_forget 21 = .ok (.iload_n 2, 1) := by decide +kernel
theorem dX2_forget_22 : decode cX2_forget 22 = .ok (.invokestatic 164, 3) := by decide +kernel
theorem dX2_forget_25 : decode cX2_forget 25 = .ok (.invokestatic 167, 3) := by decide +kernel
theorem dX2_forget_28 : decode cX2_forget 28 = .ok (.istore_n 3, 1) := by decide +kernel
theorem dX2_forget_29 : decode cX2_forget 29 = .ok (.aload_n 0, 1) := by decide +kernel
theorem dX2_forget_30 : decode cX2_forget 30 = .ok (.getfield 55, 3) := by decide +kernel
theorem dX2_forget_33 : decode cX2_forget 33 = .ok (.iload_n 3, 1) := by decide +kernel
theorem dX2_forget_34 : decode cX2_forget 34 = .ok (.iload_n 2, 1) := by decide +kernel
theorem dX2_forget_35 : decode cX2_forget 35 = .ok (.invokevirtual 170, 3) := by decide +kernel
theorem dX2_forget_38 : decode cX2_forget 38 = .ok (.istore 4, 2) := by decide +kernel
theorem dX2_forget_40 : decode cX2_forget 40 = .ok (.iload 4, 2) := by decide +kernel
theorem dX2_forget_42 : decode cX2_forget 42 = .ok (.iconst (-1), 1) := by decide +kernel
theorem dX2_forget_43 : decode cX2_forget 43 = .ok (.if_icmp .eq 13, 3) := by decide +kernel
theorem dX2_forget_46 : decode cX2_forget 46 = .ok (.aload_n 0, 1) := by decide +kernel
theorem dX2_forget_47 : decode cX2_forget 47 = .ok (.getfield 55, 3) := by decide +kernel
theorem dX2_forget_50 : decode cX2_forget 50 = .ok (.iload_n 3, 1) := by decide +kernel
theorem dX2_forget_51 : decode cX2_forget 51 = .ok (.iload 4, 2) := by decide +kernel
theorem dX2_forget_53 : decode cX2_forget 53 = .ok (.invokevirtual 173, 3) := by decide +kernel
theorem dX2_forget_56 : decode cX2_forget 56 = .ok (.return_, 1) := by decide +kernel
set_option maxRecDepth 20000 in
theorem ggX2_tablesWith_X3_bucketFor : GoodIn wsX2_tablesWith wsX3_bucketFor := goodIn_r _ [6, 7, 8, 9, 10, 11] (by decide +kernel) (by decide +kernel)
set_option maxRecDepth 20000 in
theorem gX2_tablesWith_X3_bucketFor : GoodIn wsX2_tablesWith (va_wsS RX2 164 yX3_bucketFor wsX3_bucketFor) := goodIn_app (goodIn_of _ (by decide +kernel)) ggX2_tablesWith_X3_bucketFor
set_option maxRecDepth 20000 in
theorem ggX2_tablesWith_X3_bucketPlace : GoodIn wsX2_tablesWith wsX3_bucketPlace := goodIn_r _ [14] (by decide +kernel) (by decide +kernel)
set_option maxRecDepth 20000 in
theorem gX2_tablesWith_X3_bucketPlace : GoodIn wsX2_tablesWith (va_wsS RX2 167 yX3_bucketPlace wsX3_bucketPlace) := goodIn_app (goodIn_of _ (by decide +kernel)) ggX2_tablesWith_X3_bucketPlace
set_option maxRecDepth 20000 in
theorem ggX2_tablesWith_X3_indexOf : GoodIn wsX2_tablesWith wsX3_indexOf := goodIn_r _ [18, 19, 20, 35, 36, 37] (by decide +kernel) (by decide +kernel)
set_option maxRecDepth 20000 in
theorem gX2_tablesWith_X3_indexOf : GoodIn wsX2_tablesWith (wsV RX2 170 RX3 yX3_indexOf wsX3_indexOf) := goodIn_app (goodIn_of _ (by decide +kernel)) ggX2_tablesWith_X3_indexOf
theorem dX2_tablesWith_0 : decode cX2_tablesWith 0 = .ok (.iconst 0, 1) := by decide +kernel
theorem dX2_tablesWith_1 : decode cX2_tablesWith 1 = .ok (.istore_n 2, 1) := by decide +kernel
theorem dX2_tablesWith_2 : decode cX2_tablesWith 2 = .ok (.iconst 0, 1) := by decide +kernel
theorem dX2_tablesWith_3 : decode cX2_tablesWith 3 = .ok (.istore_n 3, 1) := by decide +kernel
theorem dX2_tablesWith_4 : decode cX2_tablesWith 4 = .ok (.iload_n 3, 1) := by decide +kernel
theorem dX2_tablesWith_5 : decode cX2_tablesWith 5 = .ok (.bipush 24, 2) := by decide +kernel
theorem dX2_tablesWith_7 : decode cX2_tablesWith 7 = .ok (.if_icmp .ge 58, 3) := by decide +kernel
theorem dX2_tablesWith_10 : decode cX2_tablesWith 10 = .ok (.aload_n 0, 1) := by decide +kernel
theorem dX2_tablesWith_11 : decode cX2_tablesWith 11 = .ok (.getfield 43, 3) := by decide +kernel
theorem dX2_tablesWith_14 : decode cX2_tablesWith 14 = .ok (.iload_n 3, 1) := by decide +kernel
theorem dX2_tablesWith_15 : decode cX2_tablesWith 15 = .ok (.iaload, 1) := by decide +kernel
theorem dX2_tablesWith_16 : decode cX2_tablesWith 16 = .ok (.istore 4, 2) := by decide +kernel
theorem dX2_tablesWith_18 : decode cX2_tablesWith 18 = .ok (.iload 4, 2) := by decide +kernel
theorem dX2_tablesWith_20 : decode cX2_tablesWith 20 = .ok (.iconst (-1), 1) := by decide +kernel
theorem dX2_tablesWith_21 : decode cX2_tablesWith 21 = .ok (.if_icmp .eq 38, 3) := by decide +kernel
theorem dX2_tablesWith_24 : decode cX2_tablesWith 24 = .ok (.iload 4, 2) := by decide +kernel
theorem dX2_tablesWith_26 : decode cX2_tablesWith 26 = .ok (.iload_n 1, 1) := by decide +kernel
theorem dX2_tablesWith_27 : decode cX2_tablesWith 27 = .ok (.if_icmp .eq 32, 3) := by decide +kernel
theorem dX2_tablesWith_30 : decode cX2_tablesWith 30 = .ok (.iload_n 3, 1) := by decide +kernel
theorem dX2_tablesWith_31 : decode cX2_tablesWith 31 = .ok (.iload 4, 2) := by decide +kernel
theorem dX2_tablesWith_33 : decode cX2_tablesWith 33 = .ok (.iload_n 1, 1) := by decide +kernel
theorem dX2_tablesWith_34 : decode cX2_tablesWith 34 = .ok (.invokestatic 164, 3) := by decide +kernel
theorem dX2_tablesWith_37 : decode cX2_tablesWith 37 = .ok (.invokestatic 167, 3) := by decide +kernel
theorem dX2_tablesWith_40 : decode cX2_tablesWith 40 = .ok (.istore 5, 2) := by decide +kernel
theorem dX2_tablesWith_42 : decode cX2_tablesWith 42 = .ok (.aload_n 0, 1) := by decide +kernel
theorem dX2_tablesWith_43 : decode cX2_tablesWith 43 = .ok (.getfield 55, 3) := by decide +kernel
theorem dX2_tablesWith_46 : decode cX2_tablesWith 46 = .ok (.iload 5, 2) := by decide +kernel
theorem dX2_tablesWith_48 : decode cX2_tablesWith 48 = .ok (.iload_n 1, 1) := by decide +kernel
theorem dX2_tablesWith_49 : decode cX2_tablesWith 49 = .ok (.invokevirtual 170, 3) := by decide +kernel
theorem dX2_tablesWith_52 : decode cX2_tablesWith 52 = .ok (.iconst (-1), 1) := by decide +kernel
theorem dX2_tablesWith_53 : decode cX2_tablesWith 53 = .ok (.if_icmp .eq 6, 3) := by decide +kernel
theorem dX2_tablesWith_56 : decode cX2_tablesWith 56 = .ok (.iinc 2 1, 3) := by decide +kernel
theorem dX2_tablesWith_59 : decode cX2_tablesWith 59 = .ok (.iinc 3 1, 3) := by decide +kernel
theorem dX2_tablesWith_62 : decode cX2_tablesWith 62 = .ok (.goto (-58), 3) := by decide +kernel
theorem dX2_tablesWith_65 : decode cX2_tablesWith 65 = .ok (.iload_n 2, 1) := by decide +kernel
theorem dX2_tablesWith_66 : decode cX2_tablesWith 66 = .ok (.ireturn, 1) := by decide +kernel
theorem dX2_largestOrigin_0 : decode cX2_largestOrigin 0 = .ok (.iconst 0, 1) := by decide +kernel
theorem dX2_largestOrigin_1 : decode cX2_largestOrigin 1 = .ok (.istore_n 1, 1) := by decide +kernel
theorem dX2_largestOrigin_2 : decode cX2_largestOrigin 2 = .ok (.iconst 0, 1) := by decide +kernel
theorem dX2_largestOrigin_3 : decode cX2_largestOrigin 3 = .ok (.istore_n 2, 1) := by decide +kernel
theorem dX2_largestOrigin_4 : decode cX2_largestOrigin 4 = .ok (.iload_n 2, 1) := by decide +kernel
theorem dX2_largestOrigin_5 : decode cX2_largestOrigin 5 = .ok (.bipush 7, 2) := by decide +kernel
theorem dX2_largestOrigin_7 : decode cX2_largestOrigin 7 = .ok (.if_icmp .gt 58, 3) := by decide +kernel
theorem dX2_largestOrigin_10 : decode cX2_largestOrigin 10 = .ok (.iconst 0, 1) := by decide +kernel
theorem dX2_largestOrigin_11 : decode cX2_largestOrigin 11 = .ok (.istore_n 3, 1) := by decide +kernel
theorem dX2_largestOrigin_12 : decode cX2_largestOrigin 12 = .ok (.iconst 0, 1) := by decide +kernel
theorem dX2_largestOrigin_13 : decode cX2_largestOrigin 13 = .ok (.istore 4, 2) := by decide +kernel
theorem dX2_largestOrigin_15 : decode cX2_largestOrigin 15 = .ok (.iload 4, 2) := by decide +kernel
theorem dX2_largestOrigin_17 : decode cX2_largestOrigin 17 = .ok (.bipush 24, 2) := by decide +kernel
theorem dX2_largestOrigin_19 : decode cX2_largestOrigin 19 = .ok (.if_icmp .ge 34, 3) := by decide +kernel
theorem dX2_largestOrigin_22 : decode cX2_largestOrigin 22 = .ok (.aload_n 0, 1) := by decide +kernel
theorem dX2_largestOrigin_23 : decode cX2_largestOrigin 23 = .ok (.getfield 43, 3) := by decide +kernel
theorem dX2_largestOrigin_26 : decode cX2_largestOrigin 26 = .ok (.iload 4, 2) := by decide +kernel
theorem dX2_largestOrigin_28 : decode cX2_largestOrigin 28 = .ok (.iaload, 1) := by decide +kernel
theorem dX2_largestOrigin_29 : decode cX2_largestOrigin 29 = .ok (.iconst (-1), 1) := by decide +kernel
theorem dX2_largestOrigin_30 : decode cX2_largestOrigin 30 = .ok (.if_icmp .eq 17, 3) := by decide +kernel
theorem dX2_largestOrigin_33 : decode cX2_largestOrigin 33 = .ok (.aload_n 0, 1) := by decide +kernel
theorem dX2_largestOrigin_34 : decode cX2_largestOrigin 34 = .ok (.getfield 46, 3) := by decide +kernel
theorem dX2_largestOrigin_37 : decode cX2_largestOrigin 37 = .ok (.iload 4, 2) := by decide +kernel
theorem dX2_largestOrigin_39 : decode cX2_largestOrigin 39 = .ok (.iaload, 1) := by decide +kernel
theorem dX2_largestOrigin_40 : decode cX2_largestOrigin 40 = .ok (.iload_n 2, 1) := by decide +kernel
theorem dX2_largestOrigin_41 : decode cX2_largestOrigin 41 = .ok (.if_icmp .ne 6, 3) := by decide +kernel
theorem dX2_largestOrigin_44 : decode cX2_largestOrigin 44 = .ok (.iinc 3 1, 3) := by decide +kernel
theorem dX2_largestOrigin_47 : decode cX2_largestOrigin 47 = .ok (.iinc 4 1, 3) := by decide +kernel
theorem dX2_largestOrigin_50 : decode cX2_largestOrigin 50 = .ok (.goto (-35), 3) := by decide +kernel
theorem dX2_largestOrigin_53 : decode cX2_largestOrigin 53 = .ok (.iload_n 1, 1) := by decide +kernel
theorem dX2_largestOrigin_54 : decode cX2_largestOrigin 54 = .ok (.iload_n 3, 1) := by decide +kernel
theorem dX2_largestOrigin_55 : decode cX2_largestOrigin 55 = .ok (.invokestatic 193, 3) := by decide +kernel
theorem dX2_largestOrigin_58 : decode cX2_largestOrigin 58 = .ok (.istore_n 1, 1) := by decide +kernel
theorem dX2_largestOrigin_59 : decode cX2_largestOrigin 59 = .ok (.iinc 2 1, 3) := by decide +kernel
theorem dX2_largestOrigin_62 : decode cX2_largestOrigin 62 = .ok (.goto (-58), 3) := by decide +kernel
theorem dX2_largestOrigin_65 : decode cX2_largestOrigin 65 = .ok (.iload_n 1, 1) := by decide +kernel
theorem dX2_largestOrigin_66 : decode cX2_largestOrigin 66 = .ok (.ireturn, 1) := by decide +kernel
theorem dX2_hasMemberNearer_0 : decode cX2_hasMemberNearer 0 = .ok (.iconst 0, 1) := by decide +kernel
theorem dX2_hasMemberNearer_1 : decode cX2_hasMemberNearer 1 = .ok (.istore_n 3, 1) := by decide +kernel
theorem dX2_hasMemberNearer_2 : decode cX2_hasMemberNearer 2 = .ok (.iload_n 3, 1) := by decide +kernel
theorem dX2_hasMemberNearer_3 : decode cX2_hasMemberNearer 3 = .ok (.bipush 24, 2) := by decide +kernel
theorem dX2_hasMemberNearer_5 : decode cX2_hasMemberNearer 5 = .ok (.if_icmp .ge 33, 3) := by decide +kernel
theorem dX2_hasMemberNearer_8 : decode cX2_hasMemberNearer 8 = .ok (.aload_n 0, 1) := by decide +kernel
theorem dX2_hasMemberNearer_9 : decode cX2_hasMemberNearer 9 = .ok (.getfield 43, 3) := by decide +kernel
theorem dX2_hasMemberNearer_12 : decode cX2_hasMemberNearer 12 = .ok (.iload_n 3, 1) := by decide +kernel
theorem dX2_hasMemberNearer_13 : decode cX2_hasMemberNearer 13 = .ok (.iaload, 1) := by decide +kernel
theorem dX2_hasMemberNearer_14 : decode cX2_hasMemberNearer 14 = .ok (.iconst (-1), 1) := by decide +kernel
theorem dX2_hasMemberNearer_15 : decode cX2_hasMemberNearer 15 = .ok (.if_icmp .eq 17, 3) := by decide +kernel
theorem dX2_hasMemberNearer_18 : decode cX2_hasMemberNearer 18 = .ok (.aload_n 0, 1) := by decide +kernel
theorem dX2_hasMemberNearer_19 : decode cX2_hasMemberNearer 19 = .ok (.getfield 43, 3) := by decide +kernel
theorem dX2_hasMemberNearer_22 : decode cX2_hasMemberNearer 22 = .ok (.iload_n 3, 1) := by decide +kernel
theorem dX2_hasMemberNearer_23 : decode cX2_hasMemberNearer 23 = .ok (.iaload, 1) := by decide +kernel
theorem dX2_hasMemberNearer_24 : decode cX2_hasMemberNearer 24 = .ok (.iload_n 1, 1) := by decide +kernel
theorem dX2_hasMemberNearer_25 : decode cX2_hasMemberNearer 25 = .ok (.ixor, 1) := by decide +kernel
theorem dX2_hasMemberNearer_26 : decode cX2_hasMemberNearer 26 = .ok (.iload_n 2, 1) := by decide +kernel
theorem dX2_hasMemberNearer_27 : decode cX2_hasMemberNearer 27 = .ok (.if_icmp .ge 5, 3) := by decide +kernel
theorem dX2_hasMemberNearer_30 : decode cX2_hasMemberNearer 30 = .ok (.iconst 1, 1) := by decide +kernel
theorem dX2_hasMemberNearer_31 : decode cX2_hasMemberNearer 31 = .ok (.ireturn, 1) := by decide +kernel
theorem dX2_hasMemberNearer_32 : decode cX2_hasMemberNearer 32 = .ok (.iinc 3 1, 3) := by decide +kernel
theorem dX2_hasMemberNearer_35 : decode cX2_hasMemberNearer 35 = .ok (.goto (-33), 3) := by decide +kernel
theorem dX2_hasMemberNearer_38 : decode cX2_hasMemberNearer 38 = .ok (.iconst 0, 1) := by decide +kernel
theorem dX2_hasMemberNearer_39 : decode cX2_hasMemberNearer 39 = .ok (.ireturn, 1) := by decide +kernel
theorem dX3_init_0 : decode cX3_init 0 = .ok (.aload_n 0, 1) := by decide +kernel
theorem dX3_init_1 : decode cX3_init 1 = .ok (.invokespecial 5, 3) := by decide +kernel
theorem dX3_init_4 : decode cX3_init 4 = .ok (.aload_n 0, 1) := by decide +kernel
theorem dX3_init_5 : decode cX3_init 5 = .ok (.sipush 192, 3) := by decide +kernel
theorem dX3_init_8 : decode cX3_init 8 = .ok (.newarray .int, 2) := by decide +kernel
theorem dX3_init_10 : decode cX3_init 10 = .ok (.putfield 11, 3) := by decide +kernel
theorem dX3_init_13 : decode cX3_init 13 = .ok (.aload_n 0, 1) := by decide +kernel
theorem dX3_init_14 : decode cX3_init 14 = .ok (.sipush 768, 3) := by decide +kernel
theorem dX3_init_17 : decode cX3_init 17 = .ok (.newarray .int, 2) := by decide +kernel
theorem dX3_init_19 : decode cX3_init 19 = .ok (.putfield 15, 3) := by decide +kernel
theorem dX3_init_22 : decode cX3_init 22 = .ok (.aload_n 0, 1) := by decide +kernel
theorem dX3_init_23 : decode cX3_init 23 = .ok (.sipush 768, 3) := by decide +kernel
theorem dX3_init_26 : decode cX3_init 26 = .ok (.newarray .int, 2) := by decide +kernel
theorem dX3_init_28 : decode cX3_init 28 = .ok (.putfield 18, 3) := by decide +kernel
theorem dX3_init_31 : decode cX3_init 31 = .ok (.return_, 1) := by decide +kernel
set_option maxRecDepth 20000 in
theorem ggX3_bucketFor_J6_numberOfLeadingZeros_0f7a4 : GoodIn wsX3_bucketFor wsJ6_numberOfLeadingZeros_0f7a4 := goodIn_r _ [4, 5] (by decide +kernel) (by decide +kernel)
set_option maxRecDepth 20000 in
theorem gX3_bucketFor_J6_numberOfLeadingZeros_0f7a4 : GoodIn wsX3_bucketFor (va_wsS RX3 21 yJ6_numberOfLeadingZeros_0f7a4 wsJ6_numberOfLeadingZeros_0f7a4) := goodIn_app (goodIn_of _ (by decide +kernel)) ggX3_bucketFor_J6_numberOfLeadingZeros_0f7a4
theorem dX3_bucketFor_0 : decode cX3_bucketFor 0 = .ok (.iload_n 0, 1) := by decide +kernel
theorem dX3_bucketFor_1 : decode cX3_bucketFor 1 = .ok (.iload_n 1, 1) := by decide +kernel
theorem dX3_bucketFor_2 : decode cX3_bucketFor 2 = .ok (.ixor, 1) := by decide +kernel
theorem dX3_bucketFor_3 : decode cX3_bucketFor 3 = .ok (.sipush 255, 3) := by decide +kernel
theorem dX3_bucketFor_6 : decode cX3_bucketFor 6 = .ok (.iand, 1) := by decide +kernel
theorem dX3_bucketFor_7 : decode cX3_bucketFor 7 = .ok (.istore_n 2, 1) := by decide +kernel
theorem dX3_bucketFor_8 : decode cX3_bucketFor 8 = .ok (.iload_n 2, 1) := by decide +kernel
theorem dX3_bucketFor_9 : decode cX3_bucketFor 9 = .ok (.iconst 1, 1) := by decide +kernel
theorem dX3_bucketFor_10 : decode cX3_bucketFor 10 = .ok (.ior, 1) := by decide +kernel
theorem dX3_bucketFor_11 : decode cX3_bucketFor 11 = .ok (.invokestatic 21, 3) := by decide +kernel
theorem dX3_bucketFor_14 : decode cX3_bucketFor 14 = .ok (.bipush 24, 2) := by decide +kernel
theorem dX3_bucketFor_16 : decode cX3_bucketFor 16 = .ok (.isub, 1) := by decide +kernel
theorem dX3_bucketFor_17 : decode cX3_bucketFor 17 = .ok (.ireturn, 1) := by decide +kernel
theorem dX3_bucketPlace_0 : decode cX3_bucketPlace 0 = .ok (.iload_n 0, 1) := by decide +kernel
theorem dX3_bucketPlace_1 : decode cX3_bucketPlace 1 = .ok (.bipush 8, 2) := by decide +kernel
theorem dX3_bucketPlace_3 : decode cX3_bucketPlace 3 = .ok (.imul, 1) := by decide +kernel
theorem dX3_bucketPlace_4 : decode cX3_bucketPlace 4 = .ok (.iload_n 1, 1) := by decide +kernel
theorem dX3_bucketPlace_5 : decode cX3_bucketPlace 5 = .ok (.iadd, 1) := by decide +kernel
theorem dX3_bucketPlace_6 : decode cX3_bucketPlace 6 = .ok (.ireturn, 1) := by decide +kernel
theorem dX3_copyFrom_0 : decode cX3_copyFrom 0 = .ok (.aload_n 1, 1) := by decide +kernel
theorem dX3_copyFrom_1 : decode cX3_copyFrom 1 = .ok (.getfield 11, 3) := by decide +kernel
theorem dX3_copyFrom_4 : decode cX3_copyFrom 4 = .ok (.iconst 0, 1) := by decide +kernel
theorem dX3_copyFrom_5 : decode cX3_copyFrom 5 = .ok (.aload_n 0, 1) := by decide +kernel
theorem dX3_copyFrom_6 : decode cX3_copyFrom 6 = .ok (.getfield 11, 3) := by decide +kernel
theorem dX3_copyFrom_9 : decode cX3_copyFrom 9 = .ok (.iconst 0, 1) := by decide +kernel
theorem dX3_copyFrom_10 : decode cX3_copyFrom 10 = .ok (.sipush 192, 3) := by decide +kernel
theorem dX3_copyFrom_13 : decode cX3_copyFrom 13 = .ok (.invokestatic 27, 3) := by decide +kernel
theorem dX3_copyFrom_16 : decode cX3_copyFrom 16 = .ok (.aload_n 1, 1) := by decide +kernel
theorem dX3_copyFrom_17 : decode cX3_copyFrom 17 = .ok (.getfield 15, 3) := by decide +kernel
theorem dX3_copyFrom_20 : decode cX3_copyFrom 20 = .ok (.iconst 0, 1) := by decide +kernel
theorem dX3_copyFrom_21 : decode cX3_copyFrom 21 = .ok (.aload_n 0, 1) := by decide +kernel
theorem dX3_copyFrom_22 : decode cX3_copyFrom 22 = .ok (.getfield 15, 3) := by decide +kernel
theorem dX3_copyFrom_25 : decode cX3_copyFrom 25 = .ok (.iconst 0, 1) := by decide +kernel
theorem dX3_copyFrom_26 : decode cX3_copyFrom 26 = .ok (.sipush 768, 3) := by decide +kernel
theorem dX3_copyFrom_29 : decode cX3_copyFrom 29 = .ok (.invokestatic 27, 3) := by decide +kernel
theorem dX3_copyFrom_32 : decode cX3_copyFrom 32 = .ok (.aload_n 1, 1) := by decide +kernel
theorem dX3_copyFrom_33 : decode cX3_copyFrom 33 = .ok (.getfield 18, 3) := by decide +kernel
theorem dX3_copyFrom_36 : decode cX3_copyFrom 36 = .ok (.iconst 0, 1) := by decide +kernel
theorem dX3_copyFrom_37 : decode cX3_copyFrom 37 = .ok (.aload_n 0, 1) := by decide +kernel
theorem dX3_copyFrom_38 : decode cX3_copyFrom 38 = .ok (.getfield 18, 3) := by decide +kernel
theorem dX3_copyFrom_41 : decode cX3_copyFrom 41 = .ok (.iconst 0, 1) := by decide +kernel
theorem dX3_copyFrom_42 : decode cX3_copyFrom 42 = .ok (.sipush 768, 3) := by decide +kernel
theorem dX3_copyFrom_45 : decode cX3_copyFrom 45 = .ok (.invokestatic 27, 3) := by decide +kernel
theorem dX3_copyFrom_48 : decode cX3_copyFrom 48 = .ok (.return_, 1) := by decide +kernel
set_option maxRecDepth 20000 in
theorem ggX3_clear_X3_bucketPlace : GoodIn wsX3_clear wsX3_bucketPlace := goodIn_r _ [5] (by decide +kernel) (by decide +kernel)
set_option maxRecDepth 20000 in
theorem gX3_clear_X3_bucketPlace : GoodIn wsX3_clear (va_wsS RX3 33 yX3_bucketPlace wsX3_bucketPlace) := goodIn_app (goodIn_of _ (by decide +kernel)) ggX3_clear_X3_bucketPlace
theorem dX3_clear_0 : decode cX3_clear 0 = .ok (.iconst 0, 1) := by decide +kernel
theorem dX3_clear_1 : decode cX3_clear 1 = .ok (.istore_n 2, 1) := by decide +kernel
theorem dX3_clear_2 : decode cX3_clear 2 = .ok (.iload_n 2, 1) := by decide +kernel
theorem dX3_clear_3 : decode cX3_clear 3 = .ok (.bipush 8, 2) := by decide +kernel
theorem dX3_clear_5 : decode cX3_clear 5 = .ok (.if_icmp .ge 20, 3) := by decide +kernel
theorem dX3_clear_8 : decode cX3_clear 8 = .ok (.aload_n 0, 1) := by decide +kernel
theorem dX3_clear_9 : decode cX3_clear 9 = .ok (.getfield 11, 3) := by decide +kernel
theorem dX3_clear_12 : decode cX3_clear 12 = .ok (.iload_n 1, 1) := by decide +kernel
theorem dX3_clear_13 : decode cX3_clear 13 = .ok (.iload_n 2, 1) := by decide +kernel
theorem dX3_clear_14 : decode cX3_clear 14 = .ok (.invokestatic 33, 3) := by decide +kernel
theorem dX3_clear_17 : decode cX3_clear 17 = .ok (.iconst 0, 1) := by decide +kernel
theorem dX3_clear_18 : decode cX3_clear 18 = .ok (.iastore, 1) := by decide +kernel
theorem dX3_clear_19 : decode cX3_clear 19 = .ok (.iinc 2 1, 3) := by decide +kernel
theorem dX3_clear_22 : decode cX3_clear 22 = .ok (.goto (-20), 3) := by decide +kernel
theorem dX3_clear_25 : decode cX3_clear 25 = .ok (.return_, 1) := by decide +kernel
theorem dX3_indexOf_0 : decode cX3_indexOf 0 = .ok (.iload_n 1, 1) := by decide +kernel
theorem dX3_indexOf_1 : decode cX3_indexOf 1 = .ok (.iconst 4, 1) := by decide +kernel
theorem dX3_indexOf_2 : decode cX3_indexOf 2 = .ok (.imul, 1) := by decide +kernel
theorem dX3_indexOf_3 : decode cX3_indexOf 3 = .ok (.istore_n 3, 1) := by decide +kernel
theorem dX3_indexOf_4 : decode cX3_indexOf 4 = .ok (.iconst 0, 1) := by decide +kernel
theorem dX3_indexOf_5 : decode cX3_indexOf 5 = .ok (.istore 4, 2) := by decide +kernel
theorem dX3_indexOf_7 : decode cX3_indexOf 7 = .ok (.iload 4, 2) := by decide +kernel
theorem dX3_indexOf_9 : decode cX3_indexOf 9 = .ok (.aload_n 0, 1) := by decide +kernel
theorem dX3_indexOf_10 : decode cX3_indexOf 10 = .ok (.getfield 11, 3) := by decide +kernel
theorem dX3_indexOf_13 : decode cX3_indexOf 13 = .ok (.iload_n 1, 1) := by decide +kernel
theorem dX3_indexOf_14 : decode cX3_indexOf 14 = .ok (.iaload, 1) := by decide +kernel
theorem dX3_indexOf_15 : decode cX3_indexOf 15 = .ok (.if_icmp .ge 25, 3) := by decide +kernel
theorem dX3_indexOf_18 : decode cX3_indexOf 18 = .ok (.aload_n 0, 1) := by decide +kernel
theorem dX3_indexOf_19 : decode cX3_indexOf 19 = .ok (.getfield 15, 3) := by decide +kernel
theorem dX3_indexOf_22 : decode cX3_indexOf 22 = .ok (.iload_n 3, 1) := by decide +kernel
theorem dX3_indexOf_23 : decode cX3_indexOf 23 = .ok (.iload 4, 2) := by decide +kernel
theorem dX3_indexOf_25 : decode cX3_indexOf 25 = .ok (.iadd, 1) := by decide +kernel
theorem dX3_indexOf_26 : decode cX3_indexOf 26 = .ok (.iaload, 1) := by decide +kernel
theorem dX3_indexOf_27 : decode cX3_indexOf 27 = .ok (.iload_n 2, 1) := by decide +kernel
theorem dX3_indexOf_28 : decode cX3_indexOf 28 = .ok (.if_icmp .ne 6, 3) := by decide +kernel
theorem dX3_indexOf_31 : decode cX3_indexOf 31 = .ok (.iload 4, 2) := by decide +kernel
theorem dX3_indexOf_33 : decode cX3_indexOf 33 = .ok (.ireturn, 1) := by decide +kernel
theorem dX3_indexOf_34 : decode cX3_indexOf 34 = .ok (.iinc 4 1, 3) := by decide +kernel
theorem dX3_indexOf_37 : decode cX3_indexOf 37 = .ok (.goto (-30), 3) := by decide +kernel
theorem dX3_indexOf_40 : decode cX3_indexOf 40 = .ok (.iconst (-1), 1) := by decide +kernel
theorem dX3_indexOf_41 : decode cX3_indexOf 41 = .ok (.ireturn, 1) := by decide +kernel
theorem dX3_removeAt_0 : decode cX3_removeAt 0 = .ok (.iload_n 2, 1) := by decide +kernel
theorem dX3_removeAt_1 : decode cX3_removeAt 1 = .ok (.ifCond .lt 13, 3) := by decide +kernel
theorem dX3_removeAt_4 : decode cX3_removeAt 4 = .ok (.iload_n 2, 1) := by decide +kernel
theorem dX3_removeAt_5 : decode cX3_removeAt 5 = .ok (.aload_n 0, 1) := by decide +kernel
theorem dX3_removeAt_6 : decode cX3_removeAt 6 = .ok (.getfield 11, 3) := by decide +kernel
theorem dX3_removeAt_9 : decode cX3_removeAt 9 = .ok (.iload_n 1, 1) := by decide +kernel
theorem dX3_removeAt_10 : decode cX3_removeAt 10 = .ok (.iaload, 1) := by decide +kernel
theorem dX3_removeAt_11 : decode cX3_removeAt 11 = .ok (.if_icmp .lt 4, 3) := by decide +kernel
theorem dX3_removeAt_14 : decode cX3_removeAt 14 = .ok (.return_, 1) := by decide +kernel
theorem dX3_removeAt_15 : decode cX3_removeAt 15 = .ok (.iload_n 1, 1) := by decide +kernel
theorem dX3_removeAt_16 : decode cX3_removeAt 16 = .ok (.iconst 4, 1) := by decide +kernel
theorem dX3_removeAt_17 : decode cX3_removeAt 17 = .ok (.imul, 1) := by decide +kernel
theorem dX3_removeAt_18 : decode cX3_removeAt 18 = .ok (.aload_n 0, 1) := by decide +kernel
theorem dX3_removeAt_19 : decode cX3_removeAt 19 = .ok (.getfield 11, 3) := by decide +kernel
theorem dX3_removeAt_22 : decode cX3_removeAt 22 = .ok (.iload_n 1, 1) := by decide +kernel
theorem dX3_removeAt_23 : decode cX3_removeAt 23 = .ok (.iaload, 1) := by decide +kernel
theorem dX3_removeAt_24 : decode cX3_removeAt 24 = .ok (.iadd, 1) := by decide +kernel
theorem dX3_removeAt_25 : decode cX3_removeAt 25 = .ok (.iconst 1, 1) := by decide +kernel
theorem dX3_removeAt_26 : decode cX3_removeAt 26 = .ok (.isub, 1) := by decide +kernel
theorem dX3_removeAt_27 : decode cX3_removeAt 27 = .ok (.istore_n 3, 1) := by decide +kernel
theorem dX3_removeAt_28 : decode cX3_removeAt 28 = .ok (.iload_n 1, 1) := by decide +kernel
theorem dX3_removeAt_29 : decode cX3_removeAt 29 = .ok (.iconst 4, 1) := by decide +kernel
theorem dX3_removeAt_30 : decode cX3_removeAt 30 = .ok (.imul, 1) := by decide +kernel
theorem dX3_removeAt_31 : decode cX3_removeAt 31 = .ok (.iload_n 2, 1) := by decide +kernel
theorem dX3_removeAt_32 : decode cX3_removeAt 32 = .ok (.iadd, 1) := by decide +kernel
theorem dX3_removeAt_33 : decode cX3_removeAt 33 = .ok (.istore 4, 2) := by decide +kernel
theorem dX3_removeAt_35 : decode cX3_removeAt 35 = .ok (.iload 4, 2) := by decide +kernel
theorem dX3_removeAt_37 : decode cX3_removeAt 37 = .ok (.iload_n 3, 1) := by decide +kernel
theorem dX3_removeAt_38 : decode cX3_removeAt 38 = .ok (.if_icmp .ge 41, 3) := by decide +kernel
theorem dX3_removeAt_41 : decode cX3_removeAt 41 = .ok (.aload_n 0, 1) := by decide +kernel
theorem dX3_removeAt_42 : decode cX3_removeAt 42 = .ok (.getfield 15, 3) := by decide +kernel
theorem dX3_removeAt_45 : decode cX3_removeAt 45 = .ok (.iload 4, 2) := by decide +kernel
theorem dX3_removeAt_47 : decode cX3_removeAt 47 = .ok (.aload_n 0, 1) := by decide +kernel
theorem dX3_removeAt_48 : decode cX3_removeAt 48 = .ok (.getfield 15, 3) := by decide +kernel
theorem dX3_removeAt_51 : decode cX3_removeAt 51 = .ok (.iload 4, 2) := by decide +kernel
theorem dX3_removeAt_53 : decode cX3_removeAt 53 = .ok (.iconst 1, 1) := by decide +kernel
theorem dX3_removeAt_54 : decode cX3_removeAt 54 = .ok (.iadd, 1) := by decide +kernel
theorem dX3_removeAt_55 : decode cX3_removeAt 55 = .ok (.iaload, 1) := by decide +kernel
theorem dX3_removeAt_56 : decode cX3_removeAt 56 = .ok (.iastore, 1) := by decide +kernel
theorem dX3_removeAt_57 : decode cX3_removeAt 57 = .ok (.aload_n 0, 1) := by decide +kernel
theorem dX3_removeAt_58 : decode cX3_removeAt 58 = .ok (.getfield 18, 3) := by decide +kernel
theorem dX3_removeAt_61 : decode cX3_removeAt 61 = .ok (.iload 4, 2) := by decide +kernel
theorem dX3_removeAt_63 : decode cX3_removeAt 63 = .ok (.aload_n 0, 1) := by decide +kernel
theorem dX3_removeAt_64 : decode cX3_removeAt 64 = .ok (.getfield 18, 3) := by decide +kernel
theorem dX3_removeAt_67 : decode cX3_removeAt 67 = .ok (.iload 4, 2) := by decide +kernel
theorem dX3_removeAt_69 : decode cX3_removeAt 69 = .ok (.iconst 1, 1) := by decide +kernel
theorem dX3_removeAt_70 : decode cX3_removeAt 70 = .ok (.iadd, 1) := by decide +kernel
theorem dX3_removeAt_71 : decode cX3_removeAt 71 = .ok (.iaload, 1) := by decide +kernel
theorem dX3_removeAt_72 : decode cX3_removeAt 72 = .ok (.iastore, 1) := by decide +kernel
theorem dX3_removeAt_73 : decode cX3_removeAt 73 = .ok (.iinc 4 1, 3) := by decide +kernel
theorem dX3_removeAt_76 : decode cX3_removeAt 76 = .ok (.goto (-41), 3) := by decide +kernel
theorem dX3_removeAt_79 : decode cX3_removeAt 79 = .ok (.aload_n 0, 1) := by decide +kernel
theorem dX3_removeAt_80 : decode cX3_removeAt 80 = .ok (.getfield 11, 3) := by decide +kernel
theorem dX3_removeAt_83 : decode cX3_removeAt 83 = .ok (.iload_n 1, 1) := by decide +kernel
theorem dX3_removeAt_84 : decode cX3_removeAt 84 = .ok (.dup2, 1) := by decide +kernel
theorem dX3_removeAt_85 : decode cX3_removeAt 85 = .ok (.iaload, 1) := by decide +kernel
theorem dX3_removeAt_86 : decode cX3_removeAt 86 = .ok (.iconst 1, 1) := by decide +kernel
theorem dX3_removeAt_87 : decode cX3_removeAt 87 = .ok (.isub, 1) := by decide +kernel
theorem dX3_removeAt_88 : decode cX3_removeAt 88 = .ok (.iastore, 1) := by decide +kernel
theorem dX3_removeAt_89 : decode cX3_removeAt 89 = .ok (.return_, 1) := by decide +kernel
set_option maxRecDepth 20000 in
theorem ggX3_append_X3_removeAt : GoodIn wsX3_append wsX3_removeAt := goodIn_r _ [8, 1, 2, 3, 9, 10, 11] (by decide +kernel) (by decide +kernel)
set_option maxRecDepth 20000 in
theorem gX3_append_X3_removeAt : GoodIn wsX3_append (wsV RX3 37 RX3 yX3_removeAt wsX3_removeAt) := goodIn_app (goodIn_of _ (by decide +kernel)) ggX3_append_X3_removeAt
theorem dX3_append_0 : decode cX3_append 0 = .ok (.aload_n 0, 1) := by decide +kernel
theorem dX3_append_1 : decode cX3_append 1 = .ok (.getfield 11, 3) := by decide +kernel
theorem dX3_append_4 : decode cX3_append 4 = .ok (.iload_n 1, 1) := by decide +kernel
theorem dX3_append_5 : decode cX3_append 5 = .ok (.iaload, 1) := by decide +kernel
theorem dX3_append_6 : decode cX3_append 6 = .ok (.iconst 4, 1) := by decide +kernel
theorem dX3_append_7 : decode cX3_append 7 = .ok (.if_icmp .lt 9, 3) := by decide +kernel
theorem dX3_append_10 : decode cX3_append 10 = .ok (.aload_n 0, 1) := by decide +kernel
theorem dX3_append_11 : decode cX3_append 11 = .ok (.iload_n 1, 1) := by decide +kernel
theorem dX3_append_12 : decode cX3_append 12 = .ok (.iconst 0, 1) := by decide +kernel
theorem dX3_append_13 : decode cX3_append 13 = .ok (.invokevirtual 37, 3) := by decide +kernel
theorem dX3_append_16 : decode cX3_append 16 = .ok (.iload_n 1, 1) := by decide +kernel
theorem dX3_append_17 : decode cX3_append 17 = .ok (.iconst 4, 1) := by decide +kernel
theorem dX3_append_18 : decode cX3_append 18 = .ok (.imul, 1) := by decide +kernel
theorem dX3_append_19 : decode cX3_append 19 = .ok (.aload_n 0, 1) := by decide +kernel
theorem dX3_append_20 : decode cX3_append 20 = .ok (.getfield 11, 3) := by decide +kernel
theorem dX3_append_23 : decode cX3_append 23 = .ok (.iload_n 1, 1) := by decide +kernel
theorem dX3_append_24 : decode cX3_append 24 = .ok (.iaload, 1) := by decide +kernel
theorem dX3_append_25 : decode cX3_append 25 = .ok (.iadd, 1) := by decide +kernel
theorem dX3_append_26 : decode cX3_append 26 = .ok (.istore 4, 2) := by decide +kernel
theorem dX3_append_28 : decode cX3_append 28 = .ok (.aload_n 0, 1) := by decide +kernel
theorem dX3_append_29 : decode cX3_append 29 = .ok (.getfield 15, 3) := by decide +kernel
theorem dX3_append_32 : decode cX3_append 32 = .ok (.iload 4, 2) := by decide +kernel
theorem dX3_append_34 : decode cX3_append 34 = .ok (.iload_n 2, 1) := by decide +kernel
theorem dX3_append_35 : decode cX3_append 35 = .ok (.iastore, 1) := by decide +kernel
theorem dX3_append_36 : decode cX3_append 36 = .ok (.aload_n 0, 1) := by decide +kernel
theorem dX3_append_37 : decode cX3_append 37 = .ok (.getfield 18, 3) := by decide +kernel
theorem dX3_append_40 : decode cX3_append 40 = .ok (.iload 4, 2) := by decide +kernel
theorem dX3_append_42 : decode cX3_append 42 = .ok (.iload_n 3, 1) := by decide +kernel
theorem dX3_append_43 : decode cX3_append 43 = .ok (.iastore, 1) := by decide +kernel
theorem dX3_append_44 : decode cX3_append 44 = .ok (.aload_n 0, 1) := by decide +kernel
theorem dX3_append_45 : decode cX3_append 45 = .ok (.getfield 11, 3) := by decide +kernel
theorem dX3_append_48 : decode cX3_append 48 = .ok (.iload_n 1, 1) := by decide +kernel
theorem dX3_append_49 : decode cX3_append 49 = .ok (.dup2, 1) := by decide +kernel
theorem dX3_append_50 : decode cX3_append 50 = .ok (.iaload, 1) := by decide +kernel
theorem dX3_append_51 : decode cX3_append 51 = .ok (.iconst 1, 1) := by decide +kernel
theorem dX3_append_52 : decode cX3_append 52 = .ok (.iadd, 1) := by decide +kernel
theorem dX3_append_53 : decode cX3_append 53 = .ok (.iastore, 1) := by decide +kernel
theorem dX3_append_54 : decode cX3_append 54 = .ok (.return_, 1) := by decide +kernel
theorem dX3_entriesOfOrigin_0 : decode cX3_entriesOfOrigin 0 = .ok (.iconst 0, 1) := by decide +kernel
theorem dX3_entriesOfOrigin_1 : decode cX3_entriesOfOrigin 1 = .ok (.istore 4, 2) := by decide +kernel
theorem dX3_entriesOfOrigin_3 : decode cX3_entriesOfOrigin 3 = .ok (.iload_n 1, 1) := by decide +kernel
theorem dX3_entriesOfOrigin_4 : decode cX3_entriesOfOrigin 4 = .ok (.istore 5, 2) := by decide +kernel
theorem dX3_entriesOfOrigin_6 : decode cX3_entriesOfOrigin 6 = .ok (.iload 5, 2) := by decide +kernel
theorem dX3_entriesOfOrigin_8 : decode cX3_entriesOfOrigin 8 = .ok (.iload_n 1, 1) := by decide +kernel
theorem dX3_entriesOfOrigin_9 : decode cX3_entriesOfOrigin 9 = .ok (.iload_n 2, 1) := by decide +kernel
theorem dX3_entriesOfOrigin_10 : decode cX3_entriesOfOrigin 10 = .ok (.iadd, 1) := by decide +kernel
theorem dX3_entriesOfOrigin_11 : decode cX3_entriesOfOrigin 11 = .ok (.if_icmp .ge 53, 3) := by decide +kernel
theorem dX3_entriesOfOrigin_14 : decode cX3_entriesOfOrigin 14 = .ok (.iload 5, 2) := by decide +kernel
theorem dX3_entriesOfOrigin_16 : decode cX3_entriesOfOrigin 16 = .ok (.iconst 4, 1) := by decide +kernel
theorem dX3_entriesOfOrigin_17 : decode cX3_entriesOfOrigin 17 = .ok (.imul, 1) := by decide +kernel
theorem dX3_entriesOfOrigin_18 : decode cX3_entriesOfOrigin 18 = .ok (.istore 6, 2) := by decide +kernel
theorem dX3_entriesOfOrigin_20 : decode cX3_entriesOfOrigin 20 = .ok (.iconst 0, 1) := by decide +kernel
theorem dX3_entriesOfOrigin_21 : decode cX3_entriesOfOrigin 21 = .ok (.istore 7, 2) := by decide +kernel
theorem dX3_entriesOfOrigin_23 : decode cX3_entriesOfOrigin 23 = .ok (.iload 7, 2) := by decide +kernel
theorem dX3_entriesOfOrigin_25 : decode cX3_entriesOfOrigin 25 = .ok (.aload_n 0, 1) := by decide +kernel
theorem dX3_entriesOfOrigin_26 : decode cX3_entriesOfOrigin 26 = .ok (.getfield 11, 3) := by decide +kernel
theorem dX3_entriesOfOrigin_29 : decode cX3_entriesOfOrigin 29 = .ok (.iload 5, 2) := by decide +kernel
theorem dX3_entriesOfOrigin_31 : decode cX3_entriesOfOrigin 31 = .ok (.iaload, 1) := by decide +kernel
theorem dX3_entriesOfOrigin_32 : decode cX3_entriesOfOrigin 32 = .ok (.if_icmp .ge 26, 3) := by decide +kernel
theorem dX3_entriesOfOrigin_35 : decode cX3_entriesOfOrigin 35 = .ok (.aload_n 0, 1) := by decide +kernel
theorem dX3_entriesOfOrigin_36 : decode cX3_entriesOfOrigin 36 = .ok (.getfield 18, 3) := by decide +kernel
theorem dX3_entriesOfOrigin_39 : decode cX3_entriesOfOrigin 39 = .ok (.iload 6, 2) := by decide +kernel
theorem dX3_entriesOfOrigin_41 : decode cX3_entriesOfOrigin 41 = .ok (.iload 7, 2) := by decide +kernel
theorem dX3_entriesOfOrigin_43 : decode cX3_entriesOfOrigin 43 = .ok (.iadd, 1) := by decide +kernel
theorem dX3_entriesOfOrigin_44 : decode cX3_entriesOfOrigin 44 = .ok (.iaload, 1) := by decide +kernel
theorem dX3_entriesOfOrigin_45 : decode cX3_entriesOfOrigin 45 = .ok (.iload_n 3, 1) := by decide +kernel
theorem dX3_entriesOfOrigin_46 : decode cX3_entriesOfOrigin 46 = .ok (.if_icmp .ne 6, 3) := by decide +kernel
theorem dX3_entriesOfOrigin_49 : decode cX3_entriesOfOrigin 49 = .ok (.iinc 4 1, 3) := by decide +kernel
theorem dX3_entriesOfOrigin_52 : decode cX3_entriesOfOrigin 52 = .ok (.iinc 7 1, 3) := by decide +kernel
theorem dX3_entriesOfOrigin_55 : decode cX3_entriesOfOrigin 55 = .ok (.goto (-32), 3) := by decide +kernel
theorem dX3_entriesOfOrigin_58 : decode cX3_entriesOfOrigin 58 = .ok (.iinc 5 1, 3) := by decide +kernel
theorem dX3_entriesOfOrigin_61 : decode cX3_entriesOfOrigin 61 = .ok (.goto (-55), 3) := by decide +kernel
theorem dX3_entriesOfOrigin_64 : decode cX3_entriesOfOrigin 64 = .ok (.iload 4, 2) := by decide +kernel
theorem dX3_entriesOfOrigin_66 : decode cX3_entriesOfOrigin 66 = .ok (.ireturn, 1) := by decide +kernel
set_option maxRecDepth 20000 in
theorem ggX3_entriesOf_X3_bucketPlace : GoodIn wsX3_entriesOf wsX3_bucketPlace := goodIn_r _ [5] (by decide +kernel) (by decide +kernel)
set_option maxRecDepth 20000 in
theorem gX3_entriesOf_X3_bucketPlace : GoodIn wsX3_entriesOf (va_wsS RX3 33 yX3_bucketPlace wsX3_bucketPlace) := goodIn_app (goodIn_of _ (by decide +kernel)) ggX3_entriesOf_X3_bucketPlace
theorem dX3_entriesOf_0 : decode cX3_entriesOf 0 = .ok (.iconst 0, 1) := by decide +kernel
theorem dX3_entriesOf_1 : decode cX3_entriesOf 1 = .ok (.istore_n 2, 1) := by decide +kernel
theorem dX3_entriesOf_2 : decode cX3_entriesOf 2 = .ok (.iconst 0, 1) := by decide +kernel
theorem dX3_entriesOf_3 : decode cX3_entriesOf 3 = .ok (.istore_n 3, 1) := by decide +kernel
theorem dX3_entriesOf_4 : decode cX3_entriesOf 4 = .ok (.iload_n 3, 1) := by decide +kernel
theorem dX3_entriesOf_5 : decode cX3_entriesOf 5 = .ok (.bipush 8, 2) := by decide +kernel
theorem dX3_entriesOf_7 : decode cX3_entriesOf 7 = .ok (.if_icmp .ge 22, 3) := by decide +kernel
theorem dX3_entriesOf_10 : decode cX3_entriesOf 10 = .ok (.iload_n 2, 1) := by decide +kernel
theorem dX3_entriesOf_11 : decode cX3_entriesOf 11 = .ok (.aload_n 0, 1) := by decide +kernel
theorem dX3_entriesOf_12 : decode cX3_entriesOf 12 = .ok (.getfield 11, 3) := by decide +kernel
theorem dX3_entriesOf_15 : decode cX3_entriesOf 15 = .ok (.iload_n 1, 1) := by decide +kernel
theorem dX3_entriesOf_16 : decode cX3_entriesOf 16 = .ok (.iload_n 3, 1) := by decide +kernel
theorem dX3_entriesOf_17 : decode cX3_entriesOf 17 = .ok (.invokestatic 33, 3) := by decide +kernel
theorem dX3_entriesOf_20 : decode cX3_entriesOf 20 = .ok (.iaload, 1) := by decide +kernel
theorem dX3_entriesOf_21 : decode cX3_entriesOf 21 = .ok (.iadd, 1) := by decide +kernel
theorem dX3_entriesOf_22 : decode cX3_entriesOf 22 = .ok (.istore_n 2, 1) := by decide +kernel
theorem dX3_entriesOf_23 : decode cX3_entriesOf 23 = .ok (.iinc 3 1, 3) := by decide +kernel
theorem dX3_entriesOf_26 : decode cX3_entriesOf 26 = .ok (.goto (-22), 3) := by decide +kernel
theorem dX3_entriesOf_29 : decode cX3_entriesOf 29 = .ok (.iload_n 2, 1) := by decide +kernel
theorem dX3_entriesOf_30 : decode cX3_entriesOf 30 = .ok (.ireturn, 1) := by decide +kernel
set_option maxRecDepth 20000 in
theorem ggX3_hashOf_X3_bucketPlace : GoodIn wsX3_hashOf wsX3_bucketPlace := goodIn_r _ [8] (by decide +kernel) (by decide +kernel)
set_option maxRecDepth 20000 in
theorem gX3_hashOf_X3_bucketPlace : GoodIn wsX3_hashOf (va_wsS RX3 33 yX3_bucketPlace wsX3_bucketPlace) := goodIn_app (goodIn_of _ (by decide +kernel)) ggX3_hashOf_X3_bucketPlace
theorem dX3_hashOf_0 : decode cX3_hashOf 0 = .ok (.lload_n 2, 1) := by decide +kernel
theorem dX3_hashOf_1 : decode cX3_hashOf 1 = .ok (.lstore 4, 2) := by decide +kernel
theorem dX3_hashOf_3 : decode cX3_hashOf 3 = .ok (.iconst 0, 1) := by decide +kernel
theorem dX3_hashOf_4 : decode cX3_hashOf 4 = .ok (.istore 6, 2) := by decide +kernel
theorem dX3_hashOf_6 : decode cX3_hashOf 6 = .ok (.iload 6, 2) := by decide +kernel
theorem dX3_hashOf_8 : decode cX3_hashOf 8 = .ok (.bipush 8, 2) := by decide +kernel
theorem dX3_hashOf_10 : decode cX3_hashOf 10 = .ok (.if_icmp .ge 101, 3) := by decide +kernel
theorem dX3_hashOf_13 : decode cX3_hashOf 13 = .ok (.iload_n 1, 1) := by decide +kernel
theorem dX3_hashOf_14 : decode cX3_hashOf 14 = .ok (.iload 6, 2) := by decide +kernel
theorem dX3_hashOf_16 : decode cX3_hashOf 16 = .ok (.invokestatic 33, 3) := by decide +kernel
theorem dX3_hashOf_19 : decode cX3_hashOf 19 = .ok (.istore 7, 2) := by decide +kernel
theorem dX3_hashOf_21 : decode cX3_hashOf 21 = .ok (.iload 7, 2) := by decide +kernel
theorem dX3_hashOf_23 : decode cX3_hashOf 23 = .ok (.iconst 4, 1) := by decide +kernel
theorem dX3_hashOf_24 : decode cX3_hashOf 24 = .ok (.imul, 1) := by decide +kernel
theorem dX3_hashOf_25 : decode cX3_hashOf 25 = .ok (.istore 8, 2) := by decide +kernel
theorem dX3_hashOf_27 : decode cX3_hashOf 27 = .ok (.ldc2_w 41, 3) := by decide +kernel
theorem dX3_hashOf_30 : decode cX3_hashOf 30 = .ok (.lload 4, 2) := by decide +kernel
theorem dX3_hashOf_32 : decode cX3_hashOf 32 = .ok (.lmul, 1) := by decide +kernel
theorem dX3_hashOf_33 : decode cX3_hashOf 33 = .ok (.aload_n 0, 1) := by decide +kernel
theorem dX3_hashOf_34 : decode cX3_hashOf 34 = .ok (.getfield 11, 3) := by decide +kernel
theorem dX3_hashOf_37 : decode cX3_hashOf 37 = .ok (.iload 7, 2) := by decide +kernel
theorem dX3_hashOf_39 : decode cX3_hashOf 39 = .ok (.iaload, 1) := by decide +kernel
theorem dX3_hashOf_40 : decode cX3_hashOf 40 = .ok (.i2l, 1) := by decide +kernel
theorem dX3_hashOf_41 : decode cX3_hashOf 41 = .ok (.ladd, 1) := by decide +kernel
theorem dX3_hashOf_42 : decode cX3_hashOf 42 = .ok (.lstore 4, 2) := by decide +kernel
theorem dX3_hashOf_44 : decode cX3_hashOf 44 = .ok (.iconst 0, 1) := by decide +kernel
theorem dX3_hashOf_45 : decode cX3_hashOf 45 = .ok (.istore 9, 2) := by decide +kernel
theorem dX3_hashOf_47 : decode cX3_hashOf 47 = .ok (.iload 9, 2) := by decide +kernel
theorem dX3_hashOf_49 : decode cX3_hashOf 49 = .ok (.aload_n 0, 1) := by decide +kernel
theorem dX3_hashOf_50 : decode cX3_hashOf 50 = .ok (.getfield 11, 3) := by decide +kernel
theorem dX3_hashOf_53 : decode cX3_hashOf 53 = .ok (.iload 7, 2) := by decide +kernel
theorem dX3_hashOf_55 : decode cX3_hashOf 55 = .ok (.iaload, 1) := by decide +kernel
theorem dX3_hashOf_56 : decode cX3_hashOf 56 = .ok (.if_icmp .ge 49, 3) := by decide +kernel
theorem dX3_hashOf_59 : decode cX3_hashOf 59 = .ok (.ldc2_w 41, 3) := by decide +kernel
theorem dX3_hashOf_62 : decode cX3_hashOf 62 = .ok (.lload 4, 2) := by decide +kernel
theorem dX3_hashOf_64 : decode cX3_hashOf 64 = .ok (.lmul, 1) := by decide +kernel
theorem dX3_hashOf_65 : decode cX3_hashOf 65 = .ok (.aload_n 0, 1) := by decide +kernel
theorem dX3_hashOf_66 : decode cX3_hashOf 66 = .ok (.getfield 15, 3) := by decide +kernel
theorem dX3_hashOf_69 : decode cX3_hashOf 69 = .ok (.iload 8, 2) := by decide +kernel
theorem dX3_hashOf_71 : decode cX3_hashOf 71 = .ok (.iload 9, 2) := by decide +kernel
theorem dX3_hashOf_73 : decode cX3_hashOf 73 = .ok (.iadd, 1) := by decide +kernel
theorem dX3_hashOf_74 : decode cX3_hashOf 74 = .ok (.iaload, 1) := by decide +kernel
theorem dX3_hashOf_75 : decode cX3_hashOf 75 = .ok (.i2l, 1) := by decide +kernel
theorem dX3_hashOf_76 : decode cX3_hashOf 76 = .ok (.ladd, 1) := by decide +kernel
theorem dX3_hashOf_77 : decode cX3_hashOf 77 = .ok (.lstore 4, 2) := by decide +kernel
theorem dX3_hashOf_79 : decode cX3_hashOf 79 = .ok (.ldc2_w 41, 3) := by decide +kernel
theorem dX3_hashOf_82 : decode cX3_hashOf 82 = .ok (.lload 4, 2) := by decide +kernel
theorem dX3_hashOf_84 : decode cX3_hashOf 84 = .ok (.lmul, 1) := by decide +kernel
theorem dX3_hashOf_85 : decode cX3_hashOf 85 = .ok (.aload_n 0, 1) := by decide +kernel
theorem dX3_hashOf_86 : decode cX3_hashOf 86 = .ok (.getfield 18, 3) := by decide +kernel
theorem dX3_hashOf_89 : decode cX3_hashOf 89 = .ok (.iload 8, 2) := by decide +kernel
theorem dX3_hashOf_91 : decode cX3_hashOf 91 = .ok (.iload 9, 2) := by decide +kernel
theorem dX3_hashOf_93 : decode cX3_hashOf 93 = .ok (.iadd, 1) := by decide +kernel
theorem dX3_hashOf_94 : decode cX3_hashOf 94 = .ok (.iaload, 1) := by decide +kernel
theorem dX3_hashOf_95 : decode cX3_hashOf 95 = .ok (.i2l, 1) := by decide +kernel
theorem dX3_hashOf_96 : decode cX3_hashOf 96 = .ok (.ladd, 1) := by decide +kernel
theorem dX3_hashOf_97 : decode cX3_hashOf 97 = .ok (.lstore 4, 2) := by decide +kernel
theorem dX3_hashOf_99 : decode cX3_hashOf 99 = .ok (.iinc 9 1, 3) := by decide +kernel
theorem dX3_hashOf_102 : decode cX3_hashOf 102 = .ok (.goto (-55), 3) := by decide +kernel
theorem dX3_hashOf_105 : decode cX3_hashOf 105 = .ok (.iinc 6 1, 3) := by decide +kernel
theorem dX3_hashOf_108 : decode cX3_hashOf 108 = .ok (.goto (-102), 3) := by decide +kernel
theorem dX3_hashOf_111 : decode cX3_hashOf 111 = .ok (.lload 4, 2) := by decide +kernel
theorem dX3_hashOf_113 : decode cX3_hashOf 113 = .ok (.lreturn, 1) := by decide +kernel
theorem dX4_init_0 : decode cX4_init 0 = .ok (.aload_n 0, 1) := by decide +kernel
theorem dX4_init_1 : decode cX4_init 1 = .ok (.invokespecial 5, 3) := by decide +kernel
theorem dX4_init_4 : decode cX4_init 4 = .ok (.aload_n 0, 1) := by decide +kernel
theorem dX4_init_5 : decode cX4_init 5 = .ok (.bipush 12, 2) := by decide +kernel
theorem dX4_init_7 : decode cX4_init 7 = .ok (.newarray .int, 2) := by decide +kernel
theorem dX4_init_9 : decode cX4_init 9 = .ok (.putfield 11, 3) := by decide +kernel
theorem dX4_init_12 : decode cX4_init 12 = .ok (.aload_n 0, 1) := by decide +kernel
theorem dX4_init_13 : decode cX4_init 13 = .ok (.iconst 0, 1) := by decide +kernel
theorem dX4_init_14 : decode cX4_init 14 = .ok (.putfield 15, 3) := by decide +kernel
theorem dX4_init_17 : decode cX4_init 17 = .ok (.aload_n 0, 1) := by decide +kernel
theorem dX4_init_18 : decode cX4_init 18 = .ok (.iconst 0, 1) := by decide +kernel
theorem dX4_init_19 : decode cX4_init 19 = .ok (.putfield 19, 3) := by decide +kernel
theorem dX4_init_22 : decode cX4_init 22 = .ok (.aload_n 0, 1) := by decide +kernel
theorem dX4_init_23 : decode cX4_init 23 = .ok (.iconst (-1), 1) := by decide +kernel
theorem dX4_init_24 : decode cX4_init 24 = .ok (.putfield 22, 3) := by decide +kernel
theorem dX4_init_27 : decode cX4_init 27 = .ok (.aload_n 0, 1) := by decide +kernel
theorem dX4_init_28 : decode cX4_init 28 = .ok (.iconst 0, 1) := by decide +kernel
theorem dX4_init_29 : decode cX4_init 29 = .ok (.putfield 25, 3) := by decide +kernel
theorem dX4_init_32 : decode cX4_init 32 = .ok (.aload_n 0, 1) := by decide +kernel
theorem dX4_init_33 : decode cX4_init 33 = .ok (.iconst 3, 1) := by decide +kernel
theorem dX4_init_34 : decode cX4_init 34 = .ok (.newarray .int, 2) := by decide +kernel
theorem dX4_init_36 : decode cX4_init 36 = .ok (.putfield 29, 3) := by decide +kernel
theorem dX4_init_39 : decode cX4_init 39 = .ok (.aload_n 0, 1) := by decide +kernel
theorem dX4_init_40 : decode cX4_init 40 = .ok (.iconst 0, 1) := by decide +kernel
theorem dX4_init_41 : decode cX4_init 41 = .ok (.putfield 32, 3) := by decide +kernel
theorem dX4_init_44 : decode cX4_init 44 = .ok (.aload_n 0, 1) := by decide +kernel
theorem dX4_init_45 : decode cX4_init 45 = .ok (.bipush 39, 2) := by decide +kernel
theorem dX4_init_47 : decode cX4_init 47 = .ok (.newarray .int, 2) := by decide +kernel
theorem dX4_init_49 : decode cX4_init 49 = .ok (.putfield 35, 3) := by decide +kernel
theorem dX4_init_52 : decode cX4_init 52 = .ok (.aload_n 0, 1) := by decide +kernel
theorem dX4_init_53 : decode cX4_init 53 = .ok (.bipush 39, 2) := by decide +kernel
theorem dX4_init_55 : decode cX4_init 55 = .ok (.newarray .int, 2) := by decide +kernel
theorem dX4_init_57 : decode cX4_init 57 = .ok (.putfield 38, 3) := by decide +kernel
theorem dX4_init_60 : decode cX4_init 60 = .ok (.aload_n 0, 1) := by decide +kernel
theorem dX4_init_61 : decode cX4_init 61 = .ok (.iconst 0, 1) := by decide +kernel
theorem dX4_init_62 : decode cX4_init 62 = .ok (.putfield 41, 3) := by decide +kernel
theorem dX4_init_65 : decode cX4_init 65 = .ok (.return_, 1) := by decide +kernel
set_option maxRecDepth 20000 in
theorem ggX4_trace_X4_hear : GoodIn wsX4_trace wsX4_hear := goodIn_r _ [17, 18, 19, 20, 21, 22, 23, 24, 25, 26, 27, 28, 29, 30, 31, 32, 33, 34, 35, 36, 16, 37, 38, 39, 40, 41, 3, 4, 6, 61, 62, 63, 64, 65, 66, 67, 68, 69, 70, 71, 72, 73, 74, 51, 52, 53, 54, 55, 56, 57, 58, 59, 60, 75, 76, 77] (by decide +kernel) (by decide +kernel)
set_option maxRecDepth 20000 in
theorem gX4_trace_X4_hear : GoodIn wsX4_trace (wsV RX4 44 RX4 yX4_hear wsX4_hear) := goodIn_app (goodIn_of _ (by decide +kernel)) ggX4_trace_X4_hear
set_option maxRecDepth 20000 in
theorem ggX4_trace_X4_nextSpot : GoodIn wsX4_trace wsX4_nextSpot := goodIn_r _ [45, 3, 6, 51, 52, 53, 54, 55, 56, 57, 58, 59, 60] (by decide +kernel) (by decide +kernel)
set_option maxRecDepth 20000 in
theorem gX4_trace_X4_nextSpot : GoodIn wsX4_trace (wsV RX4 48 RX4 yX4_nextSpot wsX4_nextSpot) := goodIn_app (goodIn_of _ (by decide +kernel)) ggX4_trace_X4_nextSpot
set_option maxRecDepth 20000 in
theorem ggX4_trace_X2_isMember : GoodIn wsX4_trace wsX2_isMember := goodIn_r _ [28, 29, 61, 62, 63, 64, 65, 66, 67, 68, 69, 70, 71, 72, 73, 74] (by decide +kernel) (by decide +kernel)
set_option maxRecDepth 20000 in
theorem gX4_trace_X2_isMember : GoodIn wsX4_trace (wsV RX4 52 RX2 yX2_isMember wsX2_isMember) := goodIn_app (goodIn_of _ (by decide +kernel)) ggX4_trace_X2_isMember
set_option maxRecDepth 20000 in
theorem ggX4_trace_X2_hasMemberNearer : GoodIn wsX4_trace wsX2_hasMemberNearer := goodIn_r _ [49, 50, 61, 62, 63, 64, 65, 66, 67, 68, 69, 70, 71, 72, 73, 74] (by decide +kernel) (by decide +kernel)
set_option maxRecDepth 20000 in
theorem gX4_trace_X2_hasMemberNearer : GoodIn wsX4_trace (wsV RX4 64 RX2 yX2_hasMemberNearer wsX2_hasMemberNearer) := goodIn_app (goodIn_of _ (by decide +kernel)) ggX4_trace_X2_hasMemberNearer
theorem dX4_trace_0 : decode cX4_trace 0 = .ok (.aload_n 0, 1) := by decide +kernel
theorem dX4_trace_1 : decode cX4_trace 1 = .ok (.iconst 0, 1) := by decide +kernel
theorem dX4_trace_2 : decode cX4_trace 2 = .ok (.putfield 15, 3) := by decide +kernel
theorem dX4_trace_5 : decode cX4_trace 5 = .ok (.aload_n 0, 1) := by decide +kernel
theorem dX4_trace_6 : decode cX4_trace 6 = .ok (.iconst 0, 1) := by decide +kernel
theorem dX4_trace_7 : decode cX4_trace 7 = .ok (.putfield 19, 3) := by decide +kernel
theorem dX4_trace_10 : decode cX4_trace 10 = .ok (.aload_n 0, 1) := by decide +kernel
theorem dX4_trace_11 : decode cX4_trace 11 = .ok (.iconst 0, 1) := by decide +kernel
theorem dX4_trace_12 : decode cX4_trace 12 = .ok (.putfield 41, 3) := by decide +kernel
theorem dX4_trace_15 : decode cX4_trace 15 = .ok (.iload_n 2, 1) := by decide +kernel
theorem dX4_trace_16 : decode cX4_trace 16 = .ok (.iload_n 3, 1) := by decide +kernel
theorem dX4_trace_17 : decode cX4_trace 17 = .ok (.ixor, 1) := by decide +kernel
theorem dX4_trace_18 : decode cX4_trace 18 = .ok (.istore 4, 2) := by decide +kernel
theorem dX4_trace_20 : decode cX4_trace 20 = .ok (.aload_n 0, 1) := by decide +kernel
theorem dX4_trace_21 : decode cX4_trace 21 = .ok (.aload_n 1, 1) := by decide +kernel
theorem dX4_trace_22 : decode cX4_trace 22 = .ok (.iload_n 2, 1) := by decide +kernel
theorem dX4_trace_23 : decode cX4_trace 23 = .ok (.iload_n 2, 1) := by decide +kernel
theorem dX4_trace_24 : decode cX4_trace 24 = .ok (.iload_n 3, 1) := by decide +kernel
theorem dX4_trace_25 : decode cX4_trace 25 = .ok (.invokevirtual 44, 3) := by decide +kernel
theorem dX4_trace_28 : decode cX4_trace 28 = .ok (.iconst 0, 1) := by decide +kernel
theorem dX4_trace_29 : decode cX4_trace 29 = .ok (.istore 5, 2) := by decide +kernel
theorem dX4_trace_31 : decode cX4_trace 31 = .ok (.iload 5, 2) := by decide +kernel
theorem dX4_trace_33 : decode cX4_trace 33 = .ok (.bipush 12, 2) := by decide +kernel
theorem dX4_trace_35 : decode cX4_trace 35 = .ok (.if_icmp .ge 114, 3) := by decide +kernel
theorem dX4_trace_38 : decode cX4_trace 38 = .ok (.aload_n 0, 1) := by decide +kernel
theorem dX4_trace_39 : decode cX4_trace 39 = .ok (.invokevirtual 48, 3) := by decide +kernel
theorem dX4_trace_42 : decode cX4_trace 42 = .ok (.istore 6, 2) := by decide +kernel
theorem dX4_trace_44 : decode cX4_trace 44 = .ok (.iload 6, 2) := by decide +kernel
theorem dX4_trace_46 : decode cX4_trace 46 = .ok (.iconst (-1), 1) := by decide +kernel
theorem dX4_trace_47 : decode cX4_trace 47 = .ok (.if_icmp .ne 6, 3) := by decide +kernel
theorem dX4_trace_50 : decode cX4_trace 50 = .ok (.goto 99, 3) := by decide +kernel
theorem dX4_trace_53 : decode cX4_trace 53 = .ok (.aload_n 0, 1) := by decide +kernel
theorem dX4_trace_54 : decode cX4_trace 54 = .ok (.getfield 35, 3) := by decide +kernel
theorem dX4_trace_57 : decode cX4_trace 57 = .ok (.iload 6, 2) := by decide +kernel
theorem dX4_trace_59 : decode cX4_trace 59 = .ok (.iaload, 1) := by decide +kernel
theorem dX4_trace_60 : decode cX4_trace 60 = .ok (.istore 7, 2) := by decide +kernel
theorem dX4_trace_62 : decode cX4_trace 62 = .ok (.iload 7, 2) := by decide +kernel
theorem dX4_trace_64 : decode cX4_trace 64 = .ok (.iload_n 3, 1) := by decide +kernel
theorem dX4_trace_65 : decode cX4_trace 65 = .ok (.ixor, 1) := by decide +kernel
theorem dX4_trace_66 : decode cX4_trace 66 = .ok (.istore 8, 2) := by decide +kernel
