set_option maxRecDepth 20000 in
theorem ggX0_fewestToes_X6_become : GoodIn wsX0_fewestToes wsX6_become := goodIn_r _ [5, 6, 7, 8, 9, 10, 11, 12, 13, 14, 15, 16, 17, 18, 19, 20, 72, 73, 74, 75, 76, 77, 78, 79, 80, 81, 82, 83] (by decide +kernel) (by decide +kernel)
set_option maxRecDepth 20000 in
theorem gX0_fewestToes_X6_become : GoodIn wsX0_fewestToes (wsV RX0 13 RX6 yX6_become wsX6_become) := goodIn_app (goodIn_of _ (by decide +kernel)) ggX0_fewestToes_X6_become
set_option maxRecDepth 20000 in
theorem ggX0_fewestToes_X6_changeToes : GoodIn wsX0_fewestToes wsX6_changeToes := goodIn_r _ [24, 10, 25, 26, 27, 4, 28, 29, 19, 30, 31, 32, 72, 73, 74, 75, 76, 77, 78, 79, 80, 81, 82, 83] (by decide +kernel) (by decide +kernel)
set_option maxRecDepth 20000 in
theorem gX0_fewestToes_X6_changeToes : GoodIn wsX0_fewestToes (wsV RX0 19 RX6 yX6_changeToes wsX6_changeToes) := goodIn_app (goodIn_of _ (by decide +kernel)) ggX0_fewestToes_X6_changeToes
set_option maxRecDepth 20000 in
theorem ggX0_fewestToes_X6_knownBits : GoodIn wsX0_fewestToes wsX6_knownBits := goodIn_r _ [36, 13, 37, 38, 39, 4, 40, 17, 41, 19, 42, 43, 44, 45, 46, 14, 29, 30, 47, 48, 49, 50, 15, 7, 8, 9, 51, 52, 53, 54, 12, 11, 55, 56, 57, 58, 10, 6, 59, 60, 61, 62, 63, 64, 65, 66, 67, 68, 69, 70, 71, 72, 73, 74, 75, 76, 77, 78, 79, 80, 81, 82, 83] (by decide +kernel) (by decide +kernel)
set_option maxRecDepth 20000 in
theorem gX0_fewestToes_X6_knownBits : GoodIn wsX0_fewestToes (wsV RX0 23 RX6 yX6_knownBits wsX6_knownBits) := goodIn_app (goodIn_of _ (by decide +kernel)) ggX0_fewestToes_X6_knownBits
set_option maxRecDepth 20000 in
theorem ggX0_fewestToes_X7_has : GoodIn wsX0_fewestToes wsX7_has := goodIn_r _ [42] (by decide +kernel) (by decide +kernel)
set_option maxRecDepth 20000 in
theorem gX0_fewestToes_X7_has_n27 : GoodIn wsX0_fewestToes (wsX7_has) := ggX0_fewestToes_X7_has
theorem dX0_fewestToes_0 : decode cX0_fewestToes 0 = .ok (.getstatic 9, 3) := by decide +kernel
theorem dX0_fewestToes_3 : decode cX0_fewestToes 3 = .ok (.astore_n 3, 1) := by decide +kernel
theorem dX0_fewestToes_4 : decode cX0_fewestToes 4 = .ok (.aload_n 3, 1) := by decide +kernel
theorem dX0_fewestToes_5 : decode cX0_fewestToes 5 = .ok (.arraylength, 1) := by decide +kernel
theorem dX0_fewestToes_6 : decode cX0_fewestToes 6 = .ok (.istore 4, 2) := by decide +kernel
theorem dX0_fewestToes_8 : decode cX0_fewestToes 8 = .ok (.iconst 0, 1) := by decide +kernel
theorem dX0_fewestToes_9 : decode cX0_fewestToes 9 = .ok (.istore 5, 2) := by decide +kernel
theorem dX0_fewestToes_11 : decode cX0_fewestToes 11 = .ok (.iload 5, 2) := by decide +kernel
theorem dX0_fewestToes_13 : decode cX0_fewestToes 13 = .ok (.iload 4, 2) := by decide +kernel
theorem dX0_fewestToes_15 : decode cX0_fewestToes 15 = .ok (.if_icmp .ge 41, 3) := by decide +kernel
theorem dX0_fewestToes_18 : decode cX0_fewestToes 18 = .ok (.aload_n 3, 1) := by decide +kernel
theorem dX0_fewestToes_19 : decode cX0_fewestToes 19 = .ok (.iload 5, 2) := by decide +kernel
theorem dX0_fewestToes_21 : decode cX0_fewestToes 21 = .ok (.iaload, 1) := by decide +kernel
theorem dX0_fewestToes_22 : decode cX0_fewestToes 22 = .ok (.istore 6, 2) := by decide +kernel
theorem dX0_fewestToes_24 : decode cX0_fewestToes 24 = .ok (.aload_n 1, 1) := by decide +kernel
theorem dX0_fewestToes_25 : decode cX0_fewestToes 25 = .ok (.aload_n 0, 1) := by decide +kernel
theorem dX0_fewestToes_26 : decode cX0_fewestToes 26 = .ok (.invokevirtual 13, 3) := by decide +kernel
theorem dX0_fewestToes_29 : decode cX0_fewestToes 29 = .ok (.aload_n 1, 1) := by decide +kernel
theorem dX0_fewestToes_30 : decode cX0_fewestToes 30 = .ok (.iload_n 2, 1) := by decide +kernel
theorem dX0_fewestToes_31 : decode cX0_fewestToes 31 = .ok (.iload 6, 2) := by decide +kernel
theorem dX0_fewestToes_33 : decode cX0_fewestToes 33 = .ok (.invokevirtual 19, 3) := by decide +kernel
theorem dX0_fewestToes_36 : decode cX0_fewestToes 36 = .ok (.aload_n 1, 1) := by decide +kernel
theorem dX0_fewestToes_37 : decode cX0_fewestToes 37 = .ok (.invokevirtual 23, 3) := by decide +kernel
theorem dX0_fewestToes_40 : decode cX0_fewestToes 40 = .ok (.iload_n 2, 1) := by decide +kernel
theorem dX0_fewestToes_41 : decode cX0_fewestToes 41 = .ok (.invokestatic 27, 3) := by decide +kernel
theorem dX0_fewestToes_44 : decode cX0_fewestToes 44 = .ok (.ifCond .ne 6, 3) := by decide +kernel
theorem dX0_fewestToes_47 : decode cX0_fewestToes 47 = .ok (.iload 6, 2) := by decide +kernel
theorem dX0_fewestToes_49 : decode cX0_fewestToes 49 = .ok (.ireturn, 1) := by decide +kernel
theorem dX0_fewestToes_50 : decode cX0_fewestToes 50 = .ok (.iinc 5 1, 3) := by decide +kernel
theorem dX0_fewestToes_53 : decode cX0_fewestToes 53 = .ok (.goto (-42), 3) := by decide +kernel
theorem dX0_fewestToes_56 : decode cX0_fewestToes 56 = .ok (.bipush (-9), 2) := by decide +kernel
theorem dX0_fewestToes_58 : decode cX0_fewestToes 58 = .ok (.ireturn, 1) := by decide +kernel
set_option maxRecDepth 20000 in
theorem ggX0_fewestForgotten_X6_lookOf : GoodIn wsX0_fewestForgotten wsX6_lookOf := goodIn_r _ [5, 6, 7, 8, 9, 45, 46, 47, 48, 49, 50, 51, 52, 53, 54, 55, 56] (by decide +kernel) (by decide +kernel)
set_option maxRecDepth 20000 in
theorem gX0_fewestForgotten_X6_lookOf : GoodIn wsX0_fewestForgotten (wsV RX0 31 RX6 yX6_lookOf wsX6_lookOf) := goodIn_app (goodIn_of _ (by decide +kernel)) ggX0_fewestForgotten_X6_lookOf
set_option maxRecDepth 20000 in
theorem ggX0_fewestForgotten_X6_guessesBy : GoodIn wsX0_fewestForgotten wsX6_guessesBy := goodIn_r _ [13, 14, 15, 16, 17, 7, 8, 9, 18, 19, 20, 4, 21, 22, 23, 24, 25, 26, 27, 28, 29, 30, 31, 45, 46, 47, 48, 49, 50, 51, 52, 53, 54, 55, 56] (by decide +kernel) (by decide +kernel)
set_option maxRecDepth 20000 in
theorem gX0_fewestForgotten_X6_guessesBy : GoodIn wsX0_fewestForgotten (wsV RX0 35 RX6 yX6_guessesBy wsX6_guessesBy) := goodIn_app (goodIn_of _ (by decide +kernel)) ggX0_fewestForgotten_X6_guessesBy
set_option maxRecDepth 20000 in
theorem ggX0_fewestForgotten_X7_onlyOne : GoodIn wsX0_fewestForgotten wsX7_onlyOne := goodIn_r _ [33, 34, 35, 36, 37, 38, 39, 40, 41, 42, 8, 43, 44, 24, 25] (by decide +kernel) (by decide +kernel)
set_option maxRecDepth 20000 in
theorem gX0_fewestForgotten_X7_onlyOne_n39 : GoodIn wsX0_fewestForgotten (wsX7_onlyOne) := ggX0_fewestForgotten_X7_onlyOne
theorem dX0_fewestForgotten_0 : decode cX0_fewestForgotten 0 = .ok (.aload_n 0, 1) := by decide +kernel
theorem dX0_fewestForgotten_1 : decode cX0_fewestForgotten 1 = .ok (.iload_n 1, 1) := by decide +kernel
theorem dX0_fewestForgotten_2 : decode cX0_fewestForgotten 2 = .ok (.invokevirtual 31, 3) := by decide +kernel
theorem dX0_fewestForgotten_5 : decode cX0_fewestForgotten 5 = .ok (.istore_n 2, 1) := by decide +kernel
theorem dX0_fewestForgotten_6 : decode cX0_fewestForgotten 6 = .ok (.getstatic 9, 3) := by decide +kernel
theorem dX0_fewestForgotten_9 : decode cX0_fewestForgotten 9 = .ok (.astore_n 3, 1) := by decide +kernel
theorem dX0_fewestForgotten_10 : decode cX0_fewestForgotten 10 = .ok (.aload_n 3, 1) := by decide +kernel
theorem dX0_fewestForgotten_11 : decode cX0_fewestForgotten 11 = .ok (.arraylength, 1) := by decide +kernel
theorem dX0_fewestForgotten_12 : decode cX0_fewestForgotten 12 = .ok (.istore 4, 2) := by decide +kernel
theorem dX0_fewestForgotten_14 : decode cX0_fewestForgotten 14 = .ok (.iconst 0, 1) := by decide +kernel
theorem dX0_fewestForgotten_15 : decode cX0_fewestForgotten 15 = .ok (.istore 5, 2) := by decide +kernel
theorem dX0_fewestForgotten_17 : decode cX0_fewestForgotten 17 = .ok (.iload 5, 2) := by decide +kernel
theorem dX0_fewestForgotten_19 : decode cX0_fewestForgotten 19 = .ok (.iload 4, 2) := by decide +kernel
theorem dX0_fewestForgotten_21 : decode cX0_fewestForgotten 21 = .ok (.if_icmp .ge 59, 3) := by decide +kernel
theorem dX0_fewestForgotten_24 : decode cX0_fewestForgotten 24 = .ok (.aload_n 3, 1) := by decide +kernel
theorem dX0_fewestForgotten_25 : decode cX0_fewestForgotten 25 = .ok (.iload 5, 2) := by decide +kernel
theorem dX0_fewestForgotten_27 : decode cX0_fewestForgotten 27 = .ok (.iaload, 1) := by decide +kernel
theorem dX0_fewestForgotten_28 : decode cX0_fewestForgotten 28 = .ok (.istore 6, 2) := by decide +kernel
theorem dX0_fewestForgotten_30 : decode cX0_fewestForgotten 30 = .ok (.iload 6, 2) := by decide +kernel
theorem dX0_fewestForgotten_32 : decode cX0_fewestForgotten 32 = .ok (.iload_n 2, 1) := by decide +kernel
theorem dX0_fewestForgotten_33 : decode cX0_fewestForgotten 33 = .ok (.iconst (-1), 1) := by decide +kernel
theorem dX0_fewestForgotten_34 : decode cX0_fewestForgotten 34 = .ok (.ixor, 1) := by decide +kernel
theorem dX0_fewestForgotten_35 : decode cX0_fewestForgotten 35 = .ok (.iand, 1) := by decide +kernel
theorem dX0_fewestForgotten_36 : decode cX0_fewestForgotten 36 = .ok (.ifCond .ne 7, 3) := by decide +kernel
theorem dX0_fewestForgotten_39 : decode cX0_fewestForgotten 39 = .ok (.iconst 1, 1) := by decide +kernel
theorem dX0_fewestForgotten_40 : decode cX0_fewestForgotten 40 = .ok (.goto 4, 3) := by decide +kernel
theorem dX0_fewestForgotten_43 : decode cX0_fewestForgotten 43 = .ok (.iconst 0, 1) := by decide +kernel
theorem dX0_fewestForgotten_44 : decode cX0_fewestForgotten 44 = .ok (.istore 7, 2) := by decide +kernel
theorem dX0_fewestForgotten_46 : decode cX0_fewestForgotten 46 = .ok (.iload 7, 2) := by decide +kernel
theorem dX0_fewestForgotten_48 : decode cX0_fewestForgotten 48 = .ok (.ifCond .eq 26, 3) := by decide +kernel
theorem dX0_fewestForgotten_51 : decode cX0_fewestForgotten 51 = .ok (.aload_n 0, 1) := by decide +kernel
theorem dX0_fewestForgotten_52 : decode cX0_fewestForgotten 52 = .ok (.iload_n 1, 1) := by decide +kernel
theorem dX0_fewestForgotten_53 : decode cX0_fewestForgotten 53 = .ok (.iload_n 2, 1) := by decide +kernel
theorem dX0_fewestForgotten_54 : decode cX0_fewestForgotten 54 = .ok (.iload 6, 2) := by decide +kernel
theorem dX0_fewestForgotten_56 : decode cX0_fewestForgotten 56 = .ok (.iconst (-1), 1) := by decide +kernel
theorem dX0_fewestForgotten_57 : decode cX0_fewestForgotten 57 = .ok (.ixor, 1) := by decide +kernel
theorem dX0_fewestForgotten_58 : decode cX0_fewestForgotten 58 = .ok (.iand, 1) := by decide +kernel
theorem dX0_fewestForgotten_59 : decode cX0_fewestForgotten 59 = .ok (.iconst 0, 1) := by decide +kernel
theorem dX0_fewestForgotten_60 : decode cX0_fewestForgotten 60 = .ok (.invokevirtual 35, 3) := by decide +kernel
theorem dX0_fewestForgotten_63 : decode cX0_fewestForgotten 63 = .ok (.invokestatic 39, 3) := by decide +kernel
theorem dX0_fewestForgotten_66 : decode cX0_fewestForgotten 66 = .ok (.bipush (-9), 2) := by decide +kernel
theorem dX0_fewestForgotten_68 : decode cX0_fewestForgotten 68 = .ok (.if_icmp .ne 6, 3) := by decide +kernel
theorem dX0_fewestForgotten_71 : decode cX0_fewestForgotten 71 = .ok (.iload 6, 2) := by decide +kernel
theorem dX0_fewestForgotten_73 : decode cX0_fewestForgotten 73 = .ok (.ireturn, 1) := by decide +kernel
theorem dX0_fewestForgotten_74 : decode cX0_fewestForgotten 74 = .ok (.iinc 5 1, 3) := by decide +kernel
theorem dX0_fewestForgotten_77 : decode cX0_fewestForgotten 77 = .ok (.goto (-60), 3) := by decide +kernel
theorem dX0_fewestForgotten_80 : decode cX0_fewestForgotten 80 = .ok (.bipush (-9), 2) := by decide +kernel
theorem dX0_fewestForgotten_82 : decode cX0_fewestForgotten 82 = .ok (.ireturn, 1) := by decide +kernel
set_option maxRecDepth 20000 in
theorem ggX0_bestAway_X6_knownBits : GoodIn wsX0_bestAway wsX6_knownBits := goodIn_r _ [6, 7, 8, 9, 10, 5, 11, 12, 13, 14, 15, 16, 17, 18, 19, 20, 21, 22, 23, 24, 25, 26, 27, 28, 29, 30, 31, 32, 33, 34, 35, 36, 37, 38, 39, 40, 41, 42, 43, 44, 45, 46, 47, 48, 49, 50, 51, 52, 53, 54, 55, 78, 79, 80, 81, 82, 83, 84, 85, 86, 87, 88, 89] (by decide +kernel) (by decide +kernel)
set_option maxRecDepth 20000 in
theorem gX0_bestAway_X6_knownBits : GoodIn wsX0_bestAway (wsV RX0 23 RX6 yX6_knownBits wsX6_knownBits) := goodIn_app (goodIn_of _ (by decide +kernel)) ggX0_bestAway_X6_knownBits
set_option maxRecDepth 20000 in
theorem ggX0_bestAway_J6_bitCount_0f7a4 : GoodIn wsX0_bestAway wsJ6_bitCount_0f7a4 := goodIn_r _ [48, 49, 50, 51] (by decide +kernel) (by decide +kernel)
set_option maxRecDepth 20000 in
theorem gX0_bestAway_J6_bitCount_0f7a4 : GoodIn wsX0_bestAway (va_wsS RX0 42 yJ6_bitCount_0f7a4 wsJ6_bitCount_0f7a4) := goodIn_app (goodIn_of _ (by decide +kernel)) ggX0_bestAway_J6_bitCount_0f7a4
set_option maxRecDepth 20000 in
theorem ggX0_bestAway_X6_isHere : GoodIn wsX0_bestAway wsX6_isHere := goodIn_r _ [60, 61, 62, 63, 5, 64, 35, 36, 13, 14, 15, 21, 22, 78, 79, 80, 81, 82, 83, 84, 85, 86, 87, 88, 89] (by decide +kernel) (by decide +kernel)
set_option maxRecDepth 20000 in
theorem gX0_bestAway_X6_isHere : GoodIn wsX0_bestAway (wsV RX0 51 RX6 yX6_isHere wsX6_isHere) := goodIn_app (goodIn_of _ (by decide +kernel)) ggX0_bestAway_X6_isHere
set_option maxRecDepth 20000 in
theorem ggX0_bestAway_X6_become : GoodIn wsX0_bestAway wsX6_become := goodIn_r _ [68, 42, 28, 29, 30, 41, 36, 35, 7, 20, 27, 69, 12, 70, 14, 71, 78, 79, 80, 81, 82, 83, 84, 85, 86, 87, 88, 89] (by decide +kernel) (by decide +kernel)
set_option maxRecDepth 20000 in
theorem gX0_bestAway_X6_become : GoodIn wsX0_bestAway (wsV RX0 13 RX6 yX6_become wsX6_become) := goodIn_app (goodIn_of _ (by decide +kernel)) ggX0_bestAway_X6_become
set_option maxRecDepth 20000 in
theorem ggX0_bestAway_X6_sendHome : GoodIn wsX0_bestAway wsX6_sendHome := goodIn_r _ [75, 36, 76, 14, 77, 78, 79, 80, 81, 82, 83, 84, 85, 86, 87, 88, 89] (by decide +kernel) (by decide +kernel)
set_option maxRecDepth 20000 in
theorem gX0_bestAway_X6_sendHome : GoodIn wsX0_bestAway (wsV RX0 55 RX6 yX6_sendHome wsX6_sendHome) := goodIn_app (goodIn_of _ (by decide +kernel)) ggX0_bestAway_X6_sendHome
theorem dX0_bestAway_0 : decode cX0_bestAway 0 = .ok (.aload_n 0, 1) := by decide +kernel
theorem dX0_bestAway_1 : decode cX0_bestAway 1 = .ok (.invokevirtual 23, 3) := by decide +kernel
theorem dX0_bestAway_4 : decode cX0_bestAway 4 = .ok (.invokestatic 42, 3) := by decide +kernel
theorem dX0_bestAway_7 : decode cX0_bestAway 7 = .ok (.istore_n 2, 1) := by decide +kernel
theorem dX0_bestAway_8 : decode cX0_bestAway 8 = .ok (.bipush (-9), 2) := by decide +kernel
theorem dX0_bestAway_10 : decode cX0_bestAway 10 = .ok (.istore_n 3, 1) := by decide +kernel
theorem dX0_bestAway_11 : decode cX0_bestAway 11 = .ok (.iconst 0, 1) := by decide +kernel
theorem dX0_bestAway_12 : decode cX0_bestAway 12 = .ok (.istore 4, 2) := by decide +kernel
theorem dX0_bestAway_14 : decode cX0_bestAway 14 = .ok (.iload 4, 2) := by decide +kernel
theorem dX0_bestAway_16 : decode cX0_bestAway 16 = .ok (.aload_n 0, 1) := by decide +kernel
theorem dX0_bestAway_17 : decode cX0_bestAway 17 = .ok (.getfield 47, 3) := by decide +kernel
theorem dX0_bestAway_20 : decode cX0_bestAway 20 = .ok (.if_icmp .ge 51, 3) := by decide +kernel
theorem dX0_bestAway_23 : decode cX0_bestAway 23 = .ok (.aload_n 0, 1) := by decide +kernel
theorem dX0_bestAway_24 : decode cX0_bestAway 24 = .ok (.iload 4, 2) := by decide +kernel
theorem dX0_bestAway_26 : decode cX0_bestAway 26 = .ok (.invokevirtual 51, 3) := by decide +kernel
theorem dX0_bestAway_29 : decode cX0_bestAway 29 = .ok (.ifCond .eq 36, 3) := by decide +kernel
theorem dX0_bestAway_32 : decode cX0_bestAway 32 = .ok (.aload_n 1, 1) := by decide +kernel
theorem dX0_bestAway_33 : decode cX0_bestAway 33 = .ok (.aload_n 0, 1) := by decide +kernel
theorem dX0_bestAway_34 : decode cX0_bestAway 34 = .ok (.invokevirtual 13, 3) := by decide +kernel
theorem dX0_bestAway_37 : decode cX0_bestAway 37 = .ok (.aload_n 1, 1) := by decide +kernel
theorem dX0_bestAway_38 : decode cX0_bestAway 38 = .ok (.iload 4, 2) := by decide +kernel
theorem dX0_bestAway_40 : decode cX0_bestAway 40 = .ok (.iconst 1, 1) := by decide +kernel
theorem dX0_bestAway_41 : decode cX0_bestAway 41 = .ok (.invokevirtual 55, 3) := by decide +kernel
theorem dX0_bestAway_44 : decode cX0_bestAway 44 = .ok (.aload_n 1, 1) := by decide +kernel
theorem dX0_bestAway_45 : decode cX0_bestAway 45 = .ok (.invokevirtual 23, 3) := by decide +kernel
theorem dX0_bestAway_48 : decode cX0_bestAway 48 = .ok (.invokestatic 42, 3) := by decide +kernel
theorem dX0_bestAway_51 : decode cX0_bestAway 51 = .ok (.istore 5, 2) := by decide +kernel
theorem dX0_bestAway_53 : decode cX0_bestAway 53 = .ok (.iload 5, 2) := by decide +kernel
theorem dX0_bestAway_55 : decode cX0_bestAway 55 = .ok (.iload_n 2, 1) := by decide +kernel
theorem dX0_bestAway_56 : decode cX0_bestAway 56 = .ok (.if_icmp .ge 9, 3) := by decide +kernel
theorem dX0_bestAway_59 : decode cX0_bestAway 59 = .ok (.iload 5, 2) := by decide +kernel
theorem dX0_bestAway_61 : decode cX0_bestAway 61 = .ok (.istore_n 2, 1) := by decide +kernel
theorem dX0_bestAway_62 : decode cX0_bestAway 62 = .ok (.iload 4, 2) := by decide +kernel
theorem dX0_bestAway_64 : decode cX0_bestAway 64 = .ok (.istore_n 3, 1) := by decide +kernel
theorem dX0_bestAway_65 : decode cX0_bestAway 65 = .ok (.iinc 4 1, 3) := by decide +kernel
theorem dX0_bestAway_68 : decode cX0_bestAway 68 = .ok (.goto (-54), 3) := by decide +kernel
theorem dX0_bestAway_71 : decode cX0_bestAway 71 = .ok (.iload_n 3, 1) := by decide +kernel
theorem dX0_bestAway_72 : decode cX0_bestAway 72 = .ok (.ireturn, 1) := by decide +kernel
set_option maxRecDepth 20000 in
theorem ggX0_firstRest_X0_change : GoodIn wsX0_firstRest wsX0_change := goodIn_r _ [4, 5, 6, 7, 8, 9, 10, 11, 12, 13, 14, 15, 16, 17, 18, 19, 20, 21, 22, 23, 24, 25, 26, 27, 28, 29, 30, 31, 32, 33, 34, 35, 36, 76, 77, 78, 79, 80, 81, 82, 83, 84, 85, 86, 87] (by decide +kernel) (by decide +kernel)
set_option maxRecDepth 20000 in
theorem gX0_firstRest_X0_change : GoodIn wsX0_firstRest (va_wsS RX0 58 yX0_change wsX0_change) := goodIn_app (goodIn_of _ (by decide +kernel)) ggX0_firstRest_X0_change
set_option maxRecDepth 20000 in
theorem ggX0_firstRest_X0_costOf : GoodIn wsX0_firstRest wsX0_costOf := goodIn_r _ [39, 40, 41, 42, 43, 8, 44, 21, 45, 23, 46, 47, 48, 49, 50, 18, 33, 34, 51, 52, 53, 54, 19, 11, 12, 13, 55, 56, 57, 58, 16, 15, 59, 60, 61, 62, 14, 10, 63, 64, 65, 66, 67, 68, 69, 70, 71, 72, 73, 74, 75, 76, 77, 78, 79, 80, 81, 82, 83, 84, 85, 86, 87] (by decide +kernel) (by decide +kernel)
set_option maxRecDepth 20000 in
theorem gX0_firstRest_X0_costOf : GoodIn wsX0_firstRest (va_wsS RX0 64 yX0_costOf wsX0_costOf) := goodIn_app (goodIn_of _ (by decide +kernel)) ggX0_firstRest_X0_costOf
theorem dX0_firstRest_0 : decode cX0_firstRest 0 = .ok (.iconst 0, 1) := by decide +kernel
theorem dX0_firstRest_1 : decode cX0_firstRest 1 = .ok (.istore 4, 2) := by decide +kernel
theorem dX0_firstRest_3 : decode cX0_firstRest 3 = .ok (.iload 4, 2) := by decide +kernel
theorem dX0_firstRest_5 : decode cX0_firstRest 5 = .ok (.iconst 1, 1) := by decide +kernel
theorem dX0_firstRest_6 : decode cX0_firstRest 6 = .ok (.if_icmp .gt 128, 3) := by decide +kernel
theorem dX0_firstRest_9 : decode cX0_firstRest 9 = .ok (.iconst 0, 1) := by decide +kernel
theorem dX0_firstRest_10 : decode cX0_firstRest 10 = .ok (.istore 5, 2) := by decide +kernel
theorem dX0_firstRest_12 : decode cX0_firstRest 12 = .ok (.iload 5, 2) := by decide +kernel
theorem dX0_firstRest_14 : decode cX0_firstRest 14 = .ok (.iconst 1, 1) := by decide +kernel
theorem dX0_firstRest_15 : decode cX0_firstRest 15 = .ok (.if_icmp .gt 113, 3) := by decide +kernel
theorem dX0_firstRest_18 : decode cX0_firstRest 18 = .ok (.aload_n 0, 1) := by decide +kernel
theorem dX0_firstRest_19 : decode cX0_firstRest 19 = .ok (.aload_n 1, 1) := by decide +kernel
theorem dX0_firstRest_20 : decode cX0_firstRest 20 = .ok (.iload_n 2, 1) := by decide +kernel
theorem dX0_firstRest_21 : decode cX0_firstRest 21 = .ok (.iload 4, 2) := by decide +kernel
theorem dX0_firstRest_23 : decode cX0_firstRest 23 = .ok (.iload_n 3, 1) := by decide +kernel
theorem dX0_firstRest_24 : decode cX0_firstRest 24 = .ok (.iload 5, 2) := by decide +kernel
theorem dX0_firstRest_26 : decode cX0_firstRest 26 = .ok (.invokestatic 58, 3) := by decide +kernel
theorem dX0_firstRest_29 : decode cX0_firstRest 29 = .ok (.aload_n 1, 1) := by decide +kernel
theorem dX0_firstRest_30 : decode cX0_firstRest 30 = .ok (.iload_n 2, 1) := by decide +kernel
theorem dX0_firstRest_31 : decode cX0_firstRest 31 = .ok (.invokestatic 64, 3) := by decide +kernel
theorem dX0_firstRest_34 : decode cX0_firstRest 34 = .ok (.istore 6, 2) := by decide +kernel
theorem dX0_firstRest_36 : decode cX0_firstRest 36 = .ok (.aload_n 1, 1) := by decide +kernel
theorem dX0_firstRest_37 : decode cX0_firstRest 37 = .ok (.iload_n 3, 1) := by decide +kernel
theorem dX0_firstRest_38 : decode cX0_firstRest 38 = .ok (.invokestatic 64, 3) := by decide +kernel
theorem dX0_firstRest_41 : decode cX0_firstRest 41 = .ok (.istore 7, 2) := by decide +kernel
theorem dX0_firstRest_43 : decode cX0_firstRest 43 = .ok (.aload_n 0, 1) := by decide +kernel
theorem dX0_firstRest_44 : decode cX0_firstRest 44 = .ok (.aload_n 1, 1) := by decide +kernel
theorem dX0_firstRest_45 : decode cX0_firstRest 45 = .ok (.iload_n 2, 1) := by decide +kernel
theorem dX0_firstRest_46 : decode cX0_firstRest 46 = .ok (.iconst 1, 1) := by decide +kernel
theorem dX0_firstRest_47 : decode cX0_firstRest 47 = .ok (.iload 4, 2) := by decide +kernel
theorem dX0_firstRest_49 : decode cX0_firstRest 49 = .ok (.isub, 1) := by decide +kernel
theorem dX0_firstRest_50 : decode cX0_firstRest 50 = .ok (.iload_n 3, 1) := by decide +kernel
theorem dX0_firstRest_51 : decode cX0_firstRest 51 = .ok (.iload 5, 2) := by decide +kernel
theorem dX0_firstRest_53 : decode cX0_firstRest 53 = .ok (.invokestatic 58, 3) := by decide +kernel
theorem dX0_firstRest_56 : decode cX0_firstRest 56 = .ok (.iload 6, 2) := by decide +kernel
theorem dX0_firstRest_58 : decode cX0_firstRest 58 = .ok (.aload_n 1, 1) := by decide +kernel
theorem dX0_firstRest_59 : decode cX0_firstRest 59 = .ok (.iload_n 2, 1) := by decide +kernel
theorem dX0_firstRest_60 : decode cX0_firstRest 60 = .ok (.invokestatic 64, 3) := by decide +kernel
theorem dX0_firstRest_63 : decode cX0_firstRest 63 = .ok (.if_icmp .gt 7, 3) := by decide +kernel
theorem dX0_firstRest_66 : decode cX0_firstRest 66 = .ok (.iconst 1, 1) := by decide +kernel
theorem dX0_firstRest_67 : decode cX0_firstRest 67 = .ok (.goto 4, 3) := by decide +kernel
theorem dX0_firstRest_70 : decode cX0_firstRest 70 = .ok (.iconst 0, 1) := by decide +kernel
theorem dX0_firstRest_71 : decode cX0_firstRest 71 = .ok (.istore 8, 2) := by decide +kernel
theorem dX0_firstRest_73 : decode cX0_firstRest 73 = .ok (.aload_n 0, 1) := by decide +kernel
theorem dX0_firstRest_74 : decode cX0_firstRest 74 = .ok (.aload_n 1, 1) := by decide +kernel
theorem dX0_firstRest_75 : decode cX0_firstRest 75 = .ok (.iload_n 2, 1) := by decide +kernel
theorem dX0_firstRest_76 : decode cX0_firstRest 76 = .ok (.iload 4, 2) := by decide +kernel
theorem dX0_firstRest_78 : decode cX0_firstRest 78 = .ok (.iload_n 3, 1) := by decide +kernel
theorem dX0_firstRest_79 : decode cX0_firstRest 79 = .ok (.iconst 1, 1) := by decide +kernel
theorem dX0_firstRest_80 : decode cX0_firstRest 80 = .ok (.iload 5, 2) := by decide +kernel
theorem dX0_firstRest_82 : decode cX0_firstRest 82 = .ok (.isub, 1) := by decide +kernel
theorem dX0_firstRest_83 : decode cX0_firstRest 83 = .ok (.invokestatic 58, 3) := by decide +kernel
theorem dX0_firstRest_86 : decode cX0_firstRest 86 = .ok (.iload 7, 2) := by decide +kernel
theorem dX0_firstRest_88 : decode cX0_firstRest 88 = .ok (.aload_n 1, 1) := by decide +kernel
theorem dX0_firstRest_89 : decode cX0_firstRest 89 = .ok (.iload_n 3, 1) := by decide +kernel
theorem dX0_firstRest_90 : decode cX0_firstRest 90 = .ok (.invokestatic 64, 3) := by decide +kernel
theorem dX0_firstRest_93 : decode cX0_firstRest 93 = .ok (.if_icmp .gt 7, 3) := by decide +kernel
theorem dX0_firstRest_96 : decode cX0_firstRest 96 = .ok (.iconst 1, 1) := by decide +kernel
theorem dX0_firstRest_97 : decode cX0_firstRest 97 = .ok (.goto 4, 3) := by decide +kernel
theorem dX0_firstRest_100 : decode cX0_firstRest 100 = .ok (.iconst 0, 1) := by decide +kernel
theorem dX0_firstRest_101 : decode cX0_firstRest 101 = .ok (.istore 9, 2) := by decide +kernel
theorem dX0_firstRest_103 : decode cX0_firstRest 103 = .ok (.iload 8, 2) := by decide +kernel
theorem dX0_firstRest_105 : decode cX0_firstRest 105 = .ok (.ifCond .eq 17, 3) := by decide +kernel
theorem dX0_firstRest_108 : decode cX0_firstRest 108 = .ok (.iload 9, 2) := by decide +kernel
theorem dX0_firstRest_110 : decode cX0_firstRest 110 = .ok (.ifCond .eq 12, 3) := by decide +kernel
theorem dX0_firstRest_113 : decode cX0_firstRest 113 = .ok (.bipush 10, 2) := by decide +kernel
theorem dX0_firstRest_115 : decode cX0_firstRest 115 = .ok (.iload 4, 2) := by decide +kernel
theorem dX0_firstRest_117 : decode cX0_firstRest 117 = .ok (.imul, 1) := by decide +kernel
theorem dX0_firstRest_118 : decode cX0_firstRest 118 = .ok (.iload 5, 2) := by decide +kernel
theorem dX0_firstRest_120 : decode cX0_firstRest 120 = .ok (.iadd, 1) := by decide +kernel
theorem dX0_firstRest_121 : decode cX0_firstRest 121 = .ok (.ireturn, 1) := by decide +kernel
theorem dX0_firstRest_122 : decode cX0_firstRest 122 = .ok (.iinc 5 1, 3) := by decide +kernel
theorem dX0_firstRest_125 : decode cX0_firstRest 125 = .ok (.goto (-113), 3) := by decide +kernel
theorem dX0_firstRest_128 : decode cX0_firstRest 128 = .ok (.iinc 4 1, 3) := by decide +kernel
theorem dX0_firstRest_131 : decode cX0_firstRest 131 = .ok (.goto (-128), 3) := by decide +kernel
theorem dX0_firstRest_134 : decode cX0_firstRest 134 = .ok (.bipush (-9), 2) := by decide +kernel
theorem dX0_firstRest_136 : decode cX0_firstRest 136 = .ok (.ireturn, 1) := by decide +kernel
set_option maxRecDepth 20000 in
theorem ggX0_change_X6_become : GoodIn wsX0_change wsX6_become := goodIn_r _ [5, 6, 7, 8, 9, 10, 11, 12, 13, 14, 15, 16, 17, 18, 19, 20, 33, 34, 35, 36, 37, 38, 39, 40, 41, 42, 43, 44] (by decide +kernel) (by decide +kernel)
set_option maxRecDepth 20000 in
theorem gX0_change_X6_become : GoodIn wsX0_change (wsV RX0 13 RX6 yX6_become wsX6_become) := goodIn_app (goodIn_of _ (by decide +kernel)) ggX0_change_X6_become
set_option maxRecDepth 20000 in
theorem ggX0_change_X6_changeToes : GoodIn wsX0_change wsX6_changeToes := goodIn_r _ [24, 10, 25, 26, 27, 4, 28, 29, 19, 30, 31, 32, 33, 34, 35, 36, 37, 38, 39, 40, 41, 42, 43, 44] (by decide +kernel) (by decide +kernel)
set_option maxRecDepth 20000 in
theorem gX0_change_X6_changeToes : GoodIn wsX0_change (wsV RX0 19 RX6 yX6_changeToes wsX6_changeToes) := goodIn_app (goodIn_of _ (by decide +kernel)) ggX0_change_X6_changeToes
theorem dX0_change_0 : decode cX0_change 0 = .ok (.aload_n 1, 1) := by decide +kernel
theorem dX0_change_1 : decode cX0_change 1 = .ok (.aload_n 0, 1) := by decide +kernel
theorem dX0_change_2 : decode cX0_change 2 = .ok (.invokevirtual 13, 3) := by decide +kernel
theorem dX0_change_5 : decode cX0_change 5 = .ok (.aload_n 1, 1) := by decide +kernel
theorem dX0_change_6 : decode cX0_change 6 = .ok (.iload_n 2, 1) := by decide +kernel
theorem dX0_change_7 : decode cX0_change 7 = .ok (.iload_n 3, 1) := by decide +kernel
theorem dX0_change_8 : decode cX0_change 8 = .ok (.invokevirtual 19, 3) := by decide +kernel
theorem dX0_change_11 : decode cX0_change 11 = .ok (.aload_n 1, 1) := by decide +kernel
theorem dX0_change_12 : decode cX0_change 12 = .ok (.iload 4, 2) := by decide +kernel
theorem dX0_change_14 : decode cX0_change 14 = .ok (.iload 5, 2) := by decide +kernel
theorem dX0_change_16 : decode cX0_change 16 = .ok (.invokevirtual 19, 3) := by decide +kernel
theorem dX0_change_19 : decode cX0_change 19 = .ok (.return_, 1) := by decide +kernel
set_option maxRecDepth 20000 in
theorem ggX0_costOf_X6_isUnmarried : GoodIn wsX0_costOf wsX6_isUnmarried := goodIn_r _ [6, 7, 8, 9, 10, 51, 52, 53, 54, 55, 56, 57, 58, 59, 60, 61, 62] (by decide +kernel) (by decide +kernel)
set_option maxRecDepth 20000 in
theorem gX0_costOf_X6_isUnmarried : GoodIn wsX0_costOf (wsV RX0 71 RX6 yX6_isUnmarried wsX6_isUnmarried) := goodIn_app (goodIn_of _ (by decide +kernel)) ggX0_costOf_X6_isUnmarried
set_option maxRecDepth 20000 in
theorem ggX0_costOf_X6_guesses : GoodIn wsX0_costOf wsX6_guesses := goodIn_r _ [14, 15, 16, 9, 17, 18, 19, 20, 5, 21, 22, 23, 24, 25, 26, 27, 28, 29, 30, 31, 8, 10, 32, 33, 34, 35, 36, 37, 51, 52, 53, 54, 55, 56, 57, 58, 59, 60, 61, 62] (by decide +kernel) (by decide +kernel)
set_option maxRecDepth 20000 in
theorem gX0_costOf_X6_guesses : GoodIn wsX0_costOf (wsV RX0 74 RX6 yX6_guesses wsX6_guesses) := goodIn_app (goodIn_of _ (by decide +kernel)) ggX0_costOf_X6_guesses
set_option maxRecDepth 20000 in
theorem ggX0_costOf_X7_onlyOne : GoodIn wsX0_costOf wsX7_onlyOne := goodIn_r _ [39, 40, 41, 42, 43, 44, 45, 46, 47, 48, 9, 49, 50, 8, 10] (by decide +kernel) (by decide +kernel)
set_option maxRecDepth 20000 in
theorem gX0_costOf_X7_onlyOne_n39 : GoodIn wsX0_costOf (wsX7_onlyOne) := ggX0_costOf_X7_onlyOne
set_option maxRecDepth 20000 in
theorem ggX0_costOf_X7_has : GoodIn wsX0_costOf wsX7_has := goodIn_r _ [10] (by decide +kernel) (by decide +kernel)
set_option maxRecDepth 20000 in
theorem gX0_costOf_X7_has_n27 : GoodIn wsX0_costOf (wsX7_has) := ggX0_costOf_X7_has
theorem dX0_costOf_0 : decode cX0_costOf 0 = .ok (.iconst 0, 1) := by decide +kernel
theorem dX0_costOf_1 : decode cX0_costOf 1 = .ok (.istore_n 2, 1) := by decide +kernel
theorem dX0_costOf_2 : decode cX0_costOf 2 = .ok (.iconst 0, 1) := by decide +kernel
theorem dX0_costOf_3 : decode cX0_costOf 3 = .ok (.istore_n 3, 1) := by decide +kernel
theorem dX0_costOf_4 : decode cX0_costOf 4 = .ok (.iload_n 3, 1) := by decide +kernel
theorem dX0_costOf_5 : decode cX0_costOf 5 = .ok (.aload_n 0, 1) := by decide +kernel
theorem dX0_costOf_6 : decode cX0_costOf 6 = .ok (.getfield 68, 3) := by decide +kernel
theorem dX0_costOf_9 : decode cX0_costOf 9 = .ok (.if_icmp .ge 53, 3) := by decide +kernel
theorem dX0_costOf_12 : decode cX0_costOf 12 = .ok (.aload_n 0, 1) := by decide +kernel
theorem dX0_costOf_13 : decode cX0_costOf 13 = .ok (.iload_n 3, 1) := by decide +kernel
theorem dX0_costOf_14 : decode cX0_costOf 14 = .ok (.invokevirtual 71, 3) := by decide +kernel
theorem dX0_costOf_17 : decode cX0_costOf 17 = .ok (.ifCond .eq 12, 3) := by decide +kernel
theorem dX0_costOf_20 : decode cX0_costOf 20 = .ok (.aload_n 0, 1) := by decide +kernel
theorem dX0_costOf_21 : decode cX0_costOf 21 = .ok (.iload_n 3, 1) := by decide +kernel
theorem dX0_costOf_22 : decode cX0_costOf 22 = .ok (.iconst 0, 1) := by decide +kernel
theorem dX0_costOf_23 : decode cX0_costOf 23 = .ok (.invokevirtual 74, 3) := by decide +kernel
theorem dX0_costOf_26 : decode cX0_costOf 26 = .ok (.goto 4, 3) := by decide +kernel
theorem dX0_costOf_29 : decode cX0_costOf 29 = .ok (.iconst 0, 1) := by decide +kernel
theorem dX0_costOf_30 : decode cX0_costOf 30 = .ok (.istore 4, 2) := by decide +kernel
theorem dX0_costOf_32 : decode cX0_costOf 32 = .ok (.iload 4, 2) := by decide +kernel
theorem dX0_costOf_34 : decode cX0_costOf 34 = .ok (.invokestatic 39, 3) := by decide +kernel
theorem dX0_costOf_37 : decode cX0_costOf 37 = .ok (.iload_n 1, 1) := by decide +kernel
theorem dX0_costOf_38 : decode cX0_costOf 38 = .ok (.if_icmp .ne 6, 3) := by decide +kernel
theorem dX0_costOf_41 : decode cX0_costOf 41 = .ok (.iinc 2 10, 3) := by decide +kernel
theorem dX0_costOf_44 : decode cX0_costOf 44 = .ok (.iload 4, 2) := by decide +kernel
theorem dX0_costOf_46 : decode cX0_costOf 46 = .ok (.iload_n 1, 1) := by decide +kernel
theorem dX0_costOf_47 : decode cX0_costOf 47 = .ok (.invokestatic 27, 3) := by decide +kernel
theorem dX0_costOf_50 : decode cX0_costOf 50 = .ok (.ifCond .eq 6, 3) := by decide +kernel
theorem dX0_costOf_53 : decode cX0_costOf 53 = .ok (.iinc 2 (-1), 3) := by decide +kernel
theorem dX0_costOf_56 : decode cX0_costOf 56 = .ok (.iinc 3 1, 3) := by decide +kernel
theorem dX0_costOf_59 : decode cX0_costOf 59 = .ok (.goto (-55), 3) := by decide +kernel
theorem dX0_costOf_62 : decode cX0_costOf 62 = .ok (.iload_n 2, 1) := by decide +kernel
theorem dX0_costOf_63 : decode cX0_costOf 63 = .ok (.ireturn, 1) := by decide +kernel
set_option maxRecDepth 20000 in
theorem ggX1_areAlike_X6_isHere : GoodIn wsX1_areAlike wsX6_isHere := goodIn_r _ [5, 6, 7, 8, 4, 9, 10, 11, 12, 13, 14, 15, 16, 29, 30, 31, 32, 33, 34, 35, 36, 37, 38, 39, 40] (by decide +kernel) (by decide +kernel)
set_option maxRecDepth 20000 in
theorem gX1_areAlike_X6_isHere : GoodIn wsX1_areAlike (wsV RX1 9 RX6 yX6_isHere wsX6_isHere) := goodIn_app (goodIn_of _ (by decide +kernel)) ggX1_areAlike_X6_isHere
set_option maxRecDepth 20000 in
theorem ggX1_areAlike_X6_shows : GoodIn wsX1_areAlike wsX6_shows := goodIn_r _ [20, 21, 22, 15, 13, 16, 23, 24, 25, 4, 26, 27, 28, 29, 30, 31, 32, 33, 34, 35, 36, 37, 38, 39, 40] (by decide +kernel) (by decide +kernel)
set_option maxRecDepth 20000 in
theorem gX1_areAlike_X6_shows : GoodIn wsX1_areAlike (wsV RX1 15 RX6 yX6_shows wsX6_shows) := goodIn_app (goodIn_of _ (by decide +kernel)) ggX1_areAlike_X6_shows
theorem dX1_areAlike_0 : decode cX1_areAlike 0 = .ok (.aload_n 0, 1) := by decide +kernel
theorem dX1_areAlike_1 : decode cX1_areAlike 1 = .ok (.iload_n 1, 1) := by decide +kernel
theorem dX1_areAlike_2 : decode cX1_areAlike 2 = .ok (.invokevirtual 9, 3) := by decide +kernel
theorem dX1_areAlike_5 : decode cX1_areAlike 5 = .ok (.ifCond .eq 34, 3) := by decide +kernel
theorem dX1_areAlike_8 : decode cX1_areAlike 8 = .ok (.aload_n 0, 1) := by decide +kernel
theorem dX1_areAlike_9 : decode cX1_areAlike 9 = .ok (.iload_n 2, 1) := by decide +kernel
theorem dX1_areAlike_10 : decode cX1_areAlike 10 = .ok (.invokevirtual 9, 3) := by decide +kernel
theorem dX1_areAlike_13 : decode cX1_areAlike 13 = .ok (.ifCond .eq 26, 3) := by decide +kernel
theorem dX1_areAlike_16 : decode cX1_areAlike 16 = .ok (.aload_n 0, 1) := by decide +kernel
theorem dX1_areAlike_17 : decode cX1_areAlike 17 = .ok (.iload_n 1, 1) := by decide +kernel
theorem dX1_areAlike_18 : decode cX1_areAlike 18 = .ok (.iconst 0, 1) := by decide +kernel
theorem dX1_areAlike_19 : decode cX1_areAlike 19 = .ok (.invokevirtual 15, 3) := by decide +kernel
theorem dX1_areAlike_22 : decode cX1_areAlike 22 = .ok (.iload_n 3, 1) := by decide +kernel
theorem dX1_areAlike_23 : decode cX1_areAlike 23 = .ok (.iand, 1) := by decide +kernel
theorem dX1_areAlike_24 : decode cX1_areAlike 24 = .ok (.aload_n 0, 1) := by decide +kernel
theorem dX1_areAlike_25 : decode cX1_areAlike 25 = .ok (.iload_n 2, 1) := by decide +kernel
theorem dX1_areAlike_26 : decode cX1_areAlike 26 = .ok (.iconst 0, 1) := by decide +kernel
theorem dX1_areAlike_27 : decode cX1_areAlike 27 = .ok (.invokevirtual 15, 3) := by decide +kernel
theorem dX1_areAlike_30 : decode cX1_areAlike 30 = .ok (.iload_n 3, 1) := by decide +kernel
theorem dX1_areAlike_31 : decode cX1_areAlike 31 = .ok (.iand, 1) := by decide +kernel
theorem dX1_areAlike_32 : decode cX1_areAlike 32 = .ok (.if_icmp .ne 7, 3) := by decide +kernel
theorem dX1_areAlike_35 : decode cX1_areAlike 35 = .ok (.iconst 1, 1) := by decide +kernel
theorem dX1_areAlike_36 : decode cX1_areAlike 36 = .ok (.goto 4, 3) := by decide +kernel
theorem dX1_areAlike_39 : decode cX1_areAlike 39 = .ok (.iconst 0, 1) := by decide +kernel
theorem dX1_areAlike_40 : decode cX1_areAlike 40 = .ok (.ireturn, 1) := by decide +kernel
set_option maxRecDepth 20000 in
theorem ggX1_twos_X1_areAlike : GoodIn wsX1_twos wsX1_areAlike := goodIn_r _ [5, 6, 7, 8, 9, 10, 11, 12, 13, 14, 15, 16, 17, 18, 19, 20, 21, 22, 23, 24, 25, 26, 27, 28, 29, 30, 31, 32, 33, 34, 35, 36, 37, 38, 39, 40, 41, 42, 43, 44, 45] (by decide +kernel) (by decide +kernel)
set_option maxRecDepth 20000 in
theorem gX1_twos_X1_areAlike : GoodIn wsX1_twos (va_wsS RX1 23 yX1_areAlike wsX1_areAlike) := goodIn_app (goodIn_of _ (by decide +kernel)) ggX1_twos_X1_areAlike
theorem dX1_twos_0 : decode cX1_twos 0 = .ok (.iconst 0, 1) := by decide +kernel
theorem dX1_twos_1 : decode cX1_twos 1 = .ok (.istore_n 1, 1) := by decide +kernel
theorem dX1_twos_2 : decode cX1_twos 2 = .ok (.iconst 0, 1) := by decide +kernel
theorem dX1_twos_3 : decode cX1_twos 3 = .ok (.istore_n 2, 1) := by decide +kernel
theorem dX1_twos_4 : decode cX1_twos 4 = .ok (.iload_n 2, 1) := by decide +kernel
theorem dX1_twos_5 : decode cX1_twos 5 = .ok (.aload_n 0, 1) := by decide +kernel
theorem dX1_twos_6 : decode cX1_twos 6 = .ok (.getfield 19, 3) := by decide +kernel
theorem dX1_twos_9 : decode cX1_twos 9 = .ok (.if_icmp .ge 41, 3) := by decide +kernel
theorem dX1_twos_12 : decode cX1_twos 12 = .ok (.iload_n 2, 1) := by decide +kernel
theorem dX1_twos_13 : decode cX1_twos 13 = .ok (.iconst 1, 1) := by decide +kernel
theorem dX1_twos_14 : decode cX1_twos 14 = .ok (.iadd, 1) := by decide +kernel
theorem dX1_twos_15 : decode cX1_twos 15 = .ok (.istore_n 3, 1) := by decide +kernel
theorem dX1_twos_16 : decode cX1_twos 16 = .ok (.iload_n 3, 1) := by decide +kernel
theorem dX1_twos_17 : decode cX1_twos 17 = .ok (.aload_n 0, 1) := by decide +kernel
theorem dX1_twos_18 : decode cX1_twos 18 = .ok (.getfield 19, 3) := by decide +kernel
theorem dX1_twos_21 : decode cX1_twos 21 = .ok (.if_icmp .ge 23, 3) := by decide +kernel
theorem dX1_twos_24 : decode cX1_twos 24 = .ok (.aload_n 0, 1) := by decide +kernel
theorem dX1_twos_25 : decode cX1_twos 25 = .ok (.iload_n 2, 1) := by decide +kernel
theorem dX1_twos_26 : decode cX1_twos 26 = .ok (.iload_n 3, 1) := by decide +kernel
theorem dX1_twos_27 : decode cX1_twos 27 = .ok (.bipush 63, 2) := by decide +kernel
theorem dX1_twos_29 : decode cX1_twos 29 = .ok (.invokestatic 23, 3) := by decide +kernel
theorem dX1_twos_32 : decode cX1_twos 32 = .ok (.ifCond .eq 6, 3) := by decide +kernel
theorem dX1_twos_35 : decode cX1_twos 35 = .ok (.iinc 1 1, 3) := by decide +kernel
theorem dX1_twos_38 : decode cX1_twos 38 = .ok (.iinc 3 1, 3) := by decide +kernel
theorem dX1_twos_41 : decode cX1_twos 41 = .ok (.goto (-25), 3) := by decide +kernel
theorem dX1_twos_44 : decode cX1_twos 44 = .ok (.iinc 2 1, 3) := by decide +kernel
theorem dX1_twos_47 : decode cX1_twos 47 = .ok (.goto (-43), 3) := by decide +kernel
theorem dX1_twos_50 : decode cX1_twos 50 = .ok (.iload_n 1, 1) := by decide +kernel
theorem dX1_twos_51 : decode cX1_twos 51 = .ok (.ireturn, 1) := by decide +kernel
set_option maxRecDepth 20000 in
theorem ggX1_firstTwo_X1_firstTwoBy : GoodIn wsX1_firstTwo wsX1_firstTwoBy := goodIn_r _ [4, 5, 6, 7, 3, 8, 9, 10, 11, 12, 13, 14, 15, 16, 17, 18, 19, 20, 21, 22, 23, 24, 25, 26, 27, 28, 29, 30, 31, 32, 33, 34, 35, 36, 37, 38, 39, 40, 41, 42, 43, 44, 45, 46, 47, 48] (by decide +kernel) (by decide +kernel)
set_option maxRecDepth 20000 in
theorem gX1_firstTwo_X1_firstTwoBy : GoodIn wsX1_firstTwo (va_wsS RX1 29 yX1_firstTwoBy wsX1_firstTwoBy) := goodIn_app (goodIn_of _ (by decide +kernel)) ggX1_firstTwo_X1_firstTwoBy
theorem dX1_firstTwo_0 : decode cX1_firstTwo 0 = .ok (.aload_n 0, 1) := by decide +kernel
theorem dX1_firstTwo_1 : decode cX1_firstTwo 1 = .ok (.bipush 63, 2) := by decide +kernel
theorem dX1_firstTwo_3 : decode cX1_firstTwo 3 = .ok (.invokestatic 29, 3) := by decide +kernel
theorem dX1_firstTwo_6 : decode cX1_firstTwo 6 = .ok (.ireturn, 1) := by decide +kernel
set_option maxRecDepth 20000 in
theorem ggX1_firstTwoBy_X1_areAlike : GoodIn wsX1_firstTwoBy wsX1_areAlike := goodIn_r _ [5, 6, 7, 8, 9, 10, 11, 12, 13, 14, 15, 16, 17, 18, 19, 20, 21, 22, 23, 24, 25, 26, 27, 28, 29, 30, 31, 32, 33, 34, 35, 36, 37, 38, 39, 40, 41, 42, 43, 44, 45] (by decide +kernel) (by decide +kernel)
set_option maxRecDepth 20000 in
theorem gX1_firstTwoBy_X1_areAlike : GoodIn wsX1_firstTwoBy (va_wsS RX1 23 yX1_areAlike wsX1_areAlike) := goodIn_app (goodIn_of _ (by decide +kernel)) ggX1_firstTwoBy_X1_areAlike
theorem dX1_firstTwoBy_0 : decode cX1_firstTwoBy 0 = .ok (.iconst 0, 1) := by decide +kernel
theorem dX1_firstTwoBy_1 : decode cX1_firstTwoBy 1 = .ok (.istore_n 2, 1) := by decide +kernel
theorem dX1_firstTwoBy_2 : decode cX1_firstTwoBy 2 = .ok (.iload_n 2, 1) := by decide +kernel
theorem dX1_firstTwoBy_3 : decode cX1_firstTwoBy 3 = .ok (.aload_n 0, 1) := by decide +kernel
theorem dX1_firstTwoBy_4 : decode cX1_firstTwoBy 4 = .ok (.getfield 19, 3) := by decide +kernel
theorem dX1_firstTwoBy_7 : decode cX1_firstTwoBy 7 = .ok (.if_icmp .ge 44, 3) := by decide +kernel
theorem dX1_firstTwoBy_10 : decode cX1_firstTwoBy 10 = .ok (.iload_n 2, 1) := by decide +kernel
theorem dX1_firstTwoBy_11 : decode cX1_firstTwoBy 11 = .ok (.iconst 1, 1) := by decide +kernel
theorem dX1_firstTwoBy_12 : decode cX1_firstTwoBy 12 = .ok (.iadd, 1) := by decide +kernel
theorem dX1_firstTwoBy_13 : decode cX1_firstTwoBy 13 = .ok (.istore_n 3, 1) := by decide +kernel
theorem dX1_firstTwoBy_14 : decode cX1_firstTwoBy 14 = .ok (.iload_n 3, 1) := by decide +kernel
theorem dX1_firstTwoBy_15 : decode cX1_firstTwoBy 15 = .ok (.aload_n 0, 1) := by decide +kernel
theorem dX1_firstTwoBy_16 : decode cX1_firstTwoBy 16 = .ok (.getfield 19, 3) := by decide +kernel
theorem dX1_firstTwoBy_19 : decode cX1_firstTwoBy 19 = .ok (.if_icmp .ge 26, 3) := by decide +kernel
theorem dX1_firstTwoBy_22 : decode cX1_firstTwoBy 22 = .ok (.aload_n 0, 1) := by decide +kernel
theorem dX1_firstTwoBy_23 : decode cX1_firstTwoBy 23 = .ok (.iload_n 2, 1) := by decide +kernel
theorem dX1_firstTwoBy_24 : decode cX1_firstTwoBy 24 = .ok (.iload_n 3, 1) := by decide +kernel
theorem dX1_firstTwoBy_25 : decode cX1_firstTwoBy 25 = .ok (.iload_n 1, 1) := by decide +kernel
theorem dX1_firstTwoBy_26 : decode cX1_firstTwoBy 26 = .ok (.invokestatic 23, 3) := by decide +kernel
theorem dX1_firstTwoBy_29 : decode cX1_firstTwoBy 29 = .ok (.ifCond .eq 10, 3) := by decide +kernel
theorem dX1_firstTwoBy_32 : decode cX1_firstTwoBy 32 = .ok (.bipush 10, 2) := by decide +kernel
theorem dX1_firstTwoBy_34 : decode cX1_firstTwoBy 34 = .ok (.iload_n 2, 1) := by decide +kernel
theorem dX1_firstTwoBy_35 : decode cX1_firstTwoBy 35 = .ok (.imul, 1) := by decide +kernel
theorem dX1_firstTwoBy_36 : decode cX1_firstTwoBy 36 = .ok (.iload_n 3, 1) := by decide +kernel
theorem dX1_firstTwoBy_37 : decode cX1_firstTwoBy 37 = .ok (.iadd, 1) := by decide +kernel
theorem dX1_firstTwoBy_38 : decode cX1_firstTwoBy 38 = .ok (.ireturn, 1) := by decide +kernel
theorem dX1_firstTwoBy_39 : decode cX1_firstTwoBy 39 = .ok (.iinc 3 1, 3) := by decide +kernel
theorem dX1_firstTwoBy_42 : decode cX1_firstTwoBy 42 = .ok (.goto (-28), 3) := by decide +kernel
theorem dX1_firstTwoBy_45 : decode cX1_firstTwoBy 45 = .ok (.iinc 2 1, 3) := by decide +kernel
theorem dX1_firstTwoBy_48 : decode cX1_firstTwoBy 48 = .ok (.goto (-46), 3) := by decide +kernel
theorem dX1_firstTwoBy_51 : decode cX1_firstTwoBy 51 = .ok (.bipush (-9), 2) := by decide +kernel
theorem dX1_firstTwoBy_53 : decode cX1_firstTwoBy 53 = .ok (.ireturn, 1) := by decide +kernel
set_option maxRecDepth 20000 in
theorem ggX1_howManyShow_X6_isHere : GoodIn wsX1_howManyShow wsX6_isHere := goodIn_r _ [6, 7, 8, 9, 5, 10, 11, 12, 13, 14, 15, 16, 17, 30, 31, 32, 33, 34, 35, 36, 37, 38, 39, 40, 41] (by decide +kernel) (by decide +kernel)
set_option maxRecDepth 20000 in
theorem gX1_howManyShow_X6_isHere : GoodIn wsX1_howManyShow (wsV RX1 9 RX6 yX6_isHere wsX6_isHere) := goodIn_app (goodIn_of _ (by decide +kernel)) ggX1_howManyShow_X6_isHere
set_option maxRecDepth 20000 in
theorem ggX1_howManyShow_X6_shows : GoodIn wsX1_howManyShow wsX6_shows := goodIn_r _ [21, 22, 23, 16, 14, 17, 24, 25, 26, 5, 27, 28, 29, 30, 31, 32, 33, 34, 35, 36, 37, 38, 39, 40, 41] (by decide +kernel) (by decide +kernel)
set_option maxRecDepth 20000 in
theorem gX1_howManyShow_X6_shows : GoodIn wsX1_howManyShow (wsV RX1 15 RX6 yX6_shows wsX6_shows) := goodIn_app (goodIn_of _ (by decide +kernel)) ggX1_howManyShow_X6_shows
theorem dX1_howManyShow_0 : decode cX1_howManyShow 0 = .ok (.iconst 0, 1) := by decide +kernel
theorem dX1_howManyShow_1 : decode cX1_howManyShow 1 = .ok (.istore_n 2, 1) := by decide +kernel
theorem dX1_howManyShow_2 : decode cX1_howManyShow 2 = .ok (.iconst 0, 1) := by decide +kernel
theorem dX1_howManyShow_3 : decode cX1_howManyShow 3 = .ok (.istore_n 3, 1) := by decide +kernel
theorem dX1_howManyShow_4 : decode cX1_howManyShow 4 = .ok (.iload_n 3, 1) := by decide +kernel
theorem dX1_howManyShow_5 : decode cX1_howManyShow 5 = .ok (.aload_n 0, 1) := by decide +kernel
theorem dX1_howManyShow_6 : decode cX1_howManyShow 6 = .ok (.getfield 19, 3) := by decide +kernel
theorem dX1_howManyShow_9 : decode cX1_howManyShow 9 = .ok (.if_icmp .ge 30, 3) := by decide +kernel
theorem dX1_howManyShow_12 : decode cX1_howManyShow 12 = .ok (.aload_n 0, 1) := by decide +kernel
theorem dX1_howManyShow_13 : decode cX1_howManyShow 13 = .ok (.iload_n 3, 1) := by decide +kernel
theorem dX1_howManyShow_14 : decode cX1_howManyShow 14 = .ok (.invokevirtual 9, 3) := by decide +kernel
theorem dX1_howManyShow_17 : decode cX1_howManyShow 17 = .ok (.ifCond .eq 16, 3) := by decide +kernel
theorem dX1_howManyShow_20 : decode cX1_howManyShow 20 = .ok (.aload_n 0, 1) := by decide +kernel
theorem dX1_howManyShow_21 : decode cX1_howManyShow 21 = .ok (.iload_n 3, 1) := by decide +kernel
theorem dX1_howManyShow_22 : decode cX1_howManyShow 22 = .ok (.iconst 0, 1) := by decide +kernel
theorem dX1_howManyShow_23 : decode cX1_howManyShow 23 = .ok (.invokevirtual 15, 3) := by decide +kernel
theorem dX1_howManyShow_26 : decode cX1_howManyShow 26 = .ok (.iload_n 1, 1) := by decide +kernel
theorem dX1_howManyShow_27 : decode cX1_howManyShow 27 = .ok (.if_icmp .ne 6, 3) := by decide +kernel
theorem dX1_howManyShow_30 : decode cX1_howManyShow 30 = .ok (.iinc 2 1, 3) := by decide +kernel
theorem dX1_howManyShow_33 : decode cX1_howManyShow 33 = .ok (.iinc 3 1, 3) := by decide +kernel
theorem dX1_howManyShow_36 : decode cX1_howManyShow 36 = .ok (.goto (-32), 3) := by decide +kernel
theorem dX1_howManyShow_39 : decode cX1_howManyShow 39 = .ok (.iload_n 2, 1) := by decide +kernel
theorem dX1_howManyShow_40 : decode cX1_howManyShow 40 = .ok (.ireturn, 1) := by decide +kernel
set_option maxRecDepth 20000 in
theorem ggX1_greatest_X1_howManyShow : GoodIn wsX1_greatest wsX1_howManyShow := goodIn_r _ [8, 9, 10, 11, 12, 13, 14, 15, 16, 17, 18, 19, 20, 21, 22, 23, 24, 25, 26, 27, 28, 29, 30, 31, 32, 33, 34, 35, 36, 37, 38, 39, 40, 41, 42, 43, 44, 45, 46, 47, 48, 49] (by decide +kernel) (by decide +kernel)
set_option maxRecDepth 20000 in
theorem gX1_greatest_X1_howManyShow : GoodIn wsX1_greatest (va_wsS RX1 33 yX1_howManyShow wsX1_howManyShow) := goodIn_app (goodIn_of _ (by decide +kernel)) ggX1_greatest_X1_howManyShow
theorem dX1_greatest_0 : decode cX1_greatest 0 = .ok (.iconst 0, 1) := by decide +kernel
theorem dX1_greatest_1 : decode cX1_greatest 1 = .ok (.istore_n 1, 1) := by decide +kernel
theorem dX1_greatest_2 : decode cX1_greatest 2 = .ok (.iconst 0, 1) := by decide +kernel
theorem dX1_greatest_3 : decode cX1_greatest 3 = .ok (.istore_n 2, 1) := by decide +kernel
theorem dX1_greatest_4 : decode cX1_greatest 4 = .ok (.iload_n 2, 1) := by decide +kernel
theorem dX1_greatest_5 : decode cX1_greatest 5 = .ok (.bipush 63, 2) := by decide +kernel
theorem dX1_greatest_7 : decode cX1_greatest 7 = .ok (.if_icmp .gt 19, 3) := by decide +kernel
theorem dX1_greatest_10 : decode cX1_greatest 10 = .ok (.iload_n 1, 1) := by decide +kernel
theorem dX1_greatest_11 : decode cX1_greatest 11 = .ok (.aload_n 0, 1) := by decide +kernel
theorem dX1_greatest_12 : decode cX1_greatest 12 = .ok (.iload_n 2, 1) := by decide +kernel
theorem dX1_greatest_13 : decode cX1_greatest 13 = .ok (.invokestatic 33, 3) := by decide +kernel
theorem dX1_greatest_16 : decode cX1_greatest 16 = .ok (.invokestatic 36, 3) := by decide +kernel
theorem dX1_greatest_19 : decode cX1_greatest 19 = .ok (.istore_n 1, 1) := by decide +kernel
theorem dX1_greatest_20 : decode cX1_greatest 20 = .ok (.iinc 2 1, 3) := by decide +kernel
theorem dX1_greatest_23 : decode cX1_greatest 23 = .ok (.goto (-19), 3) := by decide +kernel
theorem dX1_greatest_26 : decode cX1_greatest 26 = .ok (.iload_n 1, 1) := by decide +kernel
theorem dX1_greatest_27 : decode cX1_greatest 27 = .ok (.ireturn, 1) := by decide +kernel
set_option maxRecDepth 20000 in
theorem ggX1_greatestShown_X1_howManyShow : GoodIn wsX1_greatestShown wsX1_howManyShow := goodIn_r _ [4, 5, 6, 7, 8, 9, 10, 11, 12, 13, 14, 15, 16, 17, 18, 19, 20, 21, 22, 23, 24, 25, 26, 27, 28, 29, 30, 31, 32, 33, 34, 35, 36, 37, 38, 39, 40, 41, 42, 43, 44, 45] (by decide +kernel) (by decide +kernel)
set_option maxRecDepth 20000 in
theorem gX1_greatestShown_X1_howManyShow : GoodIn wsX1_greatestShown (va_wsS RX1 33 yX1_howManyShow wsX1_howManyShow) := goodIn_app (goodIn_of _ (by decide +kernel)) ggX1_greatestShown_X1_howManyShow
theorem dX1_greatestShown_0 : decode cX1_greatestShown 0 = .ok (.iconst 0, 1) := by decide +kernel
theorem dX1_greatestShown_1 : decode cX1_greatestShown 1 = .ok (.istore_n 1, 1) := by decide +kernel
theorem dX1_greatestShown_2 : decode cX1_greatestShown 2 = .ok (.bipush (-9), 2) := by decide +kernel
theorem dX1_greatestShown_4 : decode cX1_greatestShown 4 = .ok (.istore_n 2, 1) := by decide +kernel
theorem dX1_greatestShown_5 : decode cX1_greatestShown 5 = .ok (.iconst 0, 1) := by decide +kernel
theorem dX1_greatestShown_6 : decode cX1_greatestShown 6 = .ok (.istore_n 3, 1) := by decide +kernel
theorem dX1_greatestShown_7 : decode cX1_greatestShown 7 = .ok (.iload_n 3, 1) := by decide +kernel
theorem dX1_greatestShown_8 : decode cX1_greatestShown 8 = .ok (.bipush 63, 2) := by decide +kernel
theorem dX1_greatestShown_10 : decode cX1_greatestShown 10 = .ok (.if_icmp .gt 27, 3) := by decide +kernel
theorem dX1_greatestShown_13 : decode cX1_greatestShown 13 = .ok (.aload_n 0, 1) := by decide +kernel
theorem dX1_greatestShown_14 : decode cX1_greatestShown 14 = .ok (.iload_n 3, 1) := by decide +kernel
theorem dX1_greatestShown_15 : decode cX1_greatestShown 15 = .ok (.invokestatic 33, 3) := by decide +kernel
theorem dX1_greatestShown_18 : decode cX1_greatestShown 18 = .ok (.istore 4, 2) := by decide +kernel
theorem dX1_greatestShown_20 : decode cX1_greatestShown 20 = .ok (.iload 4, 2) := by decide +kernel
theorem dX1_greatestShown_22 : decode cX1_greatestShown 22 = .ok (.iload_n 1, 1) := by decide +kernel
theorem dX1_greatestShown_23 : decode cX1_greatestShown 23 = .ok (.if_icmp .le 8, 3) := by decide +kernel
theorem dX1_greatestShown_26 : decode cX1_greatestShown 26 = .ok (.iload 4, 2) := by decide +kernel
theorem dX1_greatestShown_28 : decode cX1_greatestShown 28 = .ok (.istore_n 1, 1) := by decide +kernel
theorem dX1_greatestShown_29 : decode cX1_greatestShown 29 = .ok (.iload_n 3, 1) := by decide +kernel
theorem dX1_greatestShown_30 : decode cX1_greatestShown 30 = .ok (.istore_n 2, 1) := by decide +kernel
theorem dX1_greatestShown_31 : decode cX1_greatestShown 31 = .ok (.iinc 3 1, 3) := by decide +kernel
theorem dX1_greatestShown_34 : decode cX1_greatestShown 34 = .ok (.goto (-27), 3) := by decide +kernel
theorem dX1_greatestShown_37 : decode cX1_greatestShown 37 = .ok (.iload_n 2, 1) := by decide +kernel
theorem dX1_greatestShown_38 : decode cX1_greatestShown 38 = .ok (.ireturn, 1) := by decide +kernel
set_option maxRecDepth 20000 in
theorem ggX1_tellingToe_X1_howFarApart : GoodIn wsX1_tellingToe wsX1_howFarApart := goodIn_r _ [4, 5, 6, 7, 8, 9, 10, 11, 12, 13, 14, 15, 16, 17, 18, 19, 20, 21, 22, 23, 24, 25, 26, 27, 28, 29, 30, 31, 32, 33, 34, 35, 36, 37, 38, 39, 40, 41, 42, 43, 44, 45, 46, 47, 48, 49] (by decide +kernel) (by decide +kernel)
set_option maxRecDepth 20000 in
theorem gX1_tellingToe_X1_howFarApart : GoodIn wsX1_tellingToe (va_wsS RX1 41 yX1_howFarApart wsX1_howFarApart) := goodIn_app (goodIn_of _ (by decide +kernel)) ggX1_tellingToe_X1_howFarApart
theorem dX1_tellingToe_0 : decode cX1_tellingToe 0 = .ok (.iconst 0, 1) := by decide +kernel
theorem dX1_tellingToe_1 : decode cX1_tellingToe 1 = .ok (.istore_n 1, 1) := by decide +kernel
theorem dX1_tellingToe_2 : decode cX1_tellingToe 2 = .ok (.bipush 9, 2) := by decide +kernel
theorem dX1_tellingToe_4 : decode cX1_tellingToe 4 = .ok (.istore_n 2, 1) := by decide +kernel
theorem dX1_tellingToe_5 : decode cX1_tellingToe 5 = .ok (.iconst 0, 1) := by decide +kernel
theorem dX1_tellingToe_6 : decode cX1_tellingToe 6 = .ok (.istore_n 3, 1) := by decide +kernel
theorem dX1_tellingToe_7 : decode cX1_tellingToe 7 = .ok (.iload_n 3, 1) := by decide +kernel
theorem dX1_tellingToe_8 : decode cX1_tellingToe 8 = .ok (.bipush 6, 2) := by decide +kernel
theorem dX1_tellingToe_10 : decode cX1_tellingToe 10 = .ok (.if_icmp .ge 27, 3) := by decide +kernel
theorem dX1_tellingToe_13 : decode cX1_tellingToe 13 = .ok (.aload_n 0, 1) := by decide +kernel
theorem dX1_tellingToe_14 : decode cX1_tellingToe 14 = .ok (.iload_n 3, 1) := by decide +kernel
theorem dX1_tellingToe_15 : decode cX1_tellingToe 15 = .ok (.invokestatic 41, 3) := by decide +kernel
theorem dX1_tellingToe_18 : decode cX1_tellingToe 18 = .ok (.istore 4, 2) := by decide +kernel
theorem dX1_tellingToe_20 : decode cX1_tellingToe 20 = .ok (.iload 4, 2) := by decide +kernel
theorem dX1_tellingToe_22 : decode cX1_tellingToe 22 = .ok (.iload_n 2, 1) := by decide +kernel
theorem dX1_tellingToe_23 : decode cX1_tellingToe 23 = .ok (.if_icmp .ge 8, 3) := by decide +kernel
theorem dX1_tellingToe_26 : decode cX1_tellingToe 26 = .ok (.iload 4, 2) := by decide +kernel
theorem dX1_tellingToe_28 : decode cX1_tellingToe 28 = .ok (.istore_n 2, 1) := by decide +kernel
theorem dX1_tellingToe_29 : decode cX1_tellingToe 29 = .ok (.iload_n 3, 1) := by decide +kernel
theorem dX1_tellingToe_30 : decode cX1_tellingToe 30 = .ok (.istore_n 1, 1) := by decide +kernel
theorem dX1_tellingToe_31 : decode cX1_tellingToe 31 = .ok (.iinc 3 1, 3) := by decide +kernel
theorem dX1_tellingToe_34 : decode cX1_tellingToe 34 = .ok (.goto (-27), 3) := by decide +kernel
theorem dX1_tellingToe_37 : decode cX1_tellingToe 37 = .ok (.iload_n 1, 1) := by decide +kernel
theorem dX1_tellingToe_38 : decode cX1_tellingToe 38 = .ok (.ireturn, 1) := by decide +kernel
set_option maxRecDepth 20000 in
theorem ggX1_howFarApart_X6_isHere : GoodIn wsX1_howFarApart wsX6_isHere := goodIn_r _ [10, 11, 12, 13, 9, 14, 15, 16, 17, 18, 19, 20, 21, 34, 35, 36, 37, 38, 39, 40, 41, 42, 43, 44, 45] (by decide +kernel) (by decide +kernel)
set_option maxRecDepth 20000 in
theorem gX1_howFarApart_X6_isHere : GoodIn wsX1_howFarApart (wsV RX1 9 RX6 yX6_isHere wsX6_isHere) := goodIn_app (goodIn_of _ (by decide +kernel)) ggX1_howFarApart_X6_isHere
set_option maxRecDepth 20000 in
theorem ggX1_howFarApart_X6_shows : GoodIn wsX1_howFarApart wsX6_shows := goodIn_r _ [25, 26, 27, 20, 18, 21, 28, 29, 30, 9, 31, 32, 33, 34, 35, 36, 37, 38, 39, 40, 41, 42, 43, 44, 45] (by decide +kernel) (by decide +kernel)
set_option maxRecDepth 20000 in
theorem gX1_howFarApart_X6_shows : GoodIn wsX1_howFarApart (wsV RX1 15 RX6 yX6_shows wsX6_shows) := goodIn_app (goodIn_of _ (by decide +kernel)) ggX1_howFarApart_X6_shows
set_option maxRecDepth 20000 in
theorem ggX1_howFarApart_X7_has : GoodIn wsX1_howFarApart wsX7_has := goodIn_r _ [19] (by decide +kernel) (by decide +kernel)
set_option maxRecDepth 20000 in
theorem gX1_howFarApart_X7_has_n44 : GoodIn wsX1_howFarApart (wsX7_has) := ggX1_howFarApart_X7_has
theorem dX1_howFarApart_0 : decode cX1_howFarApart 0 = .ok (.iconst 0, 1) := by decide +kernel
theorem dX1_howFarApart_1 : decode cX1_howFarApart 1 = .ok (.istore_n 2, 1) := by decide +kernel
theorem dX1_howFarApart_2 : decode cX1_howFarApart 2 = .ok (.iconst 0, 1) := by decide +kernel
theorem dX1_howFarApart_3 : decode cX1_howFarApart 3 = .ok (.istore_n 3, 1) := by decide +kernel
theorem dX1_howFarApart_4 : decode cX1_howFarApart 4 = .ok (.iload_n 3, 1) := by decide +kernel
theorem dX1_howFarApart_5 : decode cX1_howFarApart 5 = .ok (.aload_n 0, 1) := by decide +kernel
theorem dX1_howFarApart_6 : decode cX1_howFarApart 6 = .ok (.getfield 19, 3) := by decide +kernel
theorem dX1_howFarApart_9 : decode cX1_howFarApart 9 = .ok (.if_icmp .ge 38, 3) := by decide +kernel
theorem dX1_howFarApart_12 : decode cX1_howFarApart 12 = .ok (.aload_n 0, 1) := by decide +kernel
theorem dX1_howFarApart_13 : decode cX1_howFarApart 13 = .ok (.iload_n 3, 1) := by decide +kernel
theorem dX1_howFarApart_14 : decode cX1_howFarApart 14 = .ok (.invokevirtual 9, 3) := by decide +kernel
theorem dX1_howFarApart_17 : decode cX1_howFarApart 17 = .ok (.ifCond .eq 24, 3) := by decide +kernel
theorem dX1_howFarApart_20 : decode cX1_howFarApart 20 = .ok (.iload_n 2, 1) := by decide +kernel
theorem dX1_howFarApart_21 : decode cX1_howFarApart 21 = .ok (.aload_n 0, 1) := by decide +kernel
theorem dX1_howFarApart_22 : decode cX1_howFarApart 22 = .ok (.iload_n 3, 1) := by decide +kernel
theorem dX1_howFarApart_23 : decode cX1_howFarApart 23 = .ok (.iconst 0, 1) := by decide +kernel
theorem dX1_howFarApart_24 : decode cX1_howFarApart 24 = .ok (.invokevirtual 15, 3) := by decide +kernel
theorem dX1_howFarApart_27 : decode cX1_howFarApart 27 = .ok (.iload_n 1, 1) := by decide +kernel
theorem dX1_howFarApart_28 : decode cX1_howFarApart 28 = .ok (.invokestatic 44, 3) := by decide +kernel
theorem dX1_howFarApart_31 : decode cX1_howFarApart 31 = .ok (.ifCond .eq 7, 3) := by decide +kernel
theorem dX1_howFarApart_34 : decode cX1_howFarApart 34 = .ok (.iconst 1, 1) := by decide +kernel
theorem dX1_howFarApart_35 : decode cX1_howFarApart 35 = .ok (.goto 4, 3) := by decide +kernel
theorem dX1_howFarApart_38 : decode cX1_howFarApart 38 = .ok (.iconst (-1), 1) := by decide +kernel
theorem dX1_howFarApart_39 : decode cX1_howFarApart 39 = .ok (.iadd, 1) := by decide +kernel
theorem dX1_howFarApart_40 : decode cX1_howFarApart 40 = .ok (.istore_n 2, 1) := by decide +kernel
theorem dX1_howFarApart_41 : decode cX1_howFarApart 41 = .ok (.iinc 3 1, 3) := by decide +kernel
theorem dX1_howFarApart_44 : decode cX1_howFarApart 44 = .ok (.goto (-40), 3) := by decide +kernel
theorem dX1_howFarApart_47 : decode cX1_howFarApart 47 = .ok (.iload_n 2, 1) := by decide +kernel
theorem dX1_howFarApart_48 : decode cX1_howFarApart 48 = .ok (.invokestatic 48, 3) := by decide +kernel
theorem dX1_howFarApart_51 : decode cX1_howFarApart 51 = .ok (.ireturn, 1) := by decide +kernel
set_option maxRecDepth 20000 in
theorem ggX1_fewestLooks_X1_firstTwoBy : GoodIn wsX1_fewestLooks wsX1_firstTwoBy := goodIn_r _ [4, 5, 6, 7, 3, 8, 9, 10, 11, 12, 13, 14, 15, 16, 17, 18, 19, 20, 21, 22, 23, 24, 25, 26, 27, 28, 29, 30, 31, 32, 33, 34, 35, 36, 37, 38, 39, 40, 41, 42, 43, 44, 45, 46, 47, 48] (by decide +kernel) (by decide +kernel)
set_option maxRecDepth 20000 in
theorem gX1_fewestLooks_X1_firstTwoBy : GoodIn wsX1_fewestLooks (va_wsS RX1 29 yX1_firstTwoBy wsX1_firstTwoBy) := goodIn_app (goodIn_of _ (by decide +kernel)) ggX1_fewestLooks_X1_firstTwoBy
theorem dX1_fewestLooks_0 : decode cX1_fewestLooks 0 = .ok (.getstatic 52, 3) := by decide +kernel
theorem dX1_fewestLooks_3 : decode cX1_fewestLooks 3 = .ok (.astore_n 1, 1) := by decide +kernel
theorem dX1_fewestLooks_4 : decode cX1_fewestLooks 4 = .ok (.aload_n 1, 1) := by decide +kernel
theorem dX1_fewestLooks_5 : decode cX1_fewestLooks 5 = .ok (.arraylength, 1) := by decide +kernel
theorem dX1_fewestLooks_6 : decode cX1_fewestLooks 6 = .ok (.istore_n 2, 1) := by decide +kernel
theorem dX1_fewestLooks_7 : decode cX1_fewestLooks 7 = .ok (.iconst 0, 1) := by decide +kernel
theorem dX1_fewestLooks_8 : decode cX1_fewestLooks 8 = .ok (.istore_n 3, 1) := by decide +kernel
theorem dX1_fewestLooks_9 : decode cX1_fewestLooks 9 = .ok (.iload_n 3, 1) := by decide +kernel
theorem dX1_fewestLooks_10 : decode cX1_fewestLooks 10 = .ok (.iload_n 2, 1) := by decide +kernel
theorem dX1_fewestLooks_11 : decode cX1_fewestLooks 11 = .ok (.if_icmp .ge 28, 3) := by decide +kernel
theorem dX1_fewestLooks_14 : decode cX1_fewestLooks 14 = .ok (.aload_n 1, 1) := by decide +kernel
theorem dX1_fewestLooks_15 : decode cX1_fewestLooks 15 = .ok (.iload_n 3, 1) := by decide +kernel
theorem dX1_fewestLooks_16 : decode cX1_fewestLooks 16 = .ok (.iaload, 1) := by decide +kernel
theorem dX1_fewestLooks_17 : decode cX1_fewestLooks 17 = .ok (.istore 4, 2) := by decide +kernel
theorem dX1_fewestLooks_19 : decode cX1_fewestLooks 19 = .ok (.aload_n 0, 1) := by decide +kernel
theorem dX1_fewestLooks_20 : decode cX1_fewestLooks 20 = .ok (.iload 4, 2) := by decide +kernel
theorem dX1_fewestLooks_22 : decode cX1_fewestLooks 22 = .ok (.invokestatic 29, 3) := by decide +kernel
theorem dX1_fewestLooks_25 : decode cX1_fewestLooks 25 = .ok (.bipush (-9), 2) := by decide +kernel
theorem dX1_fewestLooks_27 : decode cX1_fewestLooks 27 = .ok (.if_icmp .ne 6, 3) := by decide +kernel
theorem dX1_fewestLooks_30 : decode cX1_fewestLooks 30 = .ok (.iload 4, 2) := by decide +kernel
theorem dX1_fewestLooks_32 : decode cX1_fewestLooks 32 = .ok (.ireturn, 1) := by decide +kernel
theorem dX1_fewestLooks_33 : decode cX1_fewestLooks 33 = .ok (.iinc 3 1, 3) := by decide +kernel
theorem dX1_fewestLooks_36 : decode cX1_fewestLooks 36 = .ok (.goto (-27), 3) := by decide +kernel
theorem dX1_fewestLooks_39 : decode cX1_fewestLooks 39 = .ok (.bipush (-9), 2) := by decide +kernel
theorem dX1_fewestLooks_41 : decode cX1_fewestLooks 41 = .ok (.ireturn, 1) := by decide +kernel
set_option maxRecDepth 20000 in
theorem ggX2_ofTaking_X6_isUnmarried : GoodIn wsX2_ofTaking wsX6_isUnmarried := goodIn_r _ [10, 11, 12, 13, 14, 64, 65, 66, 67, 68, 69, 70, 71, 72, 73, 74, 75] (by decide +kernel) (by decide +kernel)
set_option maxRecDepth 20000 in
theorem gX2_ofTaking_X6_isUnmarried : GoodIn wsX2_ofTaking (wsV RX2 13 RX6 yX6_isUnmarried wsX6_isUnmarried) := goodIn_app (goodIn_of _ (by decide +kernel)) ggX2_ofTaking_X6_isUnmarried
set_option maxRecDepth 20000 in
theorem ggX2_ofTaking_X6_choiceOf : GoodIn wsX2_ofTaking wsX6_choiceOf := goodIn_r _ [18, 19, 20, 21, 9, 22, 23, 24, 13, 25, 26, 27, 28, 29, 30, 31, 32, 33, 34, 35, 36, 37, 38, 39, 12, 14, 40, 41, 42, 43, 44, 45, 46, 47, 48, 49, 64, 65, 66, 67, 68, 69, 70, 71, 72, 73, 74, 75] (by decide +kernel) (by decide +kernel)
set_option maxRecDepth 20000 in
theorem gX2_ofTaking_X6_choiceOf : GoodIn wsX2_ofTaking (wsV RX2 17 RX6 yX6_choiceOf wsX6_choiceOf) := goodIn_app (goodIn_of _ (by decide +kernel)) ggX2_ofTaking_X6_choiceOf
set_option maxRecDepth 20000 in
theorem ggX2_ofTaking_J6_bitCount_0f7a4 : GoodIn wsX2_ofTaking wsJ6_bitCount_0f7a4 := goodIn_r _ [53, 54, 55, 56] (by decide +kernel) (by decide +kernel)
set_option maxRecDepth 20000 in
theorem gX2_ofTaking_J6_bitCount_0f7a4 : GoodIn wsX2_ofTaking (va_wsS RX2 21 yJ6_bitCount_0f7a4 wsJ6_bitCount_0f7a4) := goodIn_app (goodIn_of _ (by decide +kernel)) ggX2_ofTaking_J6_bitCount_0f7a4
set_option maxRecDepth 20000 in
theorem ggX2_ofTaking_X7_has : GoodIn wsX2_ofTaking wsX7_has := goodIn_r _ [14] (by decide +kernel) (by decide +kernel)
set_option maxRecDepth 20000 in
theorem gX2_ofTaking_X7_has_n32 : GoodIn wsX2_ofTaking (wsX7_has) := ggX2_ofTaking_X7_has
set_option maxRecDepth 20000 in
theorem ggX2_ofTaking_X2_partOf : GoodIn wsX2_ofTaking wsX2_partOf := goodIn_r _ [60, 61, 62, 59, 63] (by decide +kernel) (by decide +kernel)
set_option maxRecDepth 20000 in
theorem gX2_ofTaking_X2_partOf : GoodIn wsX2_ofTaking (va_wsS RX2 38 yX2_partOf wsX2_partOf) := goodIn_app (goodIn_of _ (by decide +kernel)) ggX2_ofTaking_X2_partOf
theorem dX2_ofTaking_0 : decode cX2_ofTaking 0 = .ok (.lconst 1, 1) := by decide +kernel
theorem dX2_ofTaking_1 : decode cX2_ofTaking 1 = .ok (.lstore 4, 2) := by decide +kernel
theorem dX2_ofTaking_3 : decode cX2_ofTaking 3 = .ok (.lconst 1, 1) := by decide +kernel
theorem dX2_ofTaking_4 : decode cX2_ofTaking 4 = .ok (.lstore 6, 2) := by decide +kernel
theorem dX2_ofTaking_6 : decode cX2_ofTaking 6 = .ok (.iconst 0, 1) := by decide +kernel
theorem dX2_ofTaking_7 : decode cX2_ofTaking 7 = .ok (.istore 8, 2) := by decide +kernel
theorem dX2_ofTaking_9 : decode cX2_ofTaking 9 = .ok (.iconst 0, 1) := by decide +kernel
theorem dX2_ofTaking_10 : decode cX2_ofTaking 10 = .ok (.istore 9, 2) := by decide +kernel
theorem dX2_ofTaking_12 : decode cX2_ofTaking 12 = .ok (.iload 9, 2) := by decide +kernel
theorem dX2_ofTaking_14 : decode cX2_ofTaking 14 = .ok (.aload_n 0, 1) := by decide +kernel
theorem dX2_ofTaking_15 : decode cX2_ofTaking 15 = .ok (.getfield 7, 3) := by decide +kernel
theorem dX2_ofTaking_18 : decode cX2_ofTaking 18 = .ok (.if_icmp .ge 83, 3) := by decide +kernel
theorem dX2_ofTaking_21 : decode cX2_ofTaking 21 = .ok (.aload_n 0, 1) := by decide +kernel
theorem dX2_ofTaking_22 : decode cX2_ofTaking 22 = .ok (.iload 9, 2) := by decide +kernel
theorem dX2_ofTaking_24 : decode cX2_ofTaking 24 = .ok (.invokevirtual 13, 3) := by decide +kernel
theorem dX2_ofTaking_27 : decode cX2_ofTaking 27 = .ok (.ifCond .eq 68, 3) := by decide +kernel
theorem dX2_ofTaking_30 : decode cX2_ofTaking 30 = .ok (.iload 8, 2) := by decide +kernel
theorem dX2_ofTaking_32 : decode cX2_ofTaking 32 = .ok (.iload_n 2, 1) := by decide +kernel
theorem dX2_ofTaking_33 : decode cX2_ofTaking 33 = .ok (.if_icmp .ge 62, 3) := by decide +kernel
theorem dX2_ofTaking_36 : decode cX2_ofTaking 36 = .ok (.iinc 8 1, 3) := by decide +kernel
theorem dX2_ofTaking_39 : decode cX2_ofTaking 39 = .ok (.aload_n 0, 1) := by decide +kernel
theorem dX2_ofTaking_40 : decode cX2_ofTaking 40 = .ok (.iload 9, 2) := by decide +kernel
theorem dX2_ofTaking_42 : decode cX2_ofTaking 42 = .ok (.invokevirtual 17, 3) := by decide +kernel
theorem dX2_ofTaking_45 : decode cX2_ofTaking 45 = .ok (.istore 10, 2) := by decide +kernel
theorem dX2_ofTaking_47 : decode cX2_ofTaking 47 = .ok (.iload 10, 2) := by decide +kernel
theorem dX2_ofTaking_49 : decode cX2_ofTaking 49 = .ok (.invokestatic 21, 3) := by decide +kernel
theorem dX2_ofTaking_52 : decode cX2_ofTaking 52 = .ok (.istore 11, 2) := by decide +kernel
theorem dX2_ofTaking_54 : decode cX2_ofTaking 54 = .ok (.lload 4, 2) := by decide +kernel
theorem dX2_ofTaking_56 : decode cX2_ofTaking 56 = .ok (.iconst 1, 1) := by decide +kernel
theorem dX2_ofTaking_57 : decode cX2_ofTaking 57 = .ok (.iload 11, 2) := by decide +kernel
theorem dX2_ofTaking_59 : decode cX2_ofTaking 59 = .ok (.invokestatic 26, 3) := by decide +kernel
theorem dX2_ofTaking_62 : decode cX2_ofTaking 62 = .ok (.i2l, 1) := by decide +kernel
theorem dX2_ofTaking_63 : decode cX2_ofTaking 63 = .ok (.lmul, 1) := by decide +kernel
theorem dX2_ofTaking_64 : decode cX2_ofTaking 64 = .ok (.lstore 4, 2) := by decide +kernel
theorem dX2_ofTaking_66 : decode cX2_ofTaking 66 = .ok (.lload 6, 2) := by decide +kernel
theorem dX2_ofTaking_68 : decode cX2_ofTaking 68 = .ok (.iload 10, 2) := by decide +kernel
theorem dX2_ofTaking_70 : decode cX2_ofTaking 70 = .ok (.iload_n 1, 1) := by decide +kernel
theorem dX2_ofTaking_71 : decode cX2_ofTaking 71 = .ok (.invokestatic 32, 3) := by decide +kernel
theorem dX2_ofTaking_74 : decode cX2_ofTaking 74 = .ok (.ifCond .eq 11, 3) := by decide +kernel
theorem dX2_ofTaking_77 : decode cX2_ofTaking 77 = .ok (.iload 11, 2) := by decide +kernel
theorem dX2_ofTaking_79 : decode cX2_ofTaking 79 = .ok (.iconst 1, 1) := by decide +kernel
theorem dX2_ofTaking_80 : decode cX2_ofTaking 80 = .ok (.isub, 1) := by decide +kernel
theorem dX2_ofTaking_81 : decode cX2_ofTaking 81 = .ok (.i2l, 1) := by decide +kernel
theorem dX2_ofTaking_82 : decode cX2_ofTaking 82 = .ok (.goto 10, 3) := by decide +kernel
theorem dX2_ofTaking_85 : decode cX2_ofTaking 85 = .ok (.iconst 1, 1) := by decide +kernel
theorem dX2_ofTaking_86 : decode cX2_ofTaking 86 = .ok (.iload 11, 2) := by decide +kernel
theorem dX2_ofTaking_88 : decode cX2_ofTaking 88 = .ok (.invokestatic 26, 3) := by decide +kernel
theorem dX2_ofTaking_91 : decode cX2_ofTaking 91 = .ok (.i2l, 1) := by decide +kernel
theorem dX2_ofTaking_92 : decode cX2_ofTaking 92 = .ok (.lmul, 1) := by decide +kernel
theorem dX2_ofTaking_93 : decode cX2_ofTaking 93 = .ok (.lstore 6, 2) := by decide +kernel
theorem dX2_ofTaking_95 : decode cX2_ofTaking 95 = .ok (.iinc 9 1, 3) := by decide +kernel
theorem dX2_ofTaking_98 : decode cX2_ofTaking 98 = .ok (.goto (-86), 3) := by decide +kernel
theorem dX2_ofTaking_101 : decode cX2_ofTaking 101 = .ok (.lload 4, 2) := by decide +kernel
theorem dX2_ofTaking_103 : decode cX2_ofTaking 103 = .ok (.lload 6, 2) := by decide +kernel
theorem dX2_ofTaking_105 : decode cX2_ofTaking 105 = .ok (.lsub, 1) := by decide +kernel
theorem dX2_ofTaking_106 : decode cX2_ofTaking 106 = .ok (.lload 4, 2) := by decide +kernel
theorem dX2_ofTaking_108 : decode cX2_ofTaking 108 = .ok (.iload_n 3, 1) := by decide +kernel
theorem dX2_ofTaking_109 : decode cX2_ofTaking 109 = .ok (.invokestatic 38, 3) := by decide +kernel
theorem dX2_ofTaking_112 : decode cX2_ofTaking 112 = .ok (.lreturn, 1) := by decide +kernel
set_option maxRecDepth 20000 in
theorem ggX2_meanToes_X6_footOf : GoodIn wsX2_meanToes wsX6_footOf := goodIn_r _ [10, 11, 12, 13, 14, 29, 30, 31, 32, 33, 34, 35, 36, 37, 38, 39, 40] (by decide +kernel) (by decide +kernel)
set_option maxRecDepth 20000 in
theorem gX2_meanToes_X6_footOf : GoodIn wsX2_meanToes (wsV RX2 47 RX6 yX6_footOf wsX6_footOf) := goodIn_app (goodIn_of _ (by decide +kernel)) ggX2_meanToes_X6_footOf
set_option maxRecDepth 20000 in
theorem ggX2_meanToes_J6_bitCount_0f7a4 : GoodIn wsX2_meanToes wsJ6_bitCount_0f7a4 := goodIn_r _ [18, 19, 20, 21] (by decide +kernel) (by decide +kernel)
set_option maxRecDepth 20000 in
theorem gX2_meanToes_J6_bitCount_0f7a4 : GoodIn wsX2_meanToes (va_wsS RX2 21 yJ6_bitCount_0f7a4 wsJ6_bitCount_0f7a4) := goodIn_app (goodIn_of _ (by decide +kernel)) ggX2_meanToes_J6_bitCount_0f7a4
set_option maxRecDepth 20000 in
theorem ggX2_meanToes_X2_partOf : GoodIn wsX2_meanToes wsX2_partOf := goodIn_r _ [25, 26, 27, 24, 28] (by decide +kernel) (by decide +kernel)
set_option maxRecDepth 20000 in
theorem gX2_meanToes_X2_partOf : GoodIn wsX2_meanToes (va_wsS RX2 38 yX2_partOf wsX2_partOf) := goodIn_app (goodIn_of _ (by decide +kernel)) ggX2_meanToes_X2_partOf
theorem dX2_meanToes_0 : decode cX2_meanToes 0 = .ok (.lconst 0, 1) := by decide +kernel
theorem dX2_meanToes_1 : decode cX2_meanToes 1 = .ok (.lstore_n 2, 1) := by decide +kernel
theorem dX2_meanToes_2 : decode cX2_meanToes 2 = .ok (.iconst 0, 1) := by decide +kernel
theorem dX2_meanToes_3 : decode cX2_meanToes 3 = .ok (.istore 4, 2) := by decide +kernel
theorem dX2_meanToes_5 : decode cX2_meanToes 5 = .ok (.iload 4, 2) := by decide +kernel
theorem dX2_meanToes_7 : decode cX2_meanToes 7 = .ok (.aload_n 0, 1) := by decide +kernel
theorem dX2_meanToes_8 : decode cX2_meanToes 8 = .ok (.getfield 44, 3) := by decide +kernel
theorem dX2_meanToes_11 : decode cX2_meanToes 11 = .ok (.if_icmp .ge 22, 3) := by decide +kernel
theorem dX2_meanToes_14 : decode cX2_meanToes 14 = .ok (.lload_n 2, 1) := by decide +kernel
theorem dX2_meanToes_15 : decode cX2_meanToes 15 = .ok (.aload_n 0, 1) := by decide +kernel
theorem dX2_meanToes_16 : decode cX2_meanToes 16 = .ok (.iload 4, 2) := by decide +kernel
theorem dX2_meanToes_18 : decode cX2_meanToes 18 = .ok (.invokevirtual 47, 3) := by decide +kernel
theorem dX2_meanToes_21 : decode cX2_meanToes 21 = .ok (.invokestatic 21, 3) := by decide +kernel
theorem dX2_meanToes_24 : decode cX2_meanToes 24 = .ok (.i2l, 1) := by decide +kernel
theorem dX2_meanToes_25 : decode cX2_meanToes 25 = .ok (.ladd, 1) := by decide +kernel
theorem dX2_meanToes_26 : decode cX2_meanToes 26 = .ok (.lstore_n 2, 1) := by decide +kernel
theorem dX2_meanToes_27 : decode cX2_meanToes 27 = .ok (.iinc 4 1, 3) := by decide +kernel
theorem dX2_meanToes_30 : decode cX2_meanToes 30 = .ok (.goto (-25), 3) := by decide +kernel
theorem dX2_meanToes_33 : decode cX2_meanToes 33 = .ok (.lload_n 2, 1) := by decide +kernel
theorem dX2_meanToes_34 : decode cX2_meanToes 34 = .ok (.iconst 1, 1) := by decide +kernel
theorem dX2_meanToes_35 : decode cX2_meanToes 35 = .ok (.aload_n 0, 1) := by decide +kernel
theorem dX2_meanToes_36 : decode cX2_meanToes 36 = .ok (.getfield 44, 3) := by decide +kernel
theorem dX2_meanToes_39 : decode cX2_meanToes 39 = .ok (.invokestatic 26, 3) := by decide +kernel
theorem dX2_meanToes_42 : decode cX2_meanToes 42 = .ok (.i2l, 1) := by decide +kernel
theorem dX2_meanToes_43 : decode cX2_meanToes 43 = .ok (.iload_n 1, 1) := by decide +kernel
theorem dX2_meanToes_44 : decode cX2_meanToes 44 = .ok (.invokestatic 38, 3) := by decide +kernel
theorem dX2_meanToes_47 : decode cX2_meanToes 47 = .ok (.lreturn, 1) := by decide +kernel
set_option maxRecDepth 20000 in
theorem ggX2_partOf_X2_greatestDivisor : GoodIn wsX2_partOf wsX2_greatestDivisor := goodIn_r _ [4] (by decide +kernel) (by decide +kernel)
set_option maxRecDepth 20000 in
theorem gX2_partOf_X2_greatestDivisor : GoodIn wsX2_partOf (va_wsS RX2 50 yX2_greatestDivisor wsX2_greatestDivisor) := goodIn_app (goodIn_of _ (by decide +kernel)) ggX2_partOf_X2_greatestDivisor
theorem dX2_partOf_0 : decode cX2_partOf 0 = .ok (.lload_n 0, 1) := by decide +kernel
theorem dX2_partOf_1 : decode cX2_partOf 1 = .ok (.lload_n 2, 1) := by decide +kernel
theorem dX2_partOf_2 : decode cX2_partOf 2 = .ok (.invokestatic 50, 3) := by decide +kernel
theorem dX2_partOf_5 : decode cX2_partOf 5 = .ok (.lstore 5, 2) := by decide +kernel
theorem dX2_partOf_7 : decode cX2_partOf 7 = .ok (.lload 5, 2) := by decide +kernel
theorem dX2_partOf_9 : decode cX2_partOf 9 = .ok (.lconst 0, 1) := by decide +kernel
theorem dX2_partOf_10 : decode cX2_partOf 10 = .ok (.lcmp, 1) := by decide +kernel
theorem dX2_partOf_11 : decode cX2_partOf 11 = .ok (.ifCond .ne 7, 3) := by decide +kernel
theorem dX2_partOf_14 : decode cX2_partOf 14 = .ok (.iload 4, 2) := by decide +kernel
theorem dX2_partOf_16 : decode cX2_partOf 16 = .ok (.i2l, 1) := by decide +kernel
theorem dX2_partOf_17 : decode cX2_partOf 17 = .ok (.lreturn, 1) := by decide +kernel
theorem dX2_partOf_18 : decode cX2_partOf 18 = .ok (.iload 4, 2) := by decide +kernel
theorem dX2_partOf_20 : decode cX2_partOf 20 = .ok (.ifCond .ne 7, 3) := by decide +kernel
theorem dX2_partOf_23 : decode cX2_partOf 23 = .ok (.lload_n 0, 1) := by decide +kernel
theorem dX2_partOf_24 : decode cX2_partOf 24 = .ok (.goto 4, 3) := by decide +kernel
theorem dX2_partOf_27 : decode cX2_partOf 27 = .ok (.lload_n 2, 1) := by decide +kernel
theorem dX2_partOf_28 : decode cX2_partOf 28 = .ok (.lload 5, 2) := by decide +kernel
theorem dX2_partOf_30 : decode cX2_partOf 30 = .ok (.ldiv, 1) := by decide +kernel
theorem dX2_partOf_31 : decode cX2_partOf 31 = .ok (.lreturn, 1) := by decide +kernel
theorem dX2_greatestDivisor_0 : decode cX2_greatestDivisor 0 = .ok (.lload_n 0, 1) := by decide +kernel
theorem dX2_greatestDivisor_1 : decode cX2_greatestDivisor 1 = .ok (.lstore 4, 2) := by decide +kernel
theorem dX2_greatestDivisor_3 : decode cX2_greatestDivisor 3 = .ok (.lload_n 2, 1) := by decide +kernel
theorem dX2_greatestDivisor_4 : decode cX2_greatestDivisor 4 = .ok (.lstore 6, 2) := by decide +kernel
theorem dX2_greatestDivisor_6 : decode cX2_greatestDivisor 6 = .ok (.iconst 0, 1) := by decide +kernel
theorem dX2_greatestDivisor_7 : decode cX2_greatestDivisor 7 = .ok (.istore 8, 2) := by decide +kernel
theorem dX2_greatestDivisor_9 : decode cX2_greatestDivisor 9 = .ok (.iload 8, 2) := by decide +kernel
theorem dX2_greatestDivisor_11 : decode cX2_greatestDivisor 11 = .ok (.bipush 100, 2) := by decide +kernel
theorem dX2_greatestDivisor_13 : decode cX2_greatestDivisor 13 = .ok (.if_icmp .ge 31, 3) := by decide +kernel
theorem dX2_greatestDivisor_16 : decode cX2_greatestDivisor 16 = .ok (.lload 6, 2) := by decide +kernel
theorem dX2_greatestDivisor_18 : decode cX2_greatestDivisor 18 = .ok (.lconst 0, 1) := by decide +kernel
theorem dX2_greatestDivisor_19 : decode cX2_greatestDivisor 19 = .ok (.lcmp, 1) := by decide +kernel
theorem dX2_greatestDivisor_20 : decode cX2_greatestDivisor 20 = .ok (.ifCond .eq 24, 3) := by decide +kernel
theorem dX2_greatestDivisor_23 : decode cX2_greatestDivisor 23 = .ok (.lload 4, 2) := by decide +kernel
theorem dX2_greatestDivisor_25 : decode cX2_greatestDivisor 25 = .ok (.lload 6, 2) := by decide +kernel
theorem dX2_greatestDivisor_27 : decode cX2_greatestDivisor 27 = .ok (.lrem, 1) := by decide +kernel
theorem dX2_greatestDivisor_28 : decode cX2_greatestDivisor 28 = .ok (.lstore 9, 2) := by decide +kernel
theorem dX2_greatestDivisor_30 : decode cX2_greatestDivisor 30 = .ok (.lload 6, 2) := by decide +kernel
theorem dX2_greatestDivisor_32 : decode cX2_greatestDivisor 32 = .ok (.lstore 4, 2) := by decide +kernel
theorem dX2_greatestDivisor_34 : decode cX2_greatestDivisor 34 = .ok (.lload 9, 2) := by decide +kernel
theorem dX2_greatestDivisor_36 : decode cX2_greatestDivisor 36 = .ok (.lstore 6, 2) := by decide +kernel
theorem dX2_greatestDivisor_38 : decode cX2_greatestDivisor 38 = .ok (.iinc 8 1, 3) := by decide +kernel
theorem dX2_greatestDivisor_41 : decode cX2_greatestDivisor 41 = .ok (.goto (-32), 3) := by decide +kernel
theorem dX2_greatestDivisor_44 : decode cX2_greatestDivisor 44 = .ok (.lload 4, 2) := by decide +kernel
theorem dX2_greatestDivisor_46 : decode cX2_greatestDivisor 46 = .ok (.lreturn, 1) := by decide +kernel
theorem dX3_init_0 : decode cX3_init 0 = .ok (.aload_n 0, 1) := by decide +kernel
theorem dX3_init_1 : decode cX3_init 1 = .ok (.invokespecial 3, 3) := by decide +kernel
theorem dX3_init_4 : decode cX3_init 4 = .ok (.aload_n 0, 1) := by decide +kernel
theorem dX3_init_5 : decode cX3_init 5 = .ok (.iconst 5, 1) := by decide +kernel
theorem dX3_init_6 : decode cX3_init 6 = .ok (.newarray .int, 2) := by decide +kernel
theorem dX3_init_8 : decode cX3_init 8 = .ok (.putfield 9, 3) := by decide +kernel
theorem dX3_init_11 : decode cX3_init 11 = .ok (.return_, 1) := by decide +kernel
set_option maxRecDepth 20000 in
theorem ggX3_look_X6_isUnmarried : GoodIn wsX3_look wsX6_isUnmarried := goodIn_r _ [8, 9, 10, 11, 12, 60, 61, 62, 63, 64, 65, 66, 67, 68, 69, 70, 71] (by decide +kernel) (by decide +kernel)
set_option maxRecDepth 20000 in
theorem gX3_look_X6_isUnmarried : GoodIn wsX3_look (wsV RX3 22 RX6 yX6_isUnmarried wsX6_isUnmarried) := goodIn_app (goodIn_of _ (by decide +kernel)) ggX3_look_X6_isUnmarried
set_option maxRecDepth 20000 in
theorem ggX3_look_X3_notKnownTo : GoodIn wsX3_look wsX3_notKnownTo := goodIn_r _ [16, 17, 18, 19, 7, 20, 21, 22, 11, 23, 24, 25, 26, 27, 28, 29, 30, 31, 32, 33, 34, 35, 36, 37, 10, 12, 38, 39, 40, 41, 42, 43, 44, 45, 46, 47, 48, 49, 50, 51, 52, 53, 54, 55, 56, 57, 60, 61, 62, 63, 64, 65, 66, 67, 68, 69, 70, 71] (by decide +kernel) (by decide +kernel)
set_option maxRecDepth 20000 in
theorem gX3_look_X3_notKnownTo : GoodIn wsX3_look (va_wsS RX3 26 yX3_notKnownTo wsX3_notKnownTo) := goodIn_app (goodIn_of _ (by decide +kernel)) ggX3_look_X3_notKnownTo
set_option maxRecDepth 20000 in
theorem ggX3_look_X7_put : GoodIn wsX3_look wsX7_put := goodIn_r _ [59] (by decide +kernel) (by decide +kernel)
set_option maxRecDepth 20000 in
theorem gX3_look_X7_put_n30 : GoodIn wsX3_look (wsX7_put) := ggX3_look_X7_put
theorem dX3_look_0 : decode cX3_look 0 = .ok (.aload_n 0, 1) := by decide +kernel
theorem dX3_look_1 : decode cX3_look 1 = .ok (.aload_n 1, 1) := by decide +kernel
theorem dX3_look_2 : decode cX3_look 2 = .ok (.getfield 15, 3) := by decide +kernel
theorem dX3_look_5 : decode cX3_look 5 = .ok (.putfield 21, 3) := by decide +kernel
theorem dX3_look_8 : decode cX3_look 8 = .ok (.iconst 0, 1) := by decide +kernel
theorem dX3_look_9 : decode cX3_look 9 = .ok (.istore_n 2, 1) := by decide +kernel
theorem dX3_look_10 : decode cX3_look 10 = .ok (.iload_n 2, 1) := by decide +kernel
theorem dX3_look_11 : decode cX3_look 11 = .ok (.aload_n 0, 1) := by decide +kernel
theorem dX3_look_12 : decode cX3_look 12 = .ok (.getfield 21, 3) := by decide +kernel
theorem dX3_look_15 : decode cX3_look 15 = .ok (.if_icmp .ge 34, 3) := by decide +kernel
theorem dX3_look_18 : decode cX3_look 18 = .ok (.aload_n 0, 1) := by decide +kernel
theorem dX3_look_19 : decode cX3_look 19 = .ok (.getfield 9, 3) := by decide +kernel
theorem dX3_look_22 : decode cX3_look 22 = .ok (.iload_n 2, 1) := by decide +kernel
theorem dX3_look_23 : decode cX3_look 23 = .ok (.aload_n 1, 1) := by decide +kernel
theorem dX3_look_24 : decode cX3_look 24 = .ok (.iload_n 2, 1) := by decide +kernel
theorem dX3_look_25 : decode cX3_look 25 = .ok (.invokevirtual 22, 3) := by decide +kernel
theorem dX3_look_28 : decode cX3_look 28 = .ok (.ifCond .eq 11, 3) := by decide +kernel
theorem dX3_look_31 : decode cX3_look 31 = .ok (.aload_n 1, 1) := by decide +kernel
theorem dX3_look_32 : decode cX3_look 32 = .ok (.iload_n 2, 1) := by decide +kernel
theorem dX3_look_33 : decode cX3_look 33 = .ok (.invokestatic 26, 3) := by decide +kernel
theorem dX3_look_36 : decode cX3_look 36 = .ok (.goto 4, 3) := by decide +kernel
theorem dX3_look_39 : decode cX3_look 39 = .ok (.iconst 0, 1) := by decide +kernel
theorem dX3_look_40 : decode cX3_look 40 = .ok (.invokestatic 30, 3) := by decide +kernel
theorem dX3_look_43 : decode cX3_look 43 = .ok (.iinc 2 1, 3) := by decide +kernel
theorem dX3_look_46 : decode cX3_look 46 = .ok (.goto (-36), 3) := by decide +kernel
theorem dX3_look_49 : decode cX3_look 49 = .ok (.return_, 1) := by decide +kernel
set_option maxRecDepth 20000 in
theorem ggX3_notKnownTo_X6_knows : GoodIn wsX3_notKnownTo wsX6_knows := goodIn_r _ [5, 6, 7, 8, 9, 10, 11, 12, 4, 13, 14, 15, 16, 17, 18, 19, 20, 21, 22, 23, 24, 25, 26, 27, 28, 29, 30, 31, 32, 33, 34, 35, 36, 37, 38, 39, 40, 41, 42, 43, 44, 46, 47, 48, 49, 50, 51, 52, 53, 54, 55, 56, 57] (by decide +kernel) (by decide +kernel)
set_option maxRecDepth 20000 in
theorem gX3_notKnownTo_X6_knows : GoodIn wsX3_notKnownTo (wsV RX3 34 RX6 yX6_knows wsX6_knows) := goodIn_app (goodIn_of _ (by decide +kernel)) ggX3_notKnownTo_X6_knows
set_option maxRecDepth 20000 in
theorem ggX3_notKnownTo_X6_hereThen : GoodIn wsX3_notKnownTo wsX6_hereThen := goodIn_r _ [21, 15, 22, 23, 24, 8, 25, 7, 9, 46, 47, 48, 49, 50, 51, 52, 53, 54, 55, 56, 57] (by decide +kernel) (by decide +kernel)
set_option maxRecDepth 20000 in
theorem gX3_notKnownTo_X6_hereThen : GoodIn wsX3_notKnownTo (wsV RX3 38 RX6 yX6_hereThen wsX6_hereThen) := goodIn_app (goodIn_of _ (by decide +kernel)) ggX3_notKnownTo_X6_hereThen
theorem dX3_notKnownTo_0 : decode cX3_notKnownTo 0 = .ok (.aload_n 0, 1) := by decide +kernel
theorem dX3_notKnownTo_1 : decode cX3_notKnownTo 1 = .ok (.iload_n 1, 1) := by decide +kernel
theorem dX3_notKnownTo_2 : decode cX3_notKnownTo 2 = .ok (.iconst 0, 1) := by decide +kernel
theorem dX3_notKnownTo_3 : decode cX3_notKnownTo 3 = .ok (.invokevirtual 34, 3) := by decide +kernel
theorem dX3_notKnownTo_6 : decode cX3_notKnownTo 6 = .ok (.istore_n 2, 1) := by decide +kernel
theorem dX3_notKnownTo_7 : decode cX3_notKnownTo 7 = .ok (.aload_n 0, 1) := by decide +kernel
theorem dX3_notKnownTo_8 : decode cX3_notKnownTo 8 = .ok (.iconst 0, 1) := by decide +kernel
theorem dX3_notKnownTo_9 : decode cX3_notKnownTo 9 = .ok (.invokevirtual 38, 3) := by decide +kernel
theorem dX3_notKnownTo_12 : decode cX3_notKnownTo 12 = .ok (.istore_n 3, 1) := by decide +kernel
theorem dX3_notKnownTo_13 : decode cX3_notKnownTo 13 = .ok (.iload_n 2, 1) := by decide +kernel
theorem dX3_notKnownTo_14 : decode cX3_notKnownTo 14 = .ok (.bipush (-9), 2) := by decide +kernel
theorem dX3_notKnownTo_16 : decode cX3_notKnownTo 16 = .ok (.if_icmp .ne 7, 3) := by decide +kernel
theorem dX3_notKnownTo_19 : decode cX3_notKnownTo 19 = .ok (.iload_n 3, 1) := by decide +kernel
theorem dX3_notKnownTo_20 : decode cX3_notKnownTo 20 = .ok (.goto 10, 3) := by decide +kernel
theorem dX3_notKnownTo_23 : decode cX3_notKnownTo 23 = .ok (.iload_n 3, 1) := by decide +kernel
theorem dX3_notKnownTo_24 : decode cX3_notKnownTo 24 = .ok (.iconst 1, 1) := by decide +kernel
theorem dX3_notKnownTo_25 : decode cX3_notKnownTo 25 = .ok (.iload_n 2, 1) := by decide +kernel
theorem dX3_notKnownTo_26 : decode cX3_notKnownTo 26 = .ok (.ishl, 1) := by decide +kernel
theorem dX3_notKnownTo_27 : decode cX3_notKnownTo 27 = .ok (.iconst (-1), 1) := by decide +kernel
theorem dX3_notKnownTo_28 : decode cX3_notKnownTo 28 = .ok (.ixor, 1) := by decide +kernel
theorem dX3_notKnownTo_29 : decode cX3_notKnownTo 29 = .ok (.iand, 1) := by decide +kernel
theorem dX3_notKnownTo_30 : decode cX3_notKnownTo 30 = .ok (.ireturn, 1) := by decide +kernel
set_option maxRecDepth 20000 in
theorem ggX3_most_X3_mayHaveAny : GoodIn wsX3_most wsX3_mayHaveAny := goodIn_r _ [13, 14, 15, 16, 17, 18, 19, 27, 28] (by decide +kernel) (by decide +kernel)
set_option maxRecDepth 20000 in
theorem gX3_most_X3_mayHaveAny : GoodIn wsX3_most (wsV RX3 47 RX3 yX3_mayHaveAny wsX3_mayHaveAny) := goodIn_app (goodIn_of _ (by decide +kernel)) ggX3_most_X3_mayHaveAny
set_option maxRecDepth 20000 in
theorem ggX3_most_J6_bitCount_0f7a4 : GoodIn wsX3_most wsJ6_bitCount_0f7a4 := goodIn_r _ [23, 24, 25, 26] (by decide +kernel) (by decide +kernel)
set_option maxRecDepth 20000 in
theorem gX3_most_J6_bitCount_0f7a4 : GoodIn wsX3_most (va_wsS RX3 50 yJ6_bitCount_0f7a4 wsJ6_bitCount_0f7a4) := goodIn_app (goodIn_of _ (by decide +kernel)) ggX3_most_J6_bitCount_0f7a4
theorem dX3_most_0 : decode cX3_most 0 = .ok (.iconst 0, 1) := by decide +kernel
theorem dX3_most_1 : decode cX3_most 1 = .ok (.aload_n 0, 1) := by decide +kernel
theorem dX3_most_2 : decode cX3_most 2 = .ok (.getfield 21, 3) := by decide +kernel
theorem dX3_most_5 : decode cX3_most 5 = .ok (.iload_n 1, 1) := by decide +kernel
theorem dX3_most_6 : decode cX3_most 6 = .ok (.isub, 1) := by decide +kernel
theorem dX3_most_7 : decode cX3_most 7 = .ok (.invokestatic 42, 3) := by decide +kernel
theorem dX3_most_10 : decode cX3_most 10 = .ok (.istore_n 3, 1) := by decide +kernel
theorem dX3_most_11 : decode cX3_most 11 = .ok (.iload_n 3, 1) := by decide +kernel
theorem dX3_most_12 : decode cX3_most 12 = .ok (.istore 4, 2) := by decide +kernel
theorem dX3_most_14 : decode cX3_most 14 = .ok (.iconst 0, 1) := by decide +kernel
theorem dX3_most_15 : decode cX3_most 15 = .ok (.istore 5, 2) := by decide +kernel
theorem dX3_most_17 : decode cX3_most 17 = .ok (.iload 5, 2) := by decide +kernel
theorem dX3_most_19 : decode cX3_most 19 = .ok (.iconst 1, 1) := by decide +kernel
theorem dX3_most_20 : decode cX3_most 20 = .ok (.iload_n 3, 1) := by decide +kernel
theorem dX3_most_21 : decode cX3_most 21 = .ok (.ishl, 1) := by decide +kernel
theorem dX3_most_22 : decode cX3_most 22 = .ok (.if_icmp .ge 42, 3) := by decide +kernel
theorem dX3_most_25 : decode cX3_most 25 = .ok (.aload_n 0, 1) := by decide +kernel
theorem dX3_most_26 : decode cX3_most 26 = .ok (.iload 5, 2) := by decide +kernel
theorem dX3_most_28 : decode cX3_most 28 = .ok (.iload_n 1, 1) := by decide +kernel
theorem dX3_most_29 : decode cX3_most 29 = .ok (.invokevirtual 47, 3) := by decide +kernel
theorem dX3_most_32 : decode cX3_most 32 = .ok (.iload_n 2, 1) := by decide +kernel
theorem dX3_most_33 : decode cX3_most 33 = .ok (.iconst (-1), 1) := by decide +kernel
theorem dX3_most_34 : decode cX3_most 34 = .ok (.ixor, 1) := by decide +kernel
theorem dX3_most_35 : decode cX3_most 35 = .ok (.iand, 1) := by decide +kernel
theorem dX3_most_36 : decode cX3_most 36 = .ok (.invokestatic 50, 3) := by decide +kernel
theorem dX3_most_39 : decode cX3_most 39 = .ok (.istore 6, 2) := by decide +kernel
theorem dX3_most_41 : decode cX3_most 41 = .ok (.iload 4, 2) := by decide +kernel
theorem dX3_most_43 : decode cX3_most 43 = .ok (.iload_n 3, 1) := by decide +kernel
theorem dX3_most_44 : decode cX3_most 44 = .ok (.iload 5, 2) := by decide +kernel
theorem dX3_most_46 : decode cX3_most 46 = .ok (.invokestatic 50, 3) := by decide +kernel
theorem dX3_most_49 : decode cX3_most 49 = .ok (.isub, 1) := by decide +kernel
theorem dX3_most_50 : decode cX3_most 50 = .ok (.iload 6, 2) := by decide +kernel
theorem dX3_most_52 : decode cX3_most 52 = .ok (.iadd, 1) := by decide +kernel
theorem dX3_most_53 : decode cX3_most 53 = .ok (.invokestatic 55, 3) := by decide +kernel
theorem dX3_most_56 : decode cX3_most 56 = .ok (.istore 4, 2) := by decide +kernel
theorem dX3_most_58 : decode cX3_most 58 = .ok (.iinc 5 1, 3) := by decide +kernel
theorem dX3_most_61 : decode cX3_most 61 = .ok (.goto (-44), 3) := by decide +kernel
theorem dX3_most_64 : decode cX3_most 64 = .ok (.iload 4, 2) := by decide +kernel
theorem dX3_most_66 : decode cX3_most 66 = .ok (.ireturn, 1) := by decide +kernel
set_option maxRecDepth 20000 in
theorem ggX3_mayHaveAny_X7_has : GoodIn wsX3_mayHaveAny wsX7_has := goodIn_r _ [4] (by decide +kernel) (by decide +kernel)
set_option maxRecDepth 20000 in
theorem gX3_mayHaveAny_X7_has_n58 : GoodIn wsX3_mayHaveAny (wsX7_has) := ggX3_mayHaveAny_X7_has
set_option maxRecDepth 20000 in
theorem ggX3_mayHaveAny_X7_at : GoodIn wsX3_mayHaveAny wsX7_at := goodIn_r _ [6] (by decide +kernel) (by decide +kernel)
set_option maxRecDepth 20000 in
theorem gX3_mayHaveAny_X7_at_n62 : GoodIn wsX3_mayHaveAny (wsX7_at) := ggX3_mayHaveAny_X7_at
theorem dX3_mayHaveAny_0 : decode cX3_mayHaveAny 0 = .ok (.iconst 0, 1) := by decide +kernel
theorem dX3_mayHaveAny_1 : decode cX3_mayHaveAny 1 = .ok (.istore_n 3, 1) := by decide +kernel
theorem dX3_mayHaveAny_2 : decode cX3_mayHaveAny 2 = .ok (.iconst 0, 1) := by decide +kernel
theorem dX3_mayHaveAny_3 : decode cX3_mayHaveAny 3 = .ok (.istore 4, 2) := by decide +kernel
theorem dX3_mayHaveAny_5 : decode cX3_mayHaveAny 5 = .ok (.iload 4, 2) := by decide +kernel
theorem dX3_mayHaveAny_7 : decode cX3_mayHaveAny 7 = .ok (.iconst 5, 1) := by decide +kernel
theorem dX3_mayHaveAny_8 : decode cX3_mayHaveAny 8 = .ok (.if_icmp .ge 32, 3) := by decide +kernel
theorem dX3_mayHaveAny_11 : decode cX3_mayHaveAny 11 = .ok (.iload_n 1, 1) := by decide +kernel
theorem dX3_mayHaveAny_12 : decode cX3_mayHaveAny 12 = .ok (.iload 4, 2) := by decide +kernel
theorem dX3_mayHaveAny_14 : decode cX3_mayHaveAny 14 = .ok (.invokestatic 58, 3) := by decide +kernel
theorem dX3_mayHaveAny_17 : decode cX3_mayHaveAny 17 = .ok (.ifCond .eq 17, 3) := by decide +kernel
theorem dX3_mayHaveAny_20 : decode cX3_mayHaveAny 20 = .ok (.iload_n 3, 1) := by decide +kernel
theorem dX3_mayHaveAny_21 : decode cX3_mayHaveAny 21 = .ok (.aload_n 0, 1) := by decide +kernel
theorem dX3_mayHaveAny_22 : decode cX3_mayHaveAny 22 = .ok (.getfield 9, 3) := by decide +kernel
theorem dX3_mayHaveAny_25 : decode cX3_mayHaveAny 25 = .ok (.iload_n 2, 1) := by decide +kernel
theorem dX3_mayHaveAny_26 : decode cX3_mayHaveAny 26 = .ok (.iload 4, 2) := by decide +kernel
theorem dX3_mayHaveAny_28 : decode cX3_mayHaveAny 28 = .ok (.iadd, 1) := by decide +kernel
theorem dX3_mayHaveAny_29 : decode cX3_mayHaveAny 29 = .ok (.invokestatic 62, 3) := by decide +kernel
theorem dX3_mayHaveAny_32 : decode cX3_mayHaveAny 32 = .ok (.ior, 1) := by decide +kernel
theorem dX3_mayHaveAny_33 : decode cX3_mayHaveAny 33 = .ok (.istore_n 3, 1) := by decide +kernel
theorem dX3_mayHaveAny_34 : decode cX3_mayHaveAny 34 = .ok (.iinc 4 1, 3) := by decide +kernel
theorem dX3_mayHaveAny_37 : decode cX3_mayHaveAny 37 = .ok (.goto (-32), 3) := by decide +kernel
theorem dX3_mayHaveAny_40 : decode cX3_mayHaveAny 40 = .ok (.iload_n 3, 1) := by decide +kernel
theorem dX3_mayHaveAny_41 : decode cX3_mayHaveAny 41 = .ok (.ireturn, 1) := by decide +kernel
set_option maxRecDepth 20000 in
theorem ggX3_partnerOf_X3_firstPartner : GoodIn wsX3_partnerOf wsX3_firstPartner := goodIn_r _ [6, 7, 8, 9, 10, 5, 11, 1, 12, 13, 14, 15, 16, 17, 18, 19, 20, 21, 22, 23, 24, 25, 26, 27, 28, 29, 30, 31, 32, 33, 34, 35, 36] (by decide +kernel) (by decide +kernel)
set_option maxRecDepth 20000 in
theorem gX3_partnerOf_X3_firstPartner : GoodIn wsX3_partnerOf (wsV RX3 66 RX3 yX3_firstPartner wsX3_firstPartner) := goodIn_app (goodIn_of _ (by decide +kernel)) ggX3_partnerOf_X3_firstPartner
theorem dX3_partnerOf_0 : decode cX3_partnerOf 0 = .ok (.iconst 0, 1) := by decide +kernel
theorem dX3_partnerOf_1 : decode cX3_partnerOf 1 = .ok (.istore_n 2, 1) := by decide +kernel
theorem dX3_partnerOf_2 : decode cX3_partnerOf 2 = .ok (.bipush (-9), 2) := by decide +kernel
theorem dX3_partnerOf_4 : decode cX3_partnerOf 4 = .ok (.istore_n 3, 1) := by decide +kernel
theorem dX3_partnerOf_5 : decode cX3_partnerOf 5 = .ok (.iconst 0, 1) := by decide +kernel
theorem dX3_partnerOf_6 : decode cX3_partnerOf 6 = .ok (.istore 4, 2) := by decide +kernel
theorem dX3_partnerOf_8 : decode cX3_partnerOf 8 = .ok (.iload 4, 2) := by decide +kernel
theorem dX3_partnerOf_10 : decode cX3_partnerOf 10 = .ok (.iload_n 1, 1) := by decide +kernel
theorem dX3_partnerOf_11 : decode cX3_partnerOf 11 = .ok (.if_icmp .gt 38, 3) := by decide +kernel
theorem dX3_partnerOf_14 : decode cX3_partnerOf 14 = .ok (.iload 4, 2) := by decide +kernel
theorem dX3_partnerOf_16 : decode cX3_partnerOf 16 = .ok (.aload_n 0, 1) := by decide +kernel
theorem dX3_partnerOf_17 : decode cX3_partnerOf 17 = .ok (.getfield 21, 3) := by decide +kernel
theorem dX3_partnerOf_20 : decode cX3_partnerOf 20 = .ok (.if_icmp .ge 29, 3) := by decide +kernel
theorem dX3_partnerOf_23 : decode cX3_partnerOf 23 = .ok (.aload_n 0, 1) := by decide +kernel
theorem dX3_partnerOf_24 : decode cX3_partnerOf 24 = .ok (.iload 4, 2) := by decide +kernel
theorem dX3_partnerOf_26 : decode cX3_partnerOf 26 = .ok (.iload_n 2, 1) := by decide +kernel
theorem dX3_partnerOf_27 : decode cX3_partnerOf 27 = .ok (.invokevirtual 66, 3) := by decide +kernel
theorem dX3_partnerOf_30 : decode cX3_partnerOf 30 = .ok (.istore_n 3, 1) := by decide +kernel
theorem dX3_partnerOf_31 : decode cX3_partnerOf 31 = .ok (.iload_n 3, 1) := by decide +kernel
theorem dX3_partnerOf_32 : decode cX3_partnerOf 32 = .ok (.bipush (-9), 2) := by decide +kernel
theorem dX3_partnerOf_34 : decode cX3_partnerOf 34 = .ok (.if_icmp .eq 9, 3) := by decide +kernel
theorem dX3_partnerOf_37 : decode cX3_partnerOf 37 = .ok (.iload_n 2, 1) := by decide +kernel
theorem dX3_partnerOf_38 : decode cX3_partnerOf 38 = .ok (.iconst 1, 1) := by decide +kernel
theorem dX3_partnerOf_39 : decode cX3_partnerOf 39 = .ok (.iload_n 3, 1) := by decide +kernel
theorem dX3_partnerOf_40 : decode cX3_partnerOf 40 = .ok (.ishl, 1) := by decide +kernel
theorem dX3_partnerOf_41 : decode cX3_partnerOf 41 = .ok (.ior, 1) := by decide +kernel
theorem dX3_partnerOf_42 : decode cX3_partnerOf 42 = .ok (.istore_n 2, 1) := by decide +kernel
theorem dX3_partnerOf_43 : decode cX3_partnerOf 43 = .ok (.iinc 4 1, 3) := by decide +kernel
theorem dX3_partnerOf_46 : decode cX3_partnerOf 46 = .ok (.goto (-38), 3) := by decide +kernel
theorem dX3_partnerOf_49 : decode cX3_partnerOf 49 = .ok (.iload_n 3, 1) := by decide +kernel
theorem dX3_partnerOf_50 : decode cX3_partnerOf 50 = .ok (.ireturn, 1) := by decide +kernel
set_option maxRecDepth 20000 in
theorem ggX3_firstPartner_X3_most : GoodIn wsX3_firstPartner wsX3_most := goodIn_r _ [6, 7, 8, 9, 10, 11, 12, 13, 14, 15, 16, 17, 5, 18, 1, 19, 20, 21, 22, 23, 24, 25, 26, 27, 28, 29, 30, 31, 32] (by decide +kernel) (by decide +kernel)
set_option maxRecDepth 20000 in
theorem gX3_firstPartner_X3_most : GoodIn wsX3_firstPartner (wsV RX3 69 RX3 yX3_most wsX3_most) := goodIn_app (goodIn_of _ (by decide +kernel)) ggX3_firstPartner_X3_most
set_option maxRecDepth 20000 in
theorem ggX3_firstPartner_X7_at : GoodIn wsX3_firstPartner wsX7_at := goodIn_r _ [23] (by decide +kernel) (by decide +kernel)
set_option maxRecDepth 20000 in
theorem gX3_firstPartner_X7_at_n62 : GoodIn wsX3_firstPartner (wsX7_at) := ggX3_firstPartner_X7_at
set_option maxRecDepth 20000 in
theorem ggX3_firstPartner_X7_has : GoodIn wsX3_firstPartner wsX7_has := goodIn_r _ [21] (by decide +kernel) (by decide +kernel)
set_option maxRecDepth 20000 in
theorem gX3_firstPartner_X7_has_n58 : GoodIn wsX3_firstPartner (wsX7_has) := ggX3_firstPartner_X7_has
theorem dX3_firstPartner_0 : decode cX3_firstPartner 0 = .ok (.aload_n 0, 1) := by decide +kernel
theorem dX3_firstPartner_1 : decode cX3_firstPartner 1 = .ok (.iload_n 1, 1) := by decide +kernel
theorem dX3_firstPartner_2 : decode cX3_firstPartner 2 = .ok (.iload_n 2, 1) := by decide +kernel
theorem dX3_firstPartner_3 : decode cX3_firstPartner 3 = .ok (.invokevirtual 69, 3) := by decide +kernel
theorem dX3_firstPartner_6 : decode cX3_firstPartner 6 = .ok (.istore_n 3, 1) := by decide +kernel
theorem dX3_firstPartner_7 : decode cX3_firstPartner 7 = .ok (.iconst 0, 1) := by decide +kernel
theorem dX3_firstPartner_8 : decode cX3_firstPartner 8 = .ok (.istore 4, 2) := by decide +kernel
theorem dX3_firstPartner_10 : decode cX3_firstPartner 10 = .ok (.iload 4, 2) := by decide +kernel
theorem dX3_firstPartner_12 : decode cX3_firstPartner 12 = .ok (.bipush 8, 2) := by decide +kernel
theorem dX3_firstPartner_14 : decode cX3_firstPartner 14 = .ok (.if_icmp .ge 55, 3) := by decide +kernel
theorem dX3_firstPartner_17 : decode cX3_firstPartner 17 = .ok (.aload_n 0, 1) := by decide +kernel
theorem dX3_firstPartner_18 : decode cX3_firstPartner 18 = .ok (.getfield 9, 3) := by decide +kernel
theorem dX3_firstPartner_21 : decode cX3_firstPartner 21 = .ok (.iload_n 1, 1) := by decide +kernel
theorem dX3_firstPartner_22 : decode cX3_firstPartner 22 = .ok (.invokestatic 62, 3) := by decide +kernel
theorem dX3_firstPartner_25 : decode cX3_firstPartner 25 = .ok (.iload_n 2, 1) := by decide +kernel
theorem dX3_firstPartner_26 : decode cX3_firstPartner 26 = .ok (.iconst (-1), 1) := by decide +kernel
theorem dX3_firstPartner_27 : decode cX3_firstPartner 27 = .ok (.ixor, 1) := by decide +kernel
theorem dX3_firstPartner_28 : decode cX3_firstPartner 28 = .ok (.iand, 1) := by decide +kernel
theorem dX3_firstPartner_29 : decode cX3_firstPartner 29 = .ok (.iload 4, 2) := by decide +kernel
theorem dX3_firstPartner_31 : decode cX3_firstPartner 31 = .ok (.invokestatic 58, 3) := by decide +kernel
theorem dX3_firstPartner_34 : decode cX3_firstPartner 34 = .ok (.istore 5, 2) := by decide +kernel
theorem dX3_firstPartner_36 : decode cX3_firstPartner 36 = .ok (.iload 5, 2) := by decide +kernel
theorem dX3_firstPartner_38 : decode cX3_firstPartner 38 = .ok (.ifCond .eq 25, 3) := by decide +kernel
theorem dX3_firstPartner_41 : decode cX3_firstPartner 41 = .ok (.iconst 1, 1) := by decide +kernel
theorem dX3_firstPartner_42 : decode cX3_firstPartner 42 = .ok (.aload_n 0, 1) := by decide +kernel
theorem dX3_firstPartner_43 : decode cX3_firstPartner 43 = .ok (.iload_n 1, 1) := by decide +kernel
theorem dX3_firstPartner_44 : decode cX3_firstPartner 44 = .ok (.iconst 1, 1) := by decide +kernel
theorem dX3_firstPartner_45 : decode cX3_firstPartner 45 = .ok (.iadd, 1) := by decide +kernel
theorem dX3_firstPartner_46 : decode cX3_firstPartner 46 = .ok (.iload_n 2, 1) := by decide +kernel
theorem dX3_firstPartner_47 : decode cX3_firstPartner 47 = .ok (.iconst 1, 1) := by decide +kernel
theorem dX3_firstPartner_48 : decode cX3_firstPartner 48 = .ok (.iload 4, 2) := by decide +kernel
theorem dX3_firstPartner_50 : decode cX3_firstPartner 50 = .ok (.ishl, 1) := by decide +kernel
theorem dX3_firstPartner_51 : decode cX3_firstPartner 51 = .ok (.ior, 1) := by decide +kernel
theorem dX3_firstPartner_52 : decode cX3_firstPartner 52 = .ok (.invokevirtual 69, 3) := by decide +kernel
theorem dX3_firstPartner_55 : decode cX3_firstPartner 55 = .ok (.iadd, 1) := by decide +kernel
theorem dX3_firstPartner_56 : decode cX3_firstPartner 56 = .ok (.iload_n 3, 1) := by decide +kernel
theorem dX3_firstPartner_57 : decode cX3_firstPartner 57 = .ok (.if_icmp .ne 6, 3) := by decide +kernel
theorem dX3_firstPartner_60 : decode cX3_firstPartner 60 = .ok (.iload 4, 2) := by decide +kernel
theorem dX3_firstPartner_62 : decode cX3_firstPartner 62 = .ok (.ireturn, 1) := by decide +kernel
theorem dX3_firstPartner_63 : decode cX3_firstPartner 63 = .ok (.iinc 4 1, 3) := by decide +kernel
theorem dX3_firstPartner_66 : decode cX3_firstPartner 66 = .ok (.goto (-56), 3) := by decide +kernel
theorem dX3_firstPartner_69 : decode cX3_firstPartner 69 = .ok (.bipush (-9), 2) := by decide +kernel
theorem dX3_firstPartner_71 : decode cX3_firstPartner 71 = .ok (.ireturn, 1) := by decide +kernel
theorem dX4_init_0 : decode cX4_init 0 = .ok (.aload_n 0, 1) := by decide +kernel
theorem dX4_init_1 : decode cX4_init 1 = .ok (.invokespecial 3, 3) := by decide +kernel
theorem dX4_init_4 : decode cX4_init 4 = .ok (.aload_n 0, 1) := by decide +kernel
theorem dX4_init_5 : decode cX4_init 5 = .ok (.bipush 16, 2) := by decide +kernel
theorem dX4_init_7 : decode cX4_init 7 = .ok (.newarray .int, 2) := by decide +kernel
theorem dX4_init_9 : decode cX4_init 9 = .ok (.putfield 9, 3) := by decide +kernel
theorem dX4_init_12 : decode cX4_init 12 = .ok (.return_, 1) := by decide +kernel
theorem dX4_isFull_0 : decode cX4_isFull 0 = .ok (.aload_n 0, 1) := by decide +kernel
theorem dX4_isFull_1 : decode cX4_isFull 1 = .ok (.getfield 15, 3) := by decide +kernel
theorem dX4_isFull_4 : decode cX4_isFull 4 = .ok (.bipush 16, 2) := by decide +kernel
theorem dX4_isFull_6 : decode cX4_isFull 6 = .ok (.if_icmp .lt 7, 3) := by decide +kernel
theorem dX4_isFull_9 : decode cX4_isFull 9 = .ok (.iconst 1, 1) := by decide +kernel
theorem dX4_isFull_10 : decode cX4_isFull 10 = .ok (.goto 4, 3) := by decide +kernel
theorem dX4_isFull_13 : decode cX4_isFull 13 = .ok (.iconst 0, 1) := by decide +kernel
theorem dX4_isFull_14 : decode cX4_isFull 14 = .ok (.ireturn, 1) := by decide +kernel
set_option maxRecDepth 20000 in
theorem ggX4_add_X7_put : GoodIn wsX4_add wsX7_put := goodIn_r _ [5] (by decide +kernel) (by decide +kernel)
set_option maxRecDepth 20000 in
theorem gX4_add_X7_put_n19 : GoodIn wsX4_add (wsX7_put) := ggX4_add_X7_put
theorem dX4_add_0 : decode cX4_add 0 = .ok (.aload_n 0, 1) := by decide +kernel
theorem dX4_add_1 : decode cX4_add 1 = .ok (.getfield 9, 3) := by decide +kernel
theorem dX4_add_4 : decode cX4_add 4 = .ok (.aload_n 0, 1) := by decide +kernel
theorem dX4_add_5 : decode cX4_add 5 = .ok (.getfield 15, 3) := by decide +kernel
theorem dX4_add_8 : decode cX4_add 8 = .ok (.iload_n 1, 1) := by decide +kernel
theorem dX4_add_9 : decode cX4_add 9 = .ok (.invokestatic 19, 3) := by decide +kernel
theorem dX4_add_12 : decode cX4_add 12 = .ok (.aload_n 0, 1) := by decide +kernel
theorem dX4_add_13 : decode cX4_add 13 = .ok (.dup, 1) := by decide +kernel
theorem dX4_add_14 : decode cX4_add 14 = .ok (.getfield 15, 3) := by decide +kernel
theorem dX4_add_17 : decode cX4_add 17 = .ok (.iconst 1, 1) := by decide +kernel
theorem dX4_add_18 : decode cX4_add 18 = .ok (.iadd, 1) := by decide +kernel
theorem dX4_add_19 : decode cX4_add 19 = .ok (.putfield 15, 3) := by decide +kernel
theorem dX4_add_22 : decode cX4_add 22 = .ok (.aload_n 0, 1) := by decide +kernel
theorem dX4_add_23 : decode cX4_add 23 = .ok (.getfield 15, 3) := by decide +kernel
theorem dX4_add_26 : decode cX4_add 26 = .ok (.ireturn, 1) := by decide +kernel
theorem dX4_empty_0 : decode cX4_empty 0 = .ok (.aload_n 0, 1) := by decide +kernel
theorem dX4_empty_1 : decode cX4_empty 1 = .ok (.iconst 0, 1) := by decide +kernel
theorem dX4_empty_2 : decode cX4_empty 2 = .ok (.putfield 15, 3) := by decide +kernel
theorem dX4_empty_5 : decode cX4_empty 5 = .ok (.return_, 1) := by decide +kernel
set_option maxRecDepth 20000 in
theorem ggX4_howManyToesOf_X7_at : GoodIn wsX4_howManyToesOf wsX7_at := goodIn_r _ [5] (by decide +kernel) (by decide +kernel)
set_option maxRecDepth 20000 in
theorem gX4_howManyToesOf_X7_at_n23 : GoodIn wsX4_howManyToesOf (wsX7_at) := ggX4_howManyToesOf_X7_at
set_option maxRecDepth 20000 in
theorem ggX4_howManyToesOf_X7_has : GoodIn wsX4_howManyToesOf wsX7_has := goodIn_r _ [7] (by decide +kernel) (by decide +kernel)
set_option maxRecDepth 20000 in
theorem gX4_howManyToesOf_X7_has_n27 : GoodIn wsX4_howManyToesOf (wsX7_has) := ggX4_howManyToesOf_X7_has
theorem dX4_howManyToesOf_0 : decode cX4_howManyToesOf 0 = .ok (.iconst 0, 1) := by decide +kernel
theorem dX4_howManyToesOf_1 : decode cX4_howManyToesOf 1 = .ok (.istore_n 2, 1) := by decide +kernel
theorem dX4_howManyToesOf_2 : decode cX4_howManyToesOf 2 = .ok (.iconst 0, 1) := by decide +kernel
theorem dX4_howManyToesOf_3 : decode cX4_howManyToesOf 3 = .ok (.istore_n 3, 1) := by decide +kernel
theorem dX4_howManyToesOf_4 : decode cX4_howManyToesOf 4 = .ok (.iload_n 3, 1) := by decide +kernel
theorem dX4_howManyToesOf_5 : decode cX4_howManyToesOf 5 = .ok (.aload_n 0, 1) := by decide +kernel
theorem dX4_howManyToesOf_6 : decode cX4_howManyToesOf 6 = .ok (.getfield 15, 3) := by decide +kernel
theorem dX4_howManyToesOf_9 : decode cX4_howManyToesOf 9 = .ok (.if_icmp .ge 27, 3) := by decide +kernel
theorem dX4_howManyToesOf_12 : decode cX4_howManyToesOf 12 = .ok (.iload_n 1, 1) := by decide +kernel
theorem dX4_howManyToesOf_13 : decode cX4_howManyToesOf 13 = .ok (.aload_n 0, 1) := by decide +kernel
theorem dX4_howManyToesOf_14 : decode cX4_howManyToesOf 14 = .ok (.getfield 9, 3) := by decide +kernel
theorem dX4_howManyToesOf_17 : decode cX4_howManyToesOf 17 = .ok (.iload_n 3, 1) := by decide +kernel
theorem dX4_howManyToesOf_18 : decode cX4_howManyToesOf 18 = .ok (.invokestatic 23, 3) := by decide +kernel
theorem dX4_howManyToesOf_21 : decode cX4_howManyToesOf 21 = .ok (.invokestatic 27, 3) := by decide +kernel
theorem dX4_howManyToesOf_24 : decode cX4_howManyToesOf 24 = .ok (.ifCond .eq 6, 3) := by decide +kernel
theorem dX4_howManyToesOf_27 : decode cX4_howManyToesOf 27 = .ok (.iinc 2 1, 3) := by decide +kernel
theorem dX4_howManyToesOf_30 : decode cX4_howManyToesOf 30 = .ok (.iinc 3 1, 3) := by decide +kernel
theorem dX4_howManyToesOf_33 : decode cX4_howManyToesOf 33 = .ok (.goto (-29), 3) := by decide +kernel
theorem dX4_howManyToesOf_36 : decode cX4_howManyToesOf 36 = .ok (.iload_n 2, 1) := by decide +kernel
theorem dX4_howManyToesOf_37 : decode cX4_howManyToesOf 37 = .ok (.ireturn, 1) := by decide +kernel
set_option maxRecDepth 20000 in
theorem ggX4_firstWrongGuess_X6_hasGroom : GoodIn wsX4_firstWrongGuess wsX6_hasGroom := goodIn_r _ [7, 8, 48, 49, 50, 51, 52, 53, 54, 55, 56, 57, 58, 59] (by decide +kernel) (by decide +kernel)
set_option maxRecDepth 20000 in
theorem gX4_firstWrongGuess_X6_hasGroom : GoodIn wsX4_firstWrongGuess (wsV RX4 31 RX6 yX6_hasGroom wsX6_hasGroom) := goodIn_app (goodIn_of _ (by decide +kernel)) ggX4_firstWrongGuess_X6_hasGroom
set_option maxRecDepth 20000 in
theorem ggX4_firstWrongGuess_X6_guesses : GoodIn wsX4_firstWrongGuess wsX6_guesses := goodIn_r _ [12, 13, 14, 15, 16, 17, 18, 19, 6, 20, 21, 22, 23, 24, 25, 26, 27, 28, 29, 30, 31, 32, 33, 34, 35, 36, 37, 38, 48, 49, 50, 51, 52, 53, 54, 55, 56, 57, 58, 59] (by decide +kernel) (by decide +kernel)
set_option maxRecDepth 20000 in
theorem gX4_firstWrongGuess_X6_guesses : GoodIn wsX4_firstWrongGuess (wsV RX4 37 RX6 yX6_guesses wsX6_guesses) := goodIn_app (goodIn_of _ (by decide +kernel)) ggX4_firstWrongGuess_X6_guesses
set_option maxRecDepth 20000 in
theorem ggX4_firstWrongGuess_J6_bitCount_0f7a4 : GoodIn wsX4_firstWrongGuess wsJ6_bitCount_0f7a4 := goodIn_r _ [42, 43, 44, 45] (by decide +kernel) (by decide +kernel)
set_option maxRecDepth 20000 in
theorem gX4_firstWrongGuess_J6_bitCount_0f7a4 : GoodIn wsX4_firstWrongGuess (va_wsS RX4 41 yJ6_bitCount_0f7a4 wsJ6_bitCount_0f7a4) := goodIn_app (goodIn_of _ (by decide +kernel)) ggX4_firstWrongGuess_J6_bitCount_0f7a4
set_option maxRecDepth 20000 in
theorem ggX4_firstWrongGuess_X7_at : GoodIn wsX4_firstWrongGuess wsX7_at := goodIn_r _ [16] (by decide +kernel) (by decide +kernel)
set_option maxRecDepth 20000 in
theorem gX4_firstWrongGuess_X7_at_n23 : GoodIn wsX4_firstWrongGuess (wsX7_at) := ggX4_firstWrongGuess_X7_at
theorem dX4_firstWrongGuess_0 : decode cX4_firstWrongGuess 0 = .ok (.iconst 0, 1) := by decide +kernel
theorem dX4_firstWrongGuess_1 : decode cX4_firstWrongGuess 1 = .ok (.istore_n 2, 1) := by decide +kernel
theorem dX4_firstWrongGuess_2 : decode cX4_firstWrongGuess 2 = .ok (.iload_n 2, 1) := by decide +kernel
theorem dX4_firstWrongGuess_3 : decode cX4_firstWrongGuess 3 = .ok (.aload_n 0, 1) := by decide +kernel
theorem dX4_firstWrongGuess_4 : decode cX4_firstWrongGuess 4 = .ok (.getfield 15, 3) := by decide +kernel
theorem dX4_firstWrongGuess_7 : decode cX4_firstWrongGuess 7 = .ok (.if_icmp .ge 49, 3) := by decide +kernel
theorem dX4_firstWrongGuess_10 : decode cX4_firstWrongGuess 10 = .ok (.aload_n 1, 1) := by decide +kernel
theorem dX4_firstWrongGuess_11 : decode cX4_firstWrongGuess 11 = .ok (.iload_n 2, 1) := by decide +kernel
theorem dX4_firstWrongGuess_12 : decode cX4_firstWrongGuess 12 = .ok (.invokevirtual 31, 3) := by decide +kernel
theorem dX4_firstWrongGuess_15 : decode cX4_firstWrongGuess 15 = .ok (.ifCond .eq 27, 3) := by decide +kernel
theorem dX4_firstWrongGuess_18 : decode cX4_firstWrongGuess 18 = .ok (.aload_n 1, 1) := by decide +kernel
theorem dX4_firstWrongGuess_19 : decode cX4_firstWrongGuess 19 = .ok (.iload_n 2, 1) := by decide +kernel
theorem dX4_firstWrongGuess_20 : decode cX4_firstWrongGuess 20 = .ok (.iconst 0, 1) := by decide +kernel
theorem dX4_firstWrongGuess_21 : decode cX4_firstWrongGuess 21 = .ok (.invokevirtual 37, 3) := by decide +kernel
theorem dX4_firstWrongGuess_24 : decode cX4_firstWrongGuess 24 = .ok (.invokestatic 41, 3) := by decide +kernel
theorem dX4_firstWrongGuess_27 : decode cX4_firstWrongGuess 27 = .ok (.aload_n 0, 1) := by decide +kernel
theorem dX4_firstWrongGuess_28 : decode cX4_firstWrongGuess 28 = .ok (.getfield 9, 3) := by decide +kernel
theorem dX4_firstWrongGuess_31 : decode cX4_firstWrongGuess 31 = .ok (.iload_n 2, 1) := by decide +kernel
theorem dX4_firstWrongGuess_32 : decode cX4_firstWrongGuess 32 = .ok (.invokestatic 23, 3) := by decide +kernel
theorem dX4_firstWrongGuess_35 : decode cX4_firstWrongGuess 35 = .ok (.if_icmp .ne 7, 3) := by decide +kernel
theorem dX4_firstWrongGuess_38 : decode cX4_firstWrongGuess 38 = .ok (.iconst 1, 1) := by decide +kernel
theorem dX4_firstWrongGuess_39 : decode cX4_firstWrongGuess 39 = .ok (.goto 4, 3) := by decide +kernel
theorem dX4_firstWrongGuess_42 : decode cX4_firstWrongGuess 42 = .ok (.iconst 0, 1) := by decide +kernel
theorem dX4_firstWrongGuess_43 : decode cX4_firstWrongGuess 43 = .ok (.istore_n 3, 1) := by decide +kernel
theorem dX4_firstWrongGuess_44 : decode cX4_firstWrongGuess 44 = .ok (.iload_n 3, 1) := by decide +kernel
theorem dX4_firstWrongGuess_45 : decode cX4_firstWrongGuess 45 = .ok (.ifCond .ne 5, 3) := by decide +kernel
theorem dX4_firstWrongGuess_48 : decode cX4_firstWrongGuess 48 = .ok (.iload_n 2, 1) := by decide +kernel
theorem dX4_firstWrongGuess_49 : decode cX4_firstWrongGuess 49 = .ok (.ireturn, 1) := by decide +kernel
theorem dX4_firstWrongGuess_50 : decode cX4_firstWrongGuess 50 = .ok (.iinc 2 1, 3) := by decide +kernel
theorem dX4_firstWrongGuess_53 : decode cX4_firstWrongGuess 53 = .ok (.goto (-51), 3) := by decide +kernel
theorem dX4_firstWrongGuess_56 : decode cX4_firstWrongGuess 56 = .ok (.bipush (-9), 2) := by decide +kernel
theorem dX4_firstWrongGuess_58 : decode cX4_firstWrongGuess 58 = .ok (.ireturn, 1) := by decide +kernel
set_option maxRecDepth 20000 in
theorem ggX4_kindsOf_X6_figureOf : GoodIn wsX4_kindsOf wsX6_figureOf := goodIn_r _ [5, 6, 7, 8, 9, 23, 24, 25, 26, 27, 28, 29, 30, 31, 32, 33, 34] (by decide +kernel) (by decide +kernel)
set_option maxRecDepth 20000 in
theorem gX4_kindsOf_X6_figureOf : GoodIn wsX4_kindsOf (wsV RX4 47 RX6 yX6_figureOf wsX6_figureOf) := goodIn_app (goodIn_of _ (by decide +kernel)) ggX4_kindsOf_X6_figureOf
set_option maxRecDepth 20000 in
theorem ggX4_kindsOf_X4_isShownAs : GoodIn wsX4_kindsOf wsX4_isShownAs := goodIn_r _ [14, 15, 16, 17, 18, 19, 4, 20, 21, 22, 7, 8, 9, 35, 36, 23, 24, 25, 26, 27, 28, 29, 30, 31, 32, 33, 34] (by decide +kernel) (by decide +kernel)
set_option maxRecDepth 20000 in
theorem gX4_kindsOf_X4_isShownAs : GoodIn wsX4_kindsOf (wsV RX4 50 RX4 yX4_isShownAs wsX4_isShownAs) := goodIn_app (goodIn_of _ (by decide +kernel)) ggX4_kindsOf_X4_isShownAs
theorem dX4_kindsOf_0 : decode cX4_kindsOf 0 = .ok (.iconst 0, 1) := by decide +kernel
theorem dX4_kindsOf_1 : decode cX4_kindsOf 1 = .ok (.istore_n 3, 1) := by decide +kernel
theorem dX4_kindsOf_2 : decode cX4_kindsOf 2 = .ok (.iconst 0, 1) := by decide +kernel
theorem dX4_kindsOf_3 : decode cX4_kindsOf 3 = .ok (.istore 4, 2) := by decide +kernel
theorem dX4_kindsOf_5 : decode cX4_kindsOf 5 = .ok (.iload 4, 2) := by decide +kernel
theorem dX4_kindsOf_7 : decode cX4_kindsOf 7 = .ok (.bipush 6, 2) := by decide +kernel
theorem dX4_kindsOf_9 : decode cX4_kindsOf 9 = .ok (.if_icmp .ge 32, 3) := by decide +kernel
theorem dX4_kindsOf_12 : decode cX4_kindsOf 12 = .ok (.aload_n 0, 1) := by decide +kernel
theorem dX4_kindsOf_13 : decode cX4_kindsOf 13 = .ok (.aload_n 1, 1) := by decide +kernel
theorem dX4_kindsOf_14 : decode cX4_kindsOf 14 = .ok (.iload_n 2, 1) := by decide +kernel
theorem dX4_kindsOf_15 : decode cX4_kindsOf 15 = .ok (.iload 4, 2) := by decide +kernel
theorem dX4_kindsOf_17 : decode cX4_kindsOf 17 = .ok (.aload_n 1, 1) := by decide +kernel
theorem dX4_kindsOf_18 : decode cX4_kindsOf 18 = .ok (.iload_n 2, 1) := by decide +kernel
theorem dX4_kindsOf_19 : decode cX4_kindsOf 19 = .ok (.invokevirtual 47, 3) := by decide +kernel
theorem dX4_kindsOf_22 : decode cX4_kindsOf 22 = .ok (.invokevirtual 50, 3) := by decide +kernel
theorem dX4_kindsOf_25 : decode cX4_kindsOf 25 = .ok (.ifCond .eq 10, 3) := by decide +kernel
theorem dX4_kindsOf_28 : decode cX4_kindsOf 28 = .ok (.iload_n 3, 1) := by decide +kernel
theorem dX4_kindsOf_29 : decode cX4_kindsOf 29 = .ok (.iconst 1, 1) := by decide +kernel
theorem dX4_kindsOf_30 : decode cX4_kindsOf 30 = .ok (.iload 4, 2) := by decide +kernel
theorem dX4_kindsOf_32 : decode cX4_kindsOf 32 = .ok (.ishl, 1) := by decide +kernel
theorem dX4_kindsOf_33 : decode cX4_kindsOf 33 = .ok (.ior, 1) := by decide +kernel
theorem dX4_kindsOf_34 : decode cX4_kindsOf 34 = .ok (.istore_n 3, 1) := by decide +kernel
theorem dX4_kindsOf_35 : decode cX4_kindsOf 35 = .ok (.iinc 4 1, 3) := by decide +kernel
theorem dX4_kindsOf_38 : decode cX4_kindsOf 38 = .ok (.goto (-33), 3) := by decide +kernel
theorem dX4_kindsOf_41 : decode cX4_kindsOf 41 = .ok (.iload_n 3, 1) := by decide +kernel
theorem dX4_kindsOf_42 : decode cX4_kindsOf 42 = .ok (.ireturn, 1) := by decide +kernel
set_option maxRecDepth 20000 in
theorem ggX4_figuresOf_X6_kindOf : GoodIn wsX4_figuresOf wsX6_kindOf := goodIn_r _ [5, 6, 7, 8, 9, 23, 24, 25, 26, 27, 28, 29, 30, 31, 32, 33, 34] (by decide +kernel) (by decide +kernel)
set_option maxRecDepth 20000 in
theorem gX4_figuresOf_X6_kindOf : GoodIn wsX4_figuresOf (wsV RX4 54 RX6 yX6_kindOf wsX6_kindOf) := goodIn_app (goodIn_of _ (by decide +kernel)) ggX4_figuresOf_X6_kindOf
set_option maxRecDepth 20000 in
theorem ggX4_figuresOf_X4_isShownAs : GoodIn wsX4_figuresOf wsX4_isShownAs := goodIn_r _ [14, 15, 16, 17, 18, 19, 4, 20, 21, 22, 7, 8, 9, 35, 36, 23, 24, 25, 26, 27, 28, 29, 30, 31, 32, 33, 34] (by decide +kernel) (by decide +kernel)
set_option maxRecDepth 20000 in
theorem gX4_figuresOf_X4_isShownAs : GoodIn wsX4_figuresOf (wsV RX4 50 RX4 yX4_isShownAs wsX4_isShownAs) := goodIn_app (goodIn_of _ (by decide +kernel)) ggX4_figuresOf_X4_isShownAs
theorem dX4_figuresOf_0 : decode cX4_figuresOf 0 = .ok (.iconst 0, 1) := by decide +kernel
theorem dX4_figuresOf_1 : decode cX4_figuresOf 1 = .ok (.istore_n 3, 1) := by decide +kernel
theorem dX4_figuresOf_2 : decode cX4_figuresOf 2 = .ok (.iconst 0, 1) := by decide +kernel
theorem dX4_figuresOf_3 : decode cX4_figuresOf 3 = .ok (.istore 4, 2) := by decide +kernel
theorem dX4_figuresOf_5 : decode cX4_figuresOf 5 = .ok (.iload 4, 2) := by decide +kernel
theorem dX4_figuresOf_7 : decode cX4_figuresOf 7 = .ok (.bipush 9, 2) := by decide +kernel
theorem dX4_figuresOf_9 : decode cX4_figuresOf 9 = .ok (.if_icmp .gt 32, 3) := by decide +kernel
theorem dX4_figuresOf_12 : decode cX4_figuresOf 12 = .ok (.aload_n 0, 1) := by decide +kernel
theorem dX4_figuresOf_13 : decode cX4_figuresOf 13 = .ok (.aload_n 1, 1) := by decide +kernel
theorem dX4_figuresOf_14 : decode cX4_figuresOf 14 = .ok (.iload_n 2, 1) := by decide +kernel
theorem dX4_figuresOf_15 : decode cX4_figuresOf 15 = .ok (.aload_n 1, 1) := by decide +kernel
theorem dX4_figuresOf_16 : decode cX4_figuresOf 16 = .ok (.iload_n 2, 1) := by decide +kernel
theorem dX4_figuresOf_17 : decode cX4_figuresOf 17 = .ok (.invokevirtual 54, 3) := by decide +kernel
theorem dX4_figuresOf_20 : decode cX4_figuresOf 20 = .ok (.iload 4, 2) := by decide +kernel
theorem dX4_figuresOf_22 : decode cX4_figuresOf 22 = .ok (.invokevirtual 50, 3) := by decide +kernel
theorem dX4_figuresOf_25 : decode cX4_figuresOf 25 = .ok (.ifCond .eq 10, 3) := by decide +kernel
theorem dX4_figuresOf_28 : decode cX4_figuresOf 28 = .ok (.iload_n 3, 1) := by decide +kernel
theorem dX4_figuresOf_29 : decode cX4_figuresOf 29 = .ok (.iconst 1, 1) := by decide +kernel
theorem dX4_figuresOf_30 : decode cX4_figuresOf 30 = .ok (.iload 4, 2) := by decide +kernel
theorem dX4_figuresOf_32 : decode cX4_figuresOf 32 = .ok (.ishl, 1) := by decide +kernel
theorem dX4_figuresOf_33 : decode cX4_figuresOf 33 = .ok (.ior, 1) := by decide +kernel
theorem dX4_figuresOf_34 : decode cX4_figuresOf 34 = .ok (.istore_n 3, 1) := by decide +kernel
theorem dX4_figuresOf_35 : decode cX4_figuresOf 35 = .ok (.iinc 4 1, 3) := by decide +kernel
theorem dX4_figuresOf_38 : decode cX4_figuresOf 38 = .ok (.goto (-33), 3) := by decide +kernel
theorem dX4_figuresOf_41 : decode cX4_figuresOf 41 = .ok (.iload_n 3, 1) := by decide +kernel
theorem dX4_figuresOf_42 : decode cX4_figuresOf 42 = .ok (.ireturn, 1) := by decide +kernel
set_option maxRecDepth 20000 in
theorem ggX4_isShownAs_X6_showsAs : GoodIn wsX4_isShownAs wsX6_showsAs := goodIn_r _ [7, 8, 9, 10, 11, 12, 15, 16, 17, 18, 19, 20, 21, 22, 23, 24, 25, 26] (by decide +kernel) (by decide +kernel)
set_option maxRecDepth 20000 in
theorem gX4_isShownAs_X6_showsAs : GoodIn wsX4_isShownAs (wsV RX4 57 RX6 yX6_showsAs wsX6_showsAs) := goodIn_app (goodIn_of _ (by decide +kernel)) ggX4_isShownAs_X6_showsAs
set_option maxRecDepth 20000 in
theorem ggX4_isShownAs_X7_at : GoodIn wsX4_isShownAs wsX7_at := goodIn_r _ [12] (by decide +kernel) (by decide +kernel)
set_option maxRecDepth 20000 in
theorem gX4_isShownAs_X7_at_n23 : GoodIn wsX4_isShownAs (wsX7_at) := ggX4_isShownAs_X7_at
theorem dX4_isShownAs_0 : decode cX4_isShownAs 0 = .ok (.iconst 0, 1) := by decide +kernel
theorem dX4_isShownAs_1 : decode cX4_isShownAs 1 = .ok (.istore 5, 2) := by decide +kernel
theorem dX4_isShownAs_3 : decode cX4_isShownAs 3 = .ok (.iload 5, 2) := by decide +kernel
theorem dX4_isShownAs_5 : decode cX4_isShownAs 5 = .ok (.aload_n 0, 1) := by decide +kernel
theorem dX4_isShownAs_6 : decode cX4_isShownAs 6 = .ok (.getfield 15, 3) := by decide +kernel
theorem dX4_isShownAs_9 : decode cX4_isShownAs 9 = .ok (.if_icmp .ge 33, 3) := by decide +kernel
theorem dX4_isShownAs_12 : decode cX4_isShownAs 12 = .ok (.aload_n 1, 1) := by decide +kernel
theorem dX4_isShownAs_13 : decode cX4_isShownAs 13 = .ok (.iload_n 2, 1) := by decide +kernel
theorem dX4_isShownAs_14 : decode cX4_isShownAs 14 = .ok (.iload_n 3, 1) := by decide +kernel
theorem dX4_isShownAs_15 : decode cX4_isShownAs 15 = .ok (.iload 4, 2) := by decide +kernel
theorem dX4_isShownAs_17 : decode cX4_isShownAs 17 = .ok (.iload 5, 2) := by decide +kernel
theorem dX4_isShownAs_19 : decode cX4_isShownAs 19 = .ok (.invokevirtual 57, 3) := by decide +kernel
theorem dX4_isShownAs_22 : decode cX4_isShownAs 22 = .ok (.aload_n 0, 1) := by decide +kernel
theorem dX4_isShownAs_23 : decode cX4_isShownAs 23 = .ok (.getfield 9, 3) := by decide +kernel
theorem dX4_isShownAs_26 : decode cX4_isShownAs 26 = .ok (.iload 5, 2) := by decide +kernel
theorem dX4_isShownAs_28 : decode cX4_isShownAs 28 = .ok (.invokestatic 23, 3) := by decide +kernel
theorem dX4_isShownAs_31 : decode cX4_isShownAs 31 = .ok (.if_icmp .eq 5, 3) := by decide +kernel
theorem dX4_isShownAs_34 : decode cX4_isShownAs 34 = .ok (.iconst 0, 1) := by decide +kernel
theorem dX4_isShownAs_35 : decode cX4_isShownAs 35 = .ok (.ireturn, 1) := by decide +kernel
theorem dX4_isShownAs_36 : decode cX4_isShownAs 36 = .ok (.iinc 5 1, 3) := by decide +kernel
theorem dX4_isShownAs_39 : decode cX4_isShownAs 39 = .ok (.goto (-36), 3) := by decide +kernel
theorem dX4_isShownAs_42 : decode cX4_isShownAs 42 = .ok (.iconst 1, 1) := by decide +kernel
theorem dX4_isShownAs_43 : decode cX4_isShownAs 43 = .ok (.ireturn, 1) := by decide +kernel
theorem dX5_init_0 : decode cX5_init 0 = .ok (.aload_n 0, 1) := by decide +kernel
theorem dX5_init_1 : decode cX5_init 1 = .ok (.invokespecial 3, 3) := by decide +kernel
theorem dX5_init_4 : decode cX5_init 4 = .ok (.aload_n 0, 1) := by decide +kernel
theorem dX5_init_5 : decode cX5_init 5 = .ok (.bipush 96, 2) := by decide +kernel
theorem dX5_init_7 : decode cX5_init 7 = .ok (.newarray .int, 2) := by decide +kernel
theorem dX5_init_9 : decode cX5_init 9 = .ok (.putfield 9, 3) := by decide +kernel
theorem dX5_init_12 : decode cX5_init 12 = .ok (.return_, 1) := by decide +kernel
theorem dX5_isFull_0 : decode cX5_isFull 0 = .ok (.aload_n 0, 1) := by decide +kernel
theorem dX5_isFull_1 : decode cX5_isFull 1 = .ok (.getfield 15, 3) := by decide +kernel
theorem dX5_isFull_4 : decode cX5_isFull 4 = .ok (.bipush 96, 2) := by decide +kernel
theorem dX5_isFull_6 : decode cX5_isFull 6 = .ok (.if_icmp .lt 7, 3) := by decide +kernel
theorem dX5_isFull_9 : decode cX5_isFull 9 = .ok (.iconst 1, 1) := by decide +kernel
theorem dX5_isFull_10 : decode cX5_isFull 10 = .ok (.goto 4, 3) := by decide +kernel
theorem dX5_isFull_13 : decode cX5_isFull 13 = .ok (.iconst 0, 1) := by decide +kernel
theorem dX5_isFull_14 : decode cX5_isFull 14 = .ok (.ireturn, 1) := by decide +kernel
set_option maxRecDepth 20000 in
theorem ggX5_add_X7_put : GoodIn wsX5_add wsX7_put := goodIn_r _ [5] (by decide +kernel) (by decide +kernel)
set_option maxRecDepth 20000 in
theorem gX5_add_X7_put_n19 : GoodIn wsX5_add (wsX7_put) := ggX5_add_X7_put
theorem dX5_add_0 : decode cX5_add 0 = .ok (.aload_n 0, 1) := by decide +kernel
theorem dX5_add_1 : decode cX5_add 1 = .ok (.getfield 9, 3) := by decide +kernel
theorem dX5_add_4 : decode cX5_add 4 = .ok (.aload_n 0, 1) := by decide +kernel
theorem dX5_add_5 : decode cX5_add 5 = .ok (.getfield 15, 3) := by decide +kernel
theorem dX5_add_8 : decode cX5_add 8 = .ok (.iload_n 1, 1) := by decide +kernel
theorem dX5_add_9 : decode cX5_add 9 = .ok (.invokestatic 19, 3) := by decide +kernel
theorem dX5_add_12 : decode cX5_add 12 = .ok (.aload_n 0, 1) := by decide +kernel
theorem dX5_add_13 : decode cX5_add 13 = .ok (.dup, 1) := by decide +kernel
theorem dX5_add_14 : decode cX5_add 14 = .ok (.getfield 15, 3) := by decide +kernel
theorem dX5_add_17 : decode cX5_add 17 = .ok (.iconst 1, 1) := by decide +kernel
theorem dX5_add_18 : decode cX5_add 18 = .ok (.iadd, 1) := by decide +kernel
theorem dX5_add_19 : decode cX5_add 19 = .ok (.putfield 15, 3) := by decide +kernel
theorem dX5_add_22 : decode cX5_add 22 = .ok (.aload_n 0, 1) := by decide +kernel
theorem dX5_add_23 : decode cX5_add 23 = .ok (.getfield 15, 3) := by decide +kernel
theorem dX5_add_26 : decode cX5_add 26 = .ok (.ireturn, 1) := by decide +kernel
theorem dX5_empty_0 : decode cX5_empty 0 = .ok (.aload_n 0, 1) := by decide +kernel
theorem dX5_empty_1 : decode cX5_empty 1 = .ok (.iconst 0, 1) := by decide +kernel
theorem dX5_empty_2 : decode cX5_empty 2 = .ok (.putfield 15, 3) := by decide +kernel
theorem dX5_empty_5 : decode cX5_empty 5 = .ok (.return_, 1) := by decide +kernel
set_option maxRecDepth 20000 in
theorem ggX5_tellTo_X5_formFault : GoodIn wsX5_tellTo wsX5_formFault := goodIn_r _ [7, 1, 2, 8, 9, 10, 11, 12, 6, 13, 14, 15, 16, 17, 18, 19, 20, 21, 22, 23, 24, 25, 26, 27, 28, 29, 30, 31, 32, 33, 34, 35, 36, 37, 38, 39, 40, 41, 42, 43, 44, 45, 46, 47, 48, 49, 50, 51, 52, 53, 54, 55, 56, 57, 58, 59, 60, 61, 62, 63, 64, 65, 66, 67, 68, 69, 70, 71, 72, 73, 74, 75, 76, 77, 78, 79, 80, 81, 82, 83, 84, 85, 86, 87, 88, 89, 90, 91, 92, 93, 94, 95, 96, 97, 98, 99, 100, 101, 102, 103, 104, 105, 106, 107, 108, 109, 110, 111, 112, 113, 114, 115, 116, 117, 118, 119, 120, 121, 122, 123, 124, 125, 126, 127, 128, 129, 130, 277, 278] (by decide +kernel) (by decide +kernel)
set_option maxRecDepth 20000 in
theorem gX5_tellTo_X5_formFault : GoodIn wsX5_tellTo (wsV RX5 23 RX5 yX5_formFault wsX5_formFault) := goodIn_app (goodIn_of _ (by decide +kernel)) ggX5_tellTo_X5_formFault
set_option maxRecDepth 20000 in
theorem ggX5_tellTo_X5_tell : GoodIn wsX5_tellTo wsX5_tell := goodIn_r _ [134, 2, 135, 136, 137, 6, 138, 8, 9, 10, 139, 140, 141, 142, 70, 71, 72, 17, 73, 74, 75, 76, 77, 19, 34, 35, 36, 37, 28, 29, 78, 21, 22, 23, 24, 25, 26, 27, 79, 80, 40, 81, 82, 83, 84, 85, 86, 87, 88, 89, 90, 91, 92, 93, 94, 95, 96, 52, 97, 98, 99, 100, 101, 102, 103, 104, 105, 106, 57, 58, 59, 107, 108, 109, 45, 110, 111, 48, 112, 113, 114, 115, 61, 62, 63, 64, 65, 66, 116, 117, 118, 119, 120, 121, 122, 123, 124, 125, 126, 127, 128, 129, 130, 143, 144, 145, 146, 147, 148, 149, 150, 151, 152, 153, 154, 155, 156, 157, 158, 159, 160, 161, 162, 163, 164, 165, 166, 167, 168, 169, 170, 171, 172, 173, 174, 175, 176, 177, 178, 179, 180, 181, 182, 183, 184, 185, 186, 187, 188, 189, 190, 191, 192, 193, 194, 195, 196, 197, 198, 199, 200, 201, 202, 203, 204, 205, 206, 207, 208, 209, 210, 211, 212, 213, 214, 215, 216, 217, 218, 219, 220, 221, 222, 223, 224, 225, 226, 227, 228, 229, 230, 231, 232, 233, 234, 235, 236, 237, 238, 239, 240, 241, 242, 243, 244, 245, 246, 247, 248, 249, 250, 251, 252, 253, 254, 255, 256, 257, 258, 259, 260, 261, 262, 263, 264, 265, 266, 267, 268, 269, 270, 271, 272, 273, 274, 275, 276, 277, 278, 279, 280, 281, 282, 283, 284, 285, 286, 287, 288, 289, 290] (by decide +kernel) (by decide +kernel)
set_option maxRecDepth 20000 in
theorem gX5_tellTo_X5_tell : GoodIn wsX5_tellTo (wsV RX5 27 RX5 yX5_tell wsX5_tell) := goodIn_app (goodIn_of _ (by decide +kernel)) ggX5_tellTo_X5_tell
set_option maxRecDepth 20000 in
theorem ggX5_tellTo_X7_at : GoodIn wsX5_tellTo wsX7_at := goodIn_r _ [10] (by decide +kernel) (by decide +kernel)
set_option maxRecDepth 20000 in
theorem gX5_tellTo_X7_at_n31 : GoodIn wsX5_tellTo (wsX7_at) := ggX5_tellTo_X7_at
set_option maxRecDepth 20000 in
theorem ggX5_tellTo_X5_formOf : GoodIn wsX5_tellTo wsX5_formOf := goodIn_r _ [13] (by decide +kernel) (by decide +kernel)
set_option maxRecDepth 20000 in
theorem gX5_tellTo_X5_formOf : GoodIn wsX5_tellTo (va_wsS RX5 35 yX5_formOf wsX5_formOf) := goodIn_app (goodIn_of _ (by decide +kernel)) ggX5_tellTo_X5_formOf
set_option maxRecDepth 20000 in
theorem ggX5_tellTo_J0_length_8abf5 : GoodIn wsX5_tellTo wsJ0_length_8abf5 := goodIn_r _ [23, 19, 24, 25, 26, 17, 27, 28, 29] (by decide +kernel) (by decide +kernel)
set_option maxRecDepth 20000 in
theorem gX5_tellTo_J0_length_8abf5 : GoodIn wsX5_tellTo (wsV RX5 39 RJ0 yJ0_length_8abf5 wsJ0_length_8abf5) := goodIn_app (goodIn_of _ (by decide +kernel)) ggX5_tellTo_J0_length_8abf5
theorem dX5_tellTo_0 : decode cX5_tellTo 0 = .ok (.aload_n 0, 1) := by decide +kernel
theorem dX5_tellTo_1 : decode cX5_tellTo 1 = .ok (.invokevirtual 23, 3) := by decide +kernel
theorem dX5_tellTo_4 : decode cX5_tellTo 4 = .ok (.istore_n 2, 1) := by decide +kernel
theorem dX5_tellTo_5 : decode cX5_tellTo 5 = .ok (.iload_n 2, 1) := by decide +kernel
theorem dX5_tellTo_6 : decode cX5_tellTo 6 = .ok (.iconst (-1), 1) := by decide +kernel
theorem dX5_tellTo_7 : decode cX5_tellTo 7 = .ok (.if_icmp .eq 9, 3) := by decide +kernel
theorem dX5_tellTo_10 : decode cX5_tellTo 10 = .ok (.sipush (-1000), 3) := by decide +kernel
theorem dX5_tellTo_13 : decode cX5_tellTo 13 = .ok (.iload_n 2, 1) := by decide +kernel
theorem dX5_tellTo_14 : decode cX5_tellTo 14 = .ok (.isub, 1) := by decide +kernel
theorem dX5_tellTo_15 : decode cX5_tellTo 15 = .ok (.ireturn, 1) := by decide +kernel
theorem dX5_tellTo_16 : decode cX5_tellTo 16 = .ok (.iconst 0, 1) := by decide +kernel
theorem dX5_tellTo_17 : decode cX5_tellTo 17 = .ok (.istore_n 3, 1) := by decide +kernel
theorem dX5_tellTo_18 : decode cX5_tellTo 18 = .ok (.iconst 0, 1) := by decide +kernel
theorem dX5_tellTo_19 : decode cX5_tellTo 19 = .ok (.istore 4, 2) := by decide +kernel
theorem dX5_tellTo_21 : decode cX5_tellTo 21 = .ok (.iload 4, 2) := by decide +kernel
theorem dX5_tellTo_23 : decode cX5_tellTo 23 = .ok (.aload_n 0, 1) := by decide +kernel
theorem dX5_tellTo_24 : decode cX5_tellTo 24 = .ok (.getfield 15, 3) := by decide +kernel
theorem dX5_tellTo_27 : decode cX5_tellTo 27 = .ok (.if_icmp .ge 48, 3) := by decide +kernel
theorem dX5_tellTo_30 : decode cX5_tellTo 30 = .ok (.aload_n 0, 1) := by decide +kernel
theorem dX5_tellTo_31 : decode cX5_tellTo 31 = .ok (.aload_n 1, 1) := by decide +kernel
theorem dX5_tellTo_32 : decode cX5_tellTo 32 = .ok (.iload 4, 2) := by decide +kernel
theorem dX5_tellTo_34 : decode cX5_tellTo 34 = .ok (.invokevirtual 27, 3) := by decide +kernel
theorem dX5_tellTo_37 : decode cX5_tellTo 37 = .ok (.ifCond .ne 10, 3) := by decide +kernel
theorem dX5_tellTo_40 : decode cX5_tellTo 40 = .ok (.sipush (-2000), 3) := by decide +kernel
theorem dX5_tellTo_43 : decode cX5_tellTo 43 = .ok (.iload 4, 2) := by decide +kernel
theorem dX5_tellTo_45 : decode cX5_tellTo 45 = .ok (.isub, 1) := by decide +kernel
theorem dX5_tellTo_46 : decode cX5_tellTo 46 = .ok (.ireturn, 1) := by decide +kernel
theorem dX5_tellTo_47 : decode cX5_tellTo 47 = .ok (.iload 4, 2) := by decide +kernel
theorem dX5_tellTo_49 : decode cX5_tellTo 49 = .ok (.iconst 1, 1) := by decide +kernel
theorem dX5_tellTo_50 : decode cX5_tellTo 50 = .ok (.aload_n 0, 1) := by decide +kernel
theorem dX5_tellTo_51 : decode cX5_tellTo 51 = .ok (.getfield 9, 3) := by decide +kernel
theorem dX5_tellTo_54 : decode cX5_tellTo 54 = .ok (.iload 4, 2) := by decide +kernel
theorem dX5_tellTo_56 : decode cX5_tellTo 56 = .ok (.invokestatic 31, 3) := by decide +kernel
theorem dX5_tellTo_59 : decode cX5_tellTo 59 = .ok (.invokestatic 35, 3) := by decide +kernel
theorem dX5_tellTo_62 : decode cX5_tellTo 62 = .ok (.invokevirtual 39, 3) := by decide +kernel
theorem dX5_tellTo_65 : decode cX5_tellTo 65 = .ok (.iadd, 1) := by decide +kernel
theorem dX5_tellTo_66 : decode cX5_tellTo 66 = .ok (.iadd, 1) := by decide +kernel
theorem dX5_tellTo_67 : decode cX5_tellTo 67 = .ok (.istore 4, 2) := by decide +kernel
theorem dX5_tellTo_69 : decode cX5_tellTo 69 = .ok (.iinc 3 1, 3) := by decide +kernel
theorem dX5_tellTo_72 : decode cX5_tellTo 72 = .ok (.goto (-51), 3) := by decide +kernel
theorem dX5_tellTo_75 : decode cX5_tellTo 75 = .ok (.iload_n 3, 1) := by decide +kernel
theorem dX5_tellTo_76 : decode cX5_tellTo 76 = .ok (.ireturn, 1) := by decide +kernel
set_option maxRecDepth 20000 in
theorem ggX5_formFault_X7_at : GoodIn wsX5_formFault wsX7_at := goodIn_r _ [5] (by decide +kernel) (by decide +kernel)
set_option maxRecDepth 20000 in
theorem gX5_formFault_X7_at_n31 : GoodIn wsX5_formFault (wsX7_at) := ggX5_formFault_X7_at
set_option maxRecDepth 20000 in
theorem ggX5_formFault_X5_formOf : GoodIn wsX5_formFault wsX5_formOf := goodIn_r _ [9] (by decide +kernel) (by decide +kernel)
set_option maxRecDepth 20000 in
theorem gX5_formFault_X5_formOf : GoodIn wsX5_formFault (va_wsS RX5 35 yX5_formOf wsX5_formOf) := goodIn_app (goodIn_of _ (by decide +kernel)) ggX5_formFault_X5_formOf
set_option maxRecDepth 20000 in
theorem ggX5_formFault_J0_isEmpty_aae02 : GoodIn wsX5_formFault wsJ0_isEmpty_aae02 := goodIn_r _ [14, 15] (by decide +kernel) (by decide +kernel)
set_option maxRecDepth 20000 in
theorem gX5_formFault_J0_isEmpty_aae02 : GoodIn wsX5_formFault (wsV RX5 44 RJ0 yJ0_isEmpty_aae02 wsJ0_isEmpty_aae02) := goodIn_app (goodIn_of _ (by decide +kernel)) ggX5_formFault_J0_isEmpty_aae02
set_option maxRecDepth 20000 in
theorem ggX5_formFault_J0_length_8abf5 : GoodIn wsX5_formFault wsJ0_length_8abf5 := goodIn_r _ [19, 15, 20, 21, 22, 13, 23, 24, 25] (by decide +kernel) (by decide +kernel)
set_option maxRecDepth 20000 in
theorem gX5_formFault_J0_length_8abf5 : GoodIn wsX5_formFault (wsV RX5 39 RJ0 yJ0_length_8abf5 wsJ0_length_8abf5) := goodIn_app (goodIn_of _ (by decide +kernel)) ggX5_formFault_J0_length_8abf5
set_option maxRecDepth 20000 in
theorem ggX5_formFault_J0_charAt_5068e : GoodIn wsX5_formFault wsJ0_charAt_5068e := goodIn_r _ [29, 15, 30, 31, 32, 13, 33, 24, 25, 34, 35, 36, 37, 38, 39, 40, 41, 42, 43, 44, 45, 46, 47, 48, 49, 50, 51, 52, 53, 54, 55, 56, 57, 58, 59, 60, 61, 62] (by decide +kernel) (by decide +kernel)
set_option maxRecDepth 20000 in
theorem gX5_formFault_J0_charAt_5068e : GoodIn wsX5_formFault (wsV RX5 48 RJ0 yJ0_charAt_5068e wsJ0_charAt_5068e) := goodIn_app (goodIn_of _ (by decide +kernel)) ggX5_formFault_J0_charAt_5068e
set_option maxRecDepth 20000 in
theorem ggX5_formFault_X5_fits : GoodIn wsX5_formFault wsX5_fits := goodIn_r _ [65, 66, 67, 68, 13, 69, 70, 71, 72, 73, 15, 30, 31, 32, 33, 24, 25, 74, 17, 18, 19, 20, 21, 22, 23, 75, 76, 36, 77, 78, 79, 80, 81, 82, 83, 84, 85, 86, 87, 88, 89, 90, 91, 92, 48, 93, 94, 95, 96, 97, 98, 99, 100, 101, 102, 53, 54, 55, 103, 104, 105, 41, 106, 107, 44, 108, 109, 110, 111, 57, 58, 59, 60, 61, 62, 112, 113, 114, 115, 116, 117, 118, 119, 120, 121, 122, 123, 124, 125, 126] (by decide +kernel) (by decide +kernel)
set_option maxRecDepth 20000 in
theorem gX5_formFault_X5_fits : GoodIn wsX5_formFault (va_wsS RX5 52 yX5_fits wsX5_fits) := goodIn_app (goodIn_of _ (by decide +kernel)) ggX5_formFault_X5_fits
theorem dX5_formFault_0 : decode cX5_formFault 0 = .ok (.aload_n 0, 1) := by decide +kernel
theorem dX5_formFault_1 : decode cX5_formFault 1 = .ok (.getfield 15, 3) := by decide +kernel
theorem dX5_formFault_4 : decode cX5_formFault 4 = .ok (.ifCond .ne 5, 3) := by decide +kernel
theorem dX5_formFault_7 : decode cX5_formFault 7 = .ok (.iconst 0, 1) := by decide +kernel
theorem dX5_formFault_8 : decode cX5_formFault 8 = .ok (.ireturn, 1) := by decide +kernel
theorem dX5_formFault_9 : decode cX5_formFault 9 = .ok (.iconst 0, 1) := by decide +kernel
theorem dX5_formFault_10 : decode cX5_formFault 10 = .ok (.istore_n 1, 1) := by decide +kernel
theorem dX5_formFault_11 : decode cX5_formFault 11 = .ok (.iload_n 1, 1) := by decide +kernel
theorem dX5_formFault_12 : decode cX5_formFault 12 = .ok (.aload_n 0, 1) := by decide +kernel
theorem dX5_formFault_13 : decode cX5_formFault 13 = .ok (.getfield 15, 3) := by decide +kernel
theorem dX5_formFault_16 : decode cX5_formFault 16 = .ok (.if_icmp .ge 78, 3) := by decide +kernel
theorem dX5_formFault_19 : decode cX5_formFault 19 = .ok (.aload_n 0, 1) := by decide +kernel
theorem dX5_formFault_20 : decode cX5_formFault 20 = .ok (.getfield 9, 3) := by decide +kernel
theorem dX5_formFault_23 : decode cX5_formFault 23 = .ok (.iload_n 1, 1) := by decide +kernel
theorem dX5_formFault_24 : decode cX5_formFault 24 = .ok (.invokestatic 31, 3) := by decide +kernel
theorem dX5_formFault_27 : decode cX5_formFault 27 = .ok (.invokestatic 35, 3) := by decide +kernel
theorem dX5_formFault_30 : decode cX5_formFault 30 = .ok (.astore_n 2, 1) := by decide +kernel
theorem dX5_formFault_31 : decode cX5_formFault 31 = .ok (.aload_n 2, 1) := by decide +kernel
theorem dX5_formFault_32 : decode cX5_formFault 32 = .ok (.invokevirtual 44, 3) := by decide +kernel
theorem dX5_formFault_35 : decode cX5_formFault 35 = .ok (.ifCond .eq 5, 3) := by decide +kernel
theorem dX5_formFault_38 : decode cX5_formFault 38 = .ok (.iload_n 1, 1) := by decide +kernel
theorem dX5_formFault_39 : decode cX5_formFault 39 = .ok (.ireturn, 1) := by decide +kernel
theorem dX5_formFault_40 : decode cX5_formFault 40 = .ok (.iinc 1 1, 3) := by decide +kernel
theorem dX5_formFault_43 : decode cX5_formFault 43 = .ok (.iconst 0, 1) := by decide +kernel
theorem dX5_formFault_44 : decode cX5_formFault 44 = .ok (.istore_n 3, 1) := by decide +kernel
theorem dX5_formFault_45 : decode cX5_formFault 45 = .ok (.iload_n 3, 1) := by decide +kernel
theorem dX5_formFault_46 : decode cX5_formFault 46 = .ok (.aload_n 2, 1) := by decide +kernel
theorem dX5_formFault_47 : decode cX5_formFault 47 = .ok (.invokevirtual 39, 3) := by decide +kernel
theorem dX5_formFault_50 : decode cX5_formFault 50 = .ok (.if_icmp .ge 41, 3) := by decide +kernel
theorem dX5_formFault_53 : decode cX5_formFault 53 = .ok (.iload_n 1, 1) := by decide +kernel
theorem dX5_formFault_54 : decode cX5_formFault 54 = .ok (.aload_n 0, 1) := by decide +kernel
theorem dX5_formFault_55 : decode cX5_formFault 55 = .ok (.getfield 15, 3) := by decide +kernel
theorem dX5_formFault_58 : decode cX5_formFault 58 = .ok (.if_icmp .ge 22, 3) := by decide +kernel
theorem dX5_formFault_61 : decode cX5_formFault 61 = .ok (.aload_n 0, 1) := by decide +kernel
theorem dX5_formFault_62 : decode cX5_formFault 62 = .ok (.getfield 9, 3) := by decide +kernel
theorem dX5_formFault_65 : decode cX5_formFault 65 = .ok (.iload_n 1, 1) := by decide +kernel
theorem dX5_formFault_66 : decode cX5_formFault 66 = .ok (.invokestatic 31, 3) := by decide +kernel
theorem dX5_formFault_69 : decode cX5_formFault 69 = .ok (.aload_n 2, 1) := by decide +kernel
theorem dX5_formFault_70 : decode cX5_formFault 70 = .ok (.iload_n 3, 1) := by decide +kernel
theorem dX5_formFault_71 : decode cX5_formFault 71 = .ok (.invokevirtual 48, 3) := by decide +kernel
theorem dX5_formFault_74 : decode cX5_formFault 74 = .ok (.invokestatic 52, 3) := by decide +kernel
theorem dX5_formFault_77 : decode cX5_formFault 77 = .ok (.ifCond .ne 5, 3) := by decide +kernel
theorem dX5_formFault_80 : decode cX5_formFault 80 = .ok (.iload_n 1, 1) := by decide +kernel
theorem dX5_formFault_81 : decode cX5_formFault 81 = .ok (.ireturn, 1) := by decide +kernel
theorem dX5_formFault_82 : decode cX5_formFault 82 = .ok (.iinc 1 1, 3) := by decide +kernel
theorem dX5_formFault_85 : decode cX5_formFault 85 = .ok (.iinc 3 1, 3) := by decide +kernel
theorem dX5_formFault_88 : decode cX5_formFault 88 = .ok (.goto (-43), 3) := by decide +kernel
theorem dX5_formFault_91 : decode cX5_formFault 91 = .ok (.goto (-80), 3) := by decide +kernel
theorem dX5_formFault_94 : decode cX5_formFault 94 = .ok (.iconst (-1), 1) := by decide +kernel
theorem dX5_formFault_95 : decode cX5_formFault 95 = .ok (.ireturn, 1) := by decide +kernel
theorem dX5_formOf_0 : decode cX5_formOf 0 = .ok (.iload_n 0, 1) := by decide +kernel
theorem dX5_formOf_1 : decode cX5_formOf 1 = .ok (.lookupswitch 71 #[(98, 59), (103, 62), (108, 65), (116, 65), (119, 68), (121, 65)], 59) := by decide +kernel
theorem dX5_formOf_60 : decode cX5_formOf 60 = .ok (.ldc 56, 2) := by decide +kernel
theorem dX5_formOf_62 : decode cX5_formOf 62 = .ok (.areturn, 1) := by decide +kernel
theorem dX5_formOf_63 : decode cX5_formOf 63 = .ok (.ldc 58, 2) := by decide +kernel
theorem dX5_formOf_65 : decode cX5_formOf 65 = .ok (.areturn, 1) := by decide +kernel
theorem dX5_formOf_66 : decode cX5_formOf 66 = .ok (.ldc 60, 2) := by decide +kernel
theorem dX5_formOf_68 : decode cX5_formOf 68 = .ok (.areturn, 1) := by decide +kernel
theorem dX5_formOf_69 : decode cX5_formOf 69 = .ok (.ldc 62, 2) := by decide +kernel
theorem dX5_formOf_71 : decode cX5_formOf 71 = .ok (.areturn, 1) := by decide +kernel
theorem dX5_formOf_72 : decode cX5_formOf 72 = .ok (.ldc 64, 2) := by decide +kernel
theorem dX5_formOf_74 : decode cX5_formOf 74 = .ok (.areturn, 1) := by decide +kernel
set_option maxRecDepth 20000 in
theorem ggX5_fits_J0_indexOf_0f7a4 : GoodIn wsX5_fits wsJ0_indexOf_0f7a4 := goodIn_r _ [5, 6, 7, 8, 4, 9, 10, 11, 12, 13, 14, 15, 16, 17, 18, 19, 20, 21, 22, 23, 24, 25, 26, 27, 28, 29, 30, 31, 32, 33, 34, 35, 36, 37, 38, 39, 40, 41, 42, 43, 44, 45, 46, 47, 48, 49, 50, 51, 52, 53, 54, 55, 56, 57, 58, 59, 60, 61, 62, 63, 64, 65, 66, 67, 68, 69, 70, 71, 72, 73, 74, 75, 76, 77, 78, 79, 80, 81, 82, 83, 84, 85, 86, 87, 88, 89] (by decide +kernel) (by decide +kernel)
set_option maxRecDepth 20000 in
theorem gX5_fits_J0_indexOf_0f7a4 : GoodIn wsX5_fits (wsV RX5 68 RJ0 yJ0_indexOf_0f7a4 wsJ0_indexOf_0f7a4) := goodIn_app (goodIn_of _ (by decide +kernel)) ggX5_fits_J0_indexOf_0f7a4
theorem dX5_fits_0 : decode cX5_fits 0 = .ok (.iload_n 1, 1) := by decide +kernel
theorem dX5_fits_1 : decode cX5_fits 1 = .ok (.lookupswitch 61 #[(57, 43), (107, 27)], 27) := by decide +kernel
theorem dX5_fits_28 : decode cX5_fits 28 = .ok (.ldc 66, 2) := by decide +kernel
theorem dX5_fits_30 : decode cX5_fits 30 = .ok (.iload_n 0, 1) := by decide +kernel
theorem dX5_fits_31 : decode cX5_fits 31 = .ok (.i2c, 1) := by decide +kernel
theorem dX5_fits_32 : decode cX5_fits 32 = .ok (.invokevirtual 68, 3) := by decide +kernel
theorem dX5_fits_35 : decode cX5_fits 35 = .ok (.ifCond .lt 7, 3) := by decide +kernel
theorem dX5_fits_38 : decode cX5_fits 38 = .ok (.iconst 1, 1) := by decide +kernel
theorem dX5_fits_39 : decode cX5_fits 39 = .ok (.goto 4, 3) := by decide +kernel
theorem dX5_fits_42 : decode cX5_fits 42 = .ok (.iconst 0, 1) := by decide +kernel
theorem dX5_fits_43 : decode cX5_fits 43 = .ok (.ireturn, 1) := by decide +kernel
theorem dX5_fits_44 : decode cX5_fits 44 = .ok (.iload_n 0, 1) := by decide +kernel
theorem dX5_fits_45 : decode cX5_fits 45 = .ok (.bipush 48, 2) := by decide +kernel
theorem dX5_fits_47 : decode cX5_fits 47 = .ok (.if_icmp .lt 13, 3) := by decide +kernel
theorem dX5_fits_50 : decode cX5_fits 50 = .ok (.iload_n 0, 1) := by decide +kernel
theorem dX5_fits_51 : decode cX5_fits 51 = .ok (.bipush 57, 2) := by decide +kernel
theorem dX5_fits_53 : decode cX5_fits 53 = .ok (.if_icmp .gt 7, 3) := by decide +kernel
theorem dX5_fits_56 : decode cX5_fits 56 = .ok (.iconst 1, 1) := by decide +kernel
theorem dX5_fits_57 : decode cX5_fits 57 = .ok (.goto 4, 3) := by decide +kernel
theorem dX5_fits_60 : decode cX5_fits 60 = .ok (.iconst 0, 1) := by decide +kernel
theorem dX5_fits_61 : decode cX5_fits 61 = .ok (.ireturn, 1) := by decide +kernel
theorem dX5_fits_62 : decode cX5_fits 62 = .ok (.iload_n 0, 1) := by decide +kernel
theorem dX5_fits_63 : decode cX5_fits 63 = .ok (.iload_n 1, 1) := by decide +kernel
theorem dX5_fits_64 : decode cX5_fits 64 = .ok (.if_icmp .ne 7, 3) := by decide +kernel
theorem dX5_fits_67 : decode cX5_fits 67 = .ok (.iconst 1, 1) := by decide +kernel
theorem dX5_fits_68 : decode cX5_fits 68 = .ok (.goto 4, 3) := by decide +kernel
theorem dX5_fits_71 : decode cX5_fits 71 = .ok (.iconst 0, 1) := by decide +kernel
theorem dX5_fits_72 : decode cX5_fits 72 = .ok (.ireturn, 1) := by decide +kernel
set_option maxRecDepth 20000 in
theorem ggX5_tell_X5_digitAt : GoodIn wsX5_tell wsX5_digitAt := goodIn_r _ [6, 1, 7, 8, 9, 237, 238] (by decide +kernel) (by decide +kernel)
set_option maxRecDepth 20000 in
theorem gX5_tell_X5_digitAt : GoodIn wsX5_tell (wsV RX5 72 RX5 yX5_digitAt wsX5_digitAt) := goodIn_app (goodIn_of _ (by decide +kernel)) ggX5_tell_X5_digitAt
set_option maxRecDepth 20000 in
theorem ggX5_tell_X7_at : GoodIn wsX5_tell wsX7_at := goodIn_r _ [9] (by decide +kernel) (by decide +kernel)
set_option maxRecDepth 20000 in
theorem gX5_tell_X7_at_n31 : GoodIn wsX5_tell (wsX7_at) := ggX5_tell_X7_at
set_option maxRecDepth 20000 in
theorem ggX5_tell_X5_kindAt : GoodIn wsX5_tell wsX5_kindAt := goodIn_r _ [13, 1, 7, 8, 9, 14, 15, 16, 17, 18, 19, 20, 21, 22, 23, 24, 25, 26, 27, 28, 29, 30, 31, 32, 33, 34, 35, 36, 37, 38, 39, 40, 41, 42, 43, 44, 45, 46, 47, 48, 49, 50, 51, 52, 53, 54, 55, 56, 57, 58, 59, 60, 61, 62, 63, 64, 65, 66, 67, 68, 69, 70, 71, 72, 73, 74, 75, 76, 77, 78, 79, 80, 81, 82, 83, 84, 85, 86, 87, 88, 89, 90, 91, 92, 93, 94, 95, 96, 97, 98, 99, 100, 101, 102, 237, 238] (by decide +kernel) (by decide +kernel)
set_option maxRecDepth 20000 in
theorem gX5_tell_X5_kindAt : GoodIn wsX5_tell (wsV RX5 75 RX5 yX5_kindAt wsX5_kindAt) := goodIn_app (goodIn_of _ (by decide +kernel)) ggX5_tell_X5_kindAt
set_option maxRecDepth 20000 in
theorem ggX5_tell_X5_numberAt : GoodIn wsX5_tell wsX5_numberAt := goodIn_r _ [106, 2, 3, 4, 5, 6, 1, 7, 8, 9, 237, 238] (by decide +kernel) (by decide +kernel)
set_option maxRecDepth 20000 in
theorem gX5_tell_X5_numberAt : GoodIn wsX5_tell (wsV RX5 78 RX5 yX5_numberAt wsX5_numberAt) := goodIn_app (goodIn_of _ (by decide +kernel)) ggX5_tell_X5_numberAt
set_option maxRecDepth 20000 in
theorem ggX5_tell_X6_addBride : GoodIn wsX5_tell wsX6_addBride := goodIn_r _ [111, 112, 113, 114, 115, 116, 110, 117, 118, 119, 120, 8, 121, 239, 240, 241, 242, 243, 244, 245, 246, 247, 248, 249, 250] (by decide +kernel) (by decide +kernel)
set_option maxRecDepth 20000 in
theorem gX5_tell_X6_addBride : GoodIn wsX5_tell (wsV RX5 81 RX6 yX6_addBride wsX6_addBride) := goodIn_app (goodIn_of _ (by decide +kernel)) ggX5_tell_X6_addBride
set_option maxRecDepth 20000 in
theorem ggX5_tell_X6_addGroom : GoodIn wsX5_tell wsX6_addGroom := goodIn_r _ [125, 126, 127, 128, 129, 110, 130, 131, 120, 8, 121, 132, 133, 134, 135, 136, 239, 240, 241, 242, 243, 244, 245, 246, 247, 248, 249, 250] (by decide +kernel) (by decide +kernel)
set_option maxRecDepth 20000 in
theorem gX5_tell_X6_addGroom : GoodIn wsX5_tell (wsV RX5 87 RX6 yX6_addGroom wsX6_addGroom) := goodIn_app (goodIn_of _ (by decide +kernel)) ggX5_tell_X6_addGroom
set_option maxRecDepth 20000 in
theorem ggX5_tell_X5_tellToe : GoodIn wsX5_tell wsX5_tellToe := goodIn_r _ [139, 140, 141, 142, 110, 143, 112, 144, 145, 146, 147, 113, 148, 149, 150, 151, 7, 8, 9, 120, 121, 239, 240, 241, 242, 243, 244, 245, 246, 247, 248, 249, 250] (by decide +kernel) (by decide +kernel)
set_option maxRecDepth 20000 in
theorem gX5_tell_X5_tellToe : GoodIn wsX5_tell (va_wsS RX5 91 yX5_tellToe wsX5_tellToe) := goodIn_app (goodIn_of _ (by decide +kernel)) ggX5_tell_X5_tellToe
set_option maxRecDepth 20000 in
theorem ggX5_tell_X5_tellLiquor : GoodIn wsX5_tell wsX5_tellLiquor := goodIn_r _ [154, 155, 156, 157, 110, 158, 126, 159, 160, 161, 162, 163, 120, 8, 121, 239, 240, 241, 242, 243, 244, 245, 246, 247, 248, 249, 250] (by decide +kernel) (by decide +kernel)
set_option maxRecDepth 20000 in
theorem gX5_tell_X5_tellLiquor : GoodIn wsX5_tell (va_wsS RX5 95 yX5_tellLiquor wsX5_tellLiquor) := goodIn_app (goodIn_of _ (by decide +kernel)) ggX5_tell_X5_tellLiquor
set_option maxRecDepth 20000 in
theorem ggX5_tell_X6_canWed : GoodIn wsX5_tell wsX6_canWed := goodIn_r _ [167, 168, 156, 157, 110, 158, 126, 169, 170, 171, 172, 173, 174, 8, 175, 176, 177, 178, 179, 112, 180, 181, 7, 9, 239, 240, 241, 242, 243, 244, 245, 246, 247, 248, 249, 250] (by decide +kernel) (by decide +kernel)
set_option maxRecDepth 20000 in
theorem gX5_tell_X6_canWed : GoodIn wsX5_tell (wsV RX5 98 RX6 yX6_canWed wsX6_canWed) := goodIn_app (goodIn_of _ (by decide +kernel)) ggX5_tell_X6_canWed
set_option maxRecDepth 20000 in
theorem ggX5_tell_X6_wed : GoodIn wsX5_tell wsX6_wed := goodIn_r _ [185, 163, 131, 181, 180, 173, 7, 8, 9, 186, 187, 188, 110, 189, 136, 112, 118, 119, 176, 177, 178, 179, 174, 175, 190, 191, 192, 193, 113, 194, 195, 196, 197, 198, 199, 200, 201, 202, 203, 204, 205, 206, 207, 120, 121, 208, 209, 210, 211, 212, 213, 214, 215, 239, 240, 241, 242, 243, 244, 245, 246, 247, 248, 249, 250] (by decide +kernel) (by decide +kernel)
set_option maxRecDepth 20000 in
theorem gX5_tell_X6_wed : GoodIn wsX5_tell (wsV RX5 102 RX6 yX6_wed wsX6_wed) := goodIn_app (goodIn_of _ (by decide +kernel)) ggX5_tell_X6_wed
set_option maxRecDepth 20000 in
theorem ggX5_tell_X5_tellYears : GoodIn wsX5_tell wsX5_tellYears := goodIn_r _ [218, 219, 220, 221, 110, 222, 194, 223, 224, 225, 226, 112, 181, 227, 43, 44, 45, 126, 228, 229, 230, 231, 7, 8, 9, 120, 121, 232, 233, 234, 235, 163, 236, 160, 161, 162, 239, 240, 241, 242, 243, 244, 245, 246, 247, 248, 249, 250] (by decide +kernel) (by decide +kernel)
set_option maxRecDepth 20000 in
theorem gX5_tell_X5_tellYears : GoodIn wsX5_tell (va_wsS RX5 105 yX5_tellYears wsX5_tellYears) := goodIn_app (goodIn_of _ (by decide +kernel)) ggX5_tell_X5_tellYears
theorem dX5_tell_0 : decode cX5_tell 0 = .ok (.aload_n 0, 1) := by decide +kernel
theorem dX5_tell_1 : decode cX5_tell 1 = .ok (.iload_n 2, 1) := by decide +kernel
theorem dX5_tell_2 : decode cX5_tell 2 = .ok (.iconst 1, 1) := by decide +kernel
theorem dX5_tell_3 : decode cX5_tell 3 = .ok (.iadd, 1) := by decide +kernel
theorem dX5_tell_4 : decode cX5_tell 4 = .ok (.invokevirtual 72, 3) := by decide +kernel
theorem dX5_tell_7 : decode cX5_tell 7 = .ok (.istore_n 3, 1) := by decide +kernel
theorem dX5_tell_8 : decode cX5_tell 8 = .ok (.aload_n 0, 1) := by decide +kernel
theorem dX5_tell_9 : decode cX5_tell 9 = .ok (.iload_n 2, 1) := by decide +kernel
theorem dX5_tell_10 : decode cX5_tell 10 = .ok (.iconst 2, 1) := by decide +kernel
theorem dX5_tell_11 : decode cX5_tell 11 = .ok (.iadd, 1) := by decide +kernel
theorem dX5_tell_12 : decode cX5_tell 12 = .ok (.invokevirtual 72, 3) := by decide +kernel
theorem dX5_tell_15 : decode cX5_tell 15 = .ok (.istore 4, 2) := by decide +kernel
theorem dX5_tell_17 : decode cX5_tell 17 = .ok (.aload_n 0, 1) := by decide +kernel
theorem dX5_tell_18 : decode cX5_tell 18 = .ok (.getfield 9, 3) := by decide +kernel
theorem dX5_tell_21 : decode cX5_tell 21 = .ok (.iload_n 2, 1) := by decide +kernel
theorem dX5_tell_22 : decode cX5_tell 22 = .ok (.invokestatic 31, 3) := by decide +kernel
theorem dX5_tell_25 : decode cX5_tell 25 = .ok (.lookupswitch 131 #[(98, 51), (103, 72), (108, 99), (116, 91), (119, 107)], 51) := by decide +kernel
theorem dX5_tell_76 : decode cX5_tell 76 = .ok (.aload_n 1, 1) := by decide +kernel
theorem dX5_tell_77 : decode cX5_tell 77 = .ok (.aload_n 0, 1) := by decide +kernel
theorem dX5_tell_78 : decode cX5_tell 78 = .ok (.iload_n 2, 1) := by decide +kernel
theorem dX5_tell_79 : decode cX5_tell 79 = .ok (.iconst 1, 1) := by decide +kernel
theorem dX5_tell_80 : decode cX5_tell 80 = .ok (.iadd, 1) := by decide +kernel
theorem dX5_tell_81 : decode cX5_tell 81 = .ok (.invokevirtual 75, 3) := by decide +kernel
theorem dX5_tell_84 : decode cX5_tell 84 = .ok (.iload 4, 2) := by decide +kernel
theorem dX5_tell_86 : decode cX5_tell 86 = .ok (.aload_n 0, 1) := by decide +kernel
theorem dX5_tell_87 : decode cX5_tell 87 = .ok (.iload_n 2, 1) := by decide +kernel
theorem dX5_tell_88 : decode cX5_tell 88 = .ok (.iconst 3, 1) := by decide +kernel
theorem dX5_tell_89 : decode cX5_tell 89 = .ok (.iadd, 1) := by decide +kernel
theorem dX5_tell_90 : decode cX5_tell 90 = .ok (.invokevirtual 78, 3) := by decide +kernel
theorem dX5_tell_93 : decode cX5_tell 93 = .ok (.invokevirtual 81, 3) := by decide +kernel
theorem dX5_tell_96 : decode cX5_tell 96 = .ok (.ireturn, 1) := by decide +kernel
theorem dX5_tell_97 : decode cX5_tell 97 = .ok (.aload_n 1, 1) := by decide +kernel
theorem dX5_tell_98 : decode cX5_tell 98 = .ok (.aload_n 0, 1) := by decide +kernel
theorem dX5_tell_99 : decode cX5_tell 99 = .ok (.iload_n 2, 1) := by decide +kernel
theorem dX5_tell_100 : decode cX5_tell 100 = .ok (.iconst 1, 1) := by decide +kernel
theorem dX5_tell_101 : decode cX5_tell 101 = .ok (.iadd, 1) := by decide +kernel
theorem dX5_tell_102 : decode cX5_tell 102 = .ok (.invokevirtual 78, 3) := by decide +kernel
theorem dX5_tell_105 : decode cX5_tell 105 = .ok (.aload_n 0, 1) := by decide +kernel
theorem dX5_tell_106 : decode cX5_tell 106 = .ok (.iload_n 2, 1) := by decide +kernel
theorem dX5_tell_107 : decode cX5_tell 107 = .ok (.iconst 3, 1) := by decide +kernel
theorem dX5_tell_108 : decode cX5_tell 108 = .ok (.iadd, 1) := by decide +kernel
theorem dX5_tell_109 : decode cX5_tell 109 = .ok (.invokevirtual 78, 3) := by decide +kernel
theorem dX5_tell_112 : decode cX5_tell 112 = .ok (.invokevirtual 87, 3) := by decide +kernel
theorem dX5_tell_115 : decode cX5_tell 115 = .ok (.ireturn, 1) := by decide +kernel
theorem dX5_tell_116 : decode cX5_tell 116 = .ok (.aload_n 1, 1) := by decide +kernel
theorem dX5_tell_117 : decode cX5_tell 117 = .ok (.iload_n 3, 1) := by decide +kernel
theorem dX5_tell_118 : decode cX5_tell 118 = .ok (.iload 4, 2) := by decide +kernel
theorem dX5_tell_120 : decode cX5_tell 120 = .ok (.invokestatic 91, 3) := by decide +kernel
theorem dX5_tell_123 : decode cX5_tell 123 = .ok (.ireturn, 1) := by decide +kernel
theorem dX5_tell_124 : decode cX5_tell 124 = .ok (.aload_n 1, 1) := by decide +kernel
theorem dX5_tell_125 : decode cX5_tell 125 = .ok (.iload_n 3, 1) := by decide +kernel
theorem dX5_tell_126 : decode cX5_tell 126 = .ok (.iload 4, 2) := by decide +kernel
theorem dX5_tell_128 : decode cX5_tell 128 = .ok (.invokestatic 95, 3) := by decide +kernel
theorem dX5_tell_131 : decode cX5_tell 131 = .ok (.ireturn, 1) := by decide +kernel
theorem dX5_tell_132 : decode cX5_tell 132 = .ok (.aload_n 1, 1) := by decide +kernel
theorem dX5_tell_133 : decode cX5_tell 133 = .ok (.iload_n 3, 1) := by decide +kernel
theorem dX5_tell_134 : decode cX5_tell 134 = .ok (.invokevirtual 98, 3) := by decide +kernel
theorem dX5_tell_137 : decode cX5_tell 137 = .ok (.ifCond .eq 17, 3) := by decide +kernel
theorem dX5_tell_140 : decode cX5_tell 140 = .ok (.aload_n 1, 1) := by decide +kernel
theorem dX5_tell_141 : decode cX5_tell 141 = .ok (.iload_n 3, 1) := by decide +kernel
theorem dX5_tell_142 : decode cX5_tell 142 = .ok (.invokevirtual 102, 3) := by decide +kernel
theorem dX5_tell_145 : decode cX5_tell 145 = .ok (.bipush (-9), 2) := by decide +kernel
theorem dX5_tell_147 : decode cX5_tell 147 = .ok (.if_icmp .eq 7, 3) := by decide +kernel
theorem dX5_tell_150 : decode cX5_tell 150 = .ok (.iconst 1, 1) := by decide +kernel
theorem dX5_tell_151 : decode cX5_tell 151 = .ok (.goto 4, 3) := by decide +kernel
theorem dX5_tell_154 : decode cX5_tell 154 = .ok (.iconst 0, 1) := by decide +kernel
theorem dX5_tell_155 : decode cX5_tell 155 = .ok (.ireturn, 1) := by decide +kernel
theorem dX5_tell_156 : decode cX5_tell 156 = .ok (.aload_n 1, 1) := by decide +kernel
theorem dX5_tell_157 : decode cX5_tell 157 = .ok (.aload_n 0, 1) := by decide +kernel
theorem dX5_tell_158 : decode cX5_tell 158 = .ok (.iload_n 2, 1) := by decide +kernel
theorem dX5_tell_159 : decode cX5_tell 159 = .ok (.iconst 1, 1) := by decide +kernel
theorem dX5_tell_160 : decode cX5_tell 160 = .ok (.iadd, 1) := by decide +kernel
theorem dX5_tell_161 : decode cX5_tell 161 = .ok (.invokevirtual 78, 3) := by decide +kernel
theorem dX5_tell_164 : decode cX5_tell 164 = .ok (.invokestatic 105, 3) := by decide +kernel
theorem dX5_tell_167 : decode cX5_tell 167 = .ok (.ireturn, 1) := by decide +kernel
set_option maxRecDepth 20000 in
theorem ggX5_tellToe_X6_hasBride : GoodIn wsX5_tellToe wsX6_hasBride := goodIn_r _ [5, 6, 21, 22, 23, 24, 25, 26, 27, 28, 29, 30, 31, 32] (by decide +kernel) (by decide +kernel)
set_option maxRecDepth 20000 in
theorem gX5_tellToe_X6_hasBride : GoodIn wsX5_tellToe (wsV RX5 108 RX6 yX6_hasBride wsX6_hasBride) := goodIn_app (goodIn_of _ (by decide +kernel)) ggX5_tellToe_X6_hasBride
set_option maxRecDepth 20000 in
theorem ggX5_tellToe_X6_changeToes : GoodIn wsX5_tellToe wsX6_changeToes := goodIn_r _ [10, 11, 12, 13, 14, 4, 15, 16, 17, 18, 19, 20, 21, 22, 23, 24, 25, 26, 27, 28, 29, 30, 31, 32] (by decide +kernel) (by decide +kernel)
set_option maxRecDepth 20000 in
theorem gX5_tellToe_X6_changeToes : GoodIn wsX5_tellToe (wsV RX5 111 RX6 yX6_changeToes wsX6_changeToes) := goodIn_app (goodIn_of _ (by decide +kernel)) ggX5_tellToe_X6_changeToes
theorem dX5_tellToe_0 : decode cX5_tellToe 0 = .ok (.aload_n 0, 1) := by decide +kernel
theorem dX5_tellToe_1 : decode cX5_tellToe 1 = .ok (.iload_n 1, 1) := by decide +kernel
theorem dX5_tellToe_2 : decode cX5_tellToe 2 = .ok (.invokevirtual 108, 3) := by decide +kernel
theorem dX5_tellToe_5 : decode cX5_tellToe 5 = .ok (.ifCond .eq 9, 3) := by decide +kernel
theorem dX5_tellToe_8 : decode cX5_tellToe 8 = .ok (.iload_n 2, 1) := by decide +kernel
theorem dX5_tellToe_9 : decode cX5_tellToe 9 = .ok (.bipush 6, 2) := by decide +kernel
theorem dX5_tellToe_11 : decode cX5_tellToe 11 = .ok (.if_icmp .lt 5, 3) := by decide +kernel
theorem dX5_tellToe_14 : decode cX5_tellToe 14 = .ok (.iconst 0, 1) := by decide +kernel
theorem dX5_tellToe_15 : decode cX5_tellToe 15 = .ok (.ireturn, 1) := by decide +kernel
theorem dX5_tellToe_16 : decode cX5_tellToe 16 = .ok (.aload_n 0, 1) := by decide +kernel
theorem dX5_tellToe_17 : decode cX5_tellToe 17 = .ok (.iload_n 1, 1) := by decide +kernel
theorem dX5_tellToe_18 : decode cX5_tellToe 18 = .ok (.iconst 1, 1) := by decide +kernel
theorem dX5_tellToe_19 : decode cX5_tellToe 19 = .ok (.iload_n 2, 1) := by decide +kernel
theorem dX5_tellToe_20 : decode cX5_tellToe 20 = .ok (.ishl, 1) := by decide +kernel
theorem dX5_tellToe_21 : decode cX5_tellToe 21 = .ok (.invokevirtual 111, 3) := by decide +kernel
theorem dX5_tellToe_24 : decode cX5_tellToe 24 = .ok (.iconst 1, 1) := by decide +kernel
theorem dX5_tellToe_25 : decode cX5_tellToe 25 = .ok (.ireturn, 1) := by decide +kernel
set_option maxRecDepth 20000 in
theorem ggX5_tellLiquor_X6_hasGroom : GoodIn wsX5_tellLiquor wsX6_hasGroom := goodIn_r _ [5, 6, 15, 16, 17, 18, 19, 20, 21, 22, 23, 24, 25, 26] (by decide +kernel) (by decide +kernel)
set_option maxRecDepth 20000 in
theorem gX5_tellLiquor_X6_hasGroom : GoodIn wsX5_tellLiquor (wsV RX5 115 RX6 yX6_hasGroom wsX6_hasGroom) := goodIn_app (goodIn_of _ (by decide +kernel)) ggX5_tellLiquor_X6_hasGroom
set_option maxRecDepth 20000 in
theorem ggX5_tellLiquor_X6_setLiquor : GoodIn wsX5_tellLiquor wsX6_setLiquor := goodIn_r _ [10, 11, 12, 13, 14, 15, 16, 17, 18, 19, 20, 21, 22, 23, 24, 25, 26] (by decide +kernel) (by decide +kernel)
set_option maxRecDepth 20000 in
theorem gX5_tellLiquor_X6_setLiquor : GoodIn wsX5_tellLiquor (wsV RX5 118 RX6 yX6_setLiquor wsX6_setLiquor) := goodIn_app (goodIn_of _ (by decide +kernel)) ggX5_tellLiquor_X6_setLiquor
theorem dX5_tellLiquor_0 : decode cX5_tellLiquor 0 = .ok (.aload_n 0, 1) := by decide +kernel
theorem dX5_tellLiquor_1 : decode cX5_tellLiquor 1 = .ok (.iload_n 1, 1) := by decide +kernel
theorem dX5_tellLiquor_2 : decode cX5_tellLiquor 2 = .ok (.invokevirtual 115, 3) := by decide +kernel
theorem dX5_tellLiquor_5 : decode cX5_tellLiquor 5 = .ok (.ifCond .ne 5, 3) := by decide +kernel
theorem dX5_tellLiquor_8 : decode cX5_tellLiquor 8 = .ok (.iconst 0, 1) := by decide +kernel
theorem dX5_tellLiquor_9 : decode cX5_tellLiquor 9 = .ok (.ireturn, 1) := by decide +kernel
theorem dX5_tellLiquor_10 : decode cX5_tellLiquor 10 = .ok (.aload_n 0, 1) := by decide +kernel
theorem dX5_tellLiquor_11 : decode cX5_tellLiquor 11 = .ok (.iload_n 1, 1) := by decide +kernel
theorem dX5_tellLiquor_12 : decode cX5_tellLiquor 12 = .ok (.iload_n 2, 1) := by decide +kernel
theorem dX5_tellLiquor_13 : decode cX5_tellLiquor 13 = .ok (.invokevirtual 118, 3) := by decide +kernel
theorem dX5_tellLiquor_16 : decode cX5_tellLiquor 16 = .ok (.iconst 1, 1) := by decide +kernel
theorem dX5_tellLiquor_17 : decode cX5_tellLiquor 17 = .ok (.ireturn, 1) := by decide +kernel
set_option maxRecDepth 20000 in
theorem ggX5_tellYears_X6_canPass : GoodIn wsX5_tellYears wsX6_canPass := goodIn_r _ [5, 6, 36, 37, 38, 39, 40, 41, 42, 43, 44, 45, 46, 47] (by decide +kernel) (by decide +kernel)
set_option maxRecDepth 20000 in
theorem gX5_tellYears_X6_canPass : GoodIn wsX5_tellYears (wsV RX5 121 RX6 yX6_canPass wsX6_canPass) := goodIn_app (goodIn_of _ (by decide +kernel)) ggX5_tellYears_X6_canPass
set_option maxRecDepth 20000 in
theorem ggX5_tellYears_X6_passYears : GoodIn wsX5_tellYears wsX6_passYears := goodIn_r _ [10, 6, 11, 12, 13, 14, 15, 16, 17, 18, 19, 20, 4, 21, 22, 23, 24, 25, 26, 27, 28, 29, 30, 31, 32, 33, 34, 35, 36, 37, 38, 39, 40, 41, 42, 43, 44, 45, 46, 47] (by decide +kernel) (by decide +kernel)
set_option maxRecDepth 20000 in
theorem gX5_tellYears_X6_passYears : GoodIn wsX5_tellYears (wsV RX5 124 RX6 yX6_passYears wsX6_passYears) := goodIn_app (goodIn_of _ (by decide +kernel)) ggX5_tellYears_X6_passYears
theorem dX5_tellYears_0 : decode cX5_tellYears 0 = .ok (.iload_n 1, 1) := by decide +kernel
theorem dX5_tellYears_1 : decode cX5_tellYears 1 = .ok (.iconst 1, 1) := by decide +kernel
theorem dX5_tellYears_2 : decode cX5_tellYears 2 = .ok (.if_icmp .lt 17, 3) := by decide +kernel
theorem dX5_tellYears_5 : decode cX5_tellYears 5 = .ok (.iload_n 1, 1) := by decide +kernel
theorem dX5_tellYears_6 : decode cX5_tellYears 6 = .ok (.bipush 60, 2) := by decide +kernel
theorem dX5_tellYears_8 : decode cX5_tellYears 8 = .ok (.if_icmp .gt 11, 3) := by decide +kernel
theorem dX5_tellYears_11 : decode cX5_tellYears 11 = .ok (.aload_n 0, 1) := by decide +kernel
theorem dX5_tellYears_12 : decode cX5_tellYears 12 = .ok (.iload_n 1, 1) := by decide +kernel
theorem dX5_tellYears_13 : decode cX5_tellYears 13 = .ok (.invokevirtual 121, 3) := by decide +kernel
theorem dX5_tellYears_16 : decode cX5_tellYears 16 = .ok (.ifCond .ne 5, 3) := by decide +kernel
theorem dX5_tellYears_19 : decode cX5_tellYears 19 = .ok (.iconst 0, 1) := by decide +kernel
theorem dX5_tellYears_20 : decode cX5_tellYears 20 = .ok (.ireturn, 1) := by decide +kernel
theorem dX5_tellYears_21 : decode cX5_tellYears 21 = .ok (.aload_n 0, 1) := by decide +kernel
theorem dX5_tellYears_22 : decode cX5_tellYears 22 = .ok (.iload_n 1, 1) := by decide +kernel
theorem dX5_tellYears_23 : decode cX5_tellYears 23 = .ok (.invokevirtual 124, 3) := by decide +kernel
theorem dX5_tellYears_26 : decode cX5_tellYears 26 = .ok (.iconst 1, 1) := by decide +kernel
theorem dX5_tellYears_27 : decode cX5_tellYears 27 = .ok (.ireturn, 1) := by decide +kernel
set_option maxRecDepth 20000 in
theorem ggX5_kindAt_X7_at : GoodIn wsX5_kindAt wsX7_at := goodIn_r _ [4] (by decide +kernel) (by decide +kernel)
set_option maxRecDepth 20000 in
theorem gX5_kindAt_X7_at_n31 : GoodIn wsX5_kindAt (wsX7_at) := ggX5_kindAt_X7_at
set_option maxRecDepth 20000 in
theorem ggX5_kindAt_J0_indexOf_0f7a4 : GoodIn wsX5_kindAt wsJ0_indexOf_0f7a4 := goodIn_r _ [9, 10, 11, 12, 8, 13, 14, 15, 16, 17, 18, 19, 20, 21, 22, 23, 24, 25, 26, 27, 28, 29, 30, 31, 32, 33, 34, 35, 36, 37, 38, 39, 40, 41, 42, 43, 44, 45, 46, 47, 48, 49, 50, 51, 52, 53, 54, 55, 56, 57, 58, 59, 60, 61, 62, 63, 64, 65, 66, 67, 68, 69, 70, 71, 72, 73, 74, 75, 76, 77, 78, 79, 80, 81, 82, 83, 84, 85, 86, 87, 88, 89, 90, 91, 92, 93] (by decide +kernel) (by decide +kernel)
set_option maxRecDepth 20000 in
theorem gX5_kindAt_J0_indexOf_0f7a4 : GoodIn wsX5_kindAt (wsV RX5 68 RJ0 yJ0_indexOf_0f7a4 wsJ0_indexOf_0f7a4) := goodIn_app (goodIn_of _ (by decide +kernel)) ggX5_kindAt_J0_indexOf_0f7a4
theorem dX5_kindAt_0 : decode cX5_kindAt 0 = .ok (.ldc 66, 2) := by decide +kernel
theorem dX5_kindAt_2 : decode cX5_kindAt 2 = .ok (.aload_n 0, 1) := by decide +kernel
theorem dX5_kindAt_3 : decode cX5_kindAt 3 = .ok (.getfield 9, 3) := by decide +kernel
theorem dX5_kindAt_6 : decode cX5_kindAt 6 = .ok (.iload_n 1, 1) := by decide +kernel
theorem dX5_kindAt_7 : decode cX5_kindAt 7 = .ok (.invokestatic 31, 3) := by decide +kernel
theorem dX5_kindAt_10 : decode cX5_kindAt 10 = .ok (.i2c, 1) := by decide +kernel
theorem dX5_kindAt_11 : decode cX5_kindAt 11 = .ok (.invokevirtual 68, 3) := by decide +kernel
theorem dX5_kindAt_14 : decode cX5_kindAt 14 = .ok (.ireturn, 1) := by decide +kernel
set_option maxRecDepth 20000 in
theorem ggX5_digitAt_X7_at : GoodIn wsX5_digitAt wsX7_at := goodIn_r _ [4] (by decide +kernel) (by decide +kernel)
set_option maxRecDepth 20000 in
theorem gX5_digitAt_X7_at_n31 : GoodIn wsX5_digitAt (wsX7_at) := ggX5_digitAt_X7_at
theorem dX5_digitAt_0 : decode cX5_digitAt 0 = .ok (.aload_n 0, 1) := by decide +kernel
theorem dX5_digitAt_1 : decode cX5_digitAt 1 = .ok (.getfield 9, 3) := by decide +kernel
theorem dX5_digitAt_4 : decode cX5_digitAt 4 = .ok (.iload_n 1, 1) := by decide +kernel
theorem dX5_digitAt_5 : decode cX5_digitAt 5 = .ok (.invokestatic 31, 3) := by decide +kernel
theorem dX5_digitAt_8 : decode cX5_digitAt 8 = .ok (.bipush 48, 2) := by decide +kernel
theorem dX5_digitAt_10 : decode cX5_digitAt 10 = .ok (.isub, 1) := by decide +kernel
theorem dX5_digitAt_11 : decode cX5_digitAt 11 = .ok (.ireturn, 1) := by decide +kernel
set_option maxRecDepth 20000 in
theorem ggX5_numberAt_X5_digitAt : GoodIn wsX5_numberAt wsX5_digitAt := goodIn_r _ [5, 6, 7, 8, 9, 10, 11] (by decide +kernel) (by decide +kernel)
set_option maxRecDepth 20000 in
theorem gX5_numberAt_X5_digitAt : GoodIn wsX5_numberAt (wsV RX5 72 RX5 yX5_digitAt wsX5_digitAt) := goodIn_app (goodIn_of _ (by decide +kernel)) ggX5_numberAt_X5_digitAt
theorem dX5_numberAt_0 : decode cX5_numberAt 0 = .ok (.bipush 10, 2) := by decide +kernel
theorem dX5_numberAt_2 : decode cX5_numberAt 2 = .ok (.aload_n 0, 1) := by decide +kernel
theorem dX5_numberAt_3 : decode cX5_numberAt 3 = .ok (.iload_n 1, 1) := by decide +kernel
theorem dX5_numberAt_4 : decode cX5_numberAt 4 = .ok (.invokevirtual 72, 3) := by decide +kernel
theorem dX5_numberAt_7 : decode cX5_numberAt 7 = .ok (.imul, 1) := by decide +kernel
theorem dX5_numberAt_8 : decode cX5_numberAt 8 = .ok (.aload_n 0, 1) := by decide +kernel
theorem dX5_numberAt_9 : decode cX5_numberAt 9 = .ok (.iload_n 1, 1) := by decide +kernel
theorem dX5_numberAt_10 : decode cX5_numberAt 10 = .ok (.iconst 1, 1) := by decide +kernel
theorem dX5_numberAt_11 : decode cX5_numberAt 11 = .ok (.iadd, 1) := by decide +kernel
theorem dX5_numberAt_12 : decode cX5_numberAt 12 = .ok (.invokevirtual 72, 3) := by decide +kernel
theorem dX5_numberAt_15 : decode cX5_numberAt 15 = .ok (.iadd, 1) := by decide +kernel
theorem dX5_numberAt_16 : decode cX5_numberAt 16 = .ok (.ireturn, 1) := by decide +kernel
theorem dX6_init_0 : decode cX6_init 0 = .ok (.aload_n 0, 1) := by decide +kernel
theorem dX6_init_1 : decode cX6_init 1 = .ok (.invokespecial 3, 3) := by decide +kernel
theorem dX6_init_4 : decode cX6_init 4 = .ok (.aload_n 0, 1) := by decide +kernel
theorem dX6_init_5 : decode cX6_init 5 = .ok (.bipush 8, 2) := by decide +kernel
theorem dX6_init_7 : decode cX6_init 7 = .ok (.newarray .int, 2) := by decide +kernel
theorem dX6_init_9 : decode cX6_init 9 = .ok (.putfield 9, 3) := by decide +kernel
theorem dX6_init_12 : decode cX6_init 12 = .ok (.aload_n 0, 1) := by decide +kernel
theorem dX6_init_13 : decode cX6_init 13 = .ok (.bipush 8, 2) := by decide +kernel
theorem dX6_init_15 : decode cX6_init 15 = .ok (.newarray .int, 2) := by decide +kernel
theorem dX6_init_17 : decode cX6_init 17 = .ok (.putfield 15, 3) := by decide +kernel
theorem dX6_init_20 : decode cX6_init 20 = .ok (.aload_n 0, 1) := by decide +kernel
theorem dX6_init_21 : decode cX6_init 21 = .ok (.bipush 8, 2) := by decide +kernel
theorem dX6_init_23 : decode cX6_init 23 = .ok (.newarray .int, 2) := by decide +kernel
theorem dX6_init_25 : decode cX6_init 25 = .ok (.putfield 18, 3) := by decide +kernel
theorem dX6_init_28 : decode cX6_init 28 = .ok (.aload_n 0, 1) := by decide +kernel
theorem dX6_init_29 : decode cX6_init 29 = .ok (.bipush 8, 2) := by decide +kernel
theorem dX6_init_31 : decode cX6_init 31 = .ok (.newarray .int, 2) := by decide +kernel
theorem dX6_init_33 : decode cX6_init 33 = .ok (.putfield 21, 3) := by decide +kernel
theorem dX6_init_36 : decode cX6_init 36 = .ok (.aload_n 0, 1) := by decide +kernel
theorem dX6_init_37 : decode cX6_init 37 = .ok (.iconst 5, 1) := by decide +kernel
theorem dX6_init_38 : decode cX6_init 38 = .ok (.newarray .int, 2) := by decide +kernel
theorem dX6_init_40 : decode cX6_init 40 = .ok (.putfield 24, 3) := by decide +kernel
theorem dX6_init_43 : decode cX6_init 43 = .ok (.aload_n 0, 1) := by decide +kernel
theorem dX6_init_44 : decode cX6_init 44 = .ok (.iconst 5, 1) := by decide +kernel
theorem dX6_init_45 : decode cX6_init 45 = .ok (.newarray .int, 2) := by decide +kernel
theorem dX6_init_47 : decode cX6_init 47 = .ok (.putfield 27, 3) := by decide +kernel
theorem dX6_init_50 : decode cX6_init 50 = .ok (.aload_n 0, 1) := by decide +kernel
theorem dX6_init_51 : decode cX6_init 51 = .ok (.iconst 5, 1) := by decide +kernel
theorem dX6_init_52 : decode cX6_init 52 = .ok (.newarray .int, 2) := by decide +kernel
theorem dX6_init_54 : decode cX6_init 54 = .ok (.putfield 30, 3) := by decide +kernel
theorem dX6_init_57 : decode cX6_init 57 = .ok (.return_, 1) := by decide +kernel
set_option maxRecDepth 20000 in
theorem ggX6_become_X7_copy : GoodIn wsX6_become wsX7_copy := goodIn_r _ [15] (by decide +kernel) (by decide +kernel)
set_option maxRecDepth 20000 in
theorem gX6_become_X7_copy_n40 : GoodIn wsX6_become (wsX7_copy) := ggX6_become_X7_copy
theorem dX6_become_0 : decode cX6_become 0 = .ok (.aload_n 1, 1) := by decide +kernel
theorem dX6_become_1 : decode cX6_become 1 = .ok (.ifnonnull 4, 3) := by decide +kernel
theorem dX6_become_4 : decode cX6_become 4 = .ok (.return_, 1) := by decide +kernel
theorem dX6_become_5 : decode cX6_become 5 = .ok (.aload_n 0, 1) := by decide +kernel
theorem dX6_become_6 : decode cX6_become 6 = .ok (.aload_n 1, 1) := by decide +kernel
theorem dX6_become_7 : decode cX6_become 7 = .ok (.getfield 33, 3) := by decide +kernel
theorem dX6_become_10 : decode cX6_become 10 = .ok (.putfield 33, 3) := by decide +kernel
theorem dX6_become_13 : decode cX6_become 13 = .ok (.aload_n 0, 1) := by decide +kernel
theorem dX6_become_14 : decode cX6_become 14 = .ok (.aload_n 1, 1) := by decide +kernel
theorem dX6_become_15 : decode cX6_become 15 = .ok (.getfield 37, 3) := by decide +kernel
theorem dX6_become_18 : decode cX6_become 18 = .ok (.putfield 37, 3) := by decide +kernel
theorem dX6_become_21 : decode cX6_become 21 = .ok (.aload_n 1, 1) := by decide +kernel
theorem dX6_become_22 : decode cX6_become 22 = .ok (.getfield 9, 3) := by decide +kernel
theorem dX6_become_25 : decode cX6_become 25 = .ok (.aload_n 0, 1) := by decide +kernel
theorem dX6_become_26 : decode cX6_become 26 = .ok (.getfield 9, 3) := by decide +kernel
theorem dX6_become_29 : decode cX6_become 29 = .ok (.invokestatic 40, 3) := by decide +kernel
theorem dX6_become_32 : decode cX6_become 32 = .ok (.aload_n 1, 1) := by decide +kernel
theorem dX6_become_33 : decode cX6_become 33 = .ok (.getfield 15, 3) := by decide +kernel
theorem dX6_become_36 : decode cX6_become 36 = .ok (.aload_n 0, 1) := by decide +kernel
theorem dX6_become_37 : decode cX6_become 37 = .ok (.getfield 15, 3) := by decide +kernel
theorem dX6_become_40 : decode cX6_become 40 = .ok (.invokestatic 40, 3) := by decide +kernel
theorem dX6_become_43 : decode cX6_become 43 = .ok (.aload_n 1, 1) := by decide +kernel
theorem dX6_become_44 : decode cX6_become 44 = .ok (.getfield 18, 3) := by decide +kernel
theorem dX6_become_47 : decode cX6_become 47 = .ok (.aload_n 0, 1) := by decide +kernel
theorem dX6_become_48 : decode cX6_become 48 = .ok (.getfield 18, 3) := by decide +kernel
theorem dX6_become_51 : decode cX6_become 51 = .ok (.invokestatic 40, 3) := by decide +kernel
theorem dX6_become_54 : decode cX6_become 54 = .ok (.aload_n 1, 1) := by decide +kernel
theorem dX6_become_55 : decode cX6_become 55 = .ok (.getfield 21, 3) := by decide +kernel
theorem dX6_become_58 : decode cX6_become 58 = .ok (.aload_n 0, 1) := by decide +kernel
theorem dX6_become_59 : decode cX6_become 59 = .ok (.getfield 21, 3) := by decide +kernel
theorem dX6_become_62 : decode cX6_become 62 = .ok (.invokestatic 40, 3) := by decide +kernel
theorem dX6_become_65 : decode cX6_become 65 = .ok (.aload_n 0, 1) := by decide +kernel
theorem dX6_become_66 : decode cX6_become 66 = .ok (.aload_n 1, 1) := by decide +kernel
theorem dX6_become_67 : decode cX6_become 67 = .ok (.getfield 44, 3) := by decide +kernel
theorem dX6_become_70 : decode cX6_become 70 = .ok (.putfield 44, 3) := by decide +kernel
theorem dX6_become_73 : decode cX6_become 73 = .ok (.aload_n 0, 1) := by decide +kernel
theorem dX6_become_74 : decode cX6_become 74 = .ok (.aload_n 1, 1) := by decide +kernel
theorem dX6_become_75 : decode cX6_become 75 = .ok (.getfield 47, 3) := by decide +kernel
theorem dX6_become_78 : decode cX6_become 78 = .ok (.putfield 47, 3) := by decide +kernel
theorem dX6_become_81 : decode cX6_become 81 = .ok (.aload_n 1, 1) := by decide +kernel
theorem dX6_become_82 : decode cX6_become 82 = .ok (.getfield 24, 3) := by decide +kernel
theorem dX6_become_85 : decode cX6_become 85 = .ok (.aload_n 0, 1) := by decide +kernel
theorem dX6_become_86 : decode cX6_become 86 = .ok (.getfield 24, 3) := by decide +kernel
theorem dX6_become_89 : decode cX6_become 89 = .ok (.invokestatic 40, 3) := by decide +kernel
theorem dX6_become_92 : decode cX6_become 92 = .ok (.aload_n 1, 1) := by decide +kernel
theorem dX6_become_93 : decode cX6_become 93 = .ok (.getfield 27, 3) := by decide +kernel
theorem dX6_become_96 : decode cX6_become 96 = .ok (.aload_n 0, 1) := by decide +kernel
theorem dX6_become_97 : decode cX6_become 97 = .ok (.getfield 27, 3) := by decide +kernel
theorem dX6_become_100 : decode cX6_become 100 = .ok (.invokestatic 40, 3) := by decide +kernel
theorem dX6_become_103 : decode cX6_become 103 = .ok (.aload_n 1, 1) := by decide +kernel
theorem dX6_become_104 : decode cX6_become 104 = .ok (.getfield 30, 3) := by decide +kernel
theorem dX6_become_107 : decode cX6_become 107 = .ok (.aload_n 0, 1) := by decide +kernel
theorem dX6_become_108 : decode cX6_become 108 = .ok (.getfield 30, 3) := by decide +kernel
theorem dX6_become_111 : decode cX6_become 111 = .ok (.invokestatic 40, 3) := by decide +kernel
theorem dX6_become_114 : decode cX6_become 114 = .ok (.aload_n 0, 1) := by decide +kernel
theorem dX6_become_115 : decode cX6_become 115 = .ok (.aload_n 1, 1) := by decide +kernel
theorem dX6_become_116 : decode cX6_become 116 = .ok (.getfield 50, 3) := by decide +kernel
theorem dX6_become_119 : decode cX6_become 119 = .ok (.putfield 50, 3) := by decide +kernel
theorem dX6_become_122 : decode cX6_become 122 = .ok (.return_, 1) := by decide +kernel
theorem dX6_hasBride_0 : decode cX6_hasBride 0 = .ok (.iload_n 1, 1) := by decide +kernel
theorem dX6_hasBride_1 : decode cX6_hasBride 1 = .ok (.ifCond .lt 15, 3) := by decide +kernel
theorem dX6_hasBride_4 : decode cX6_hasBride 4 = .ok (.iload_n 1, 1) := by decide +kernel
theorem dX6_hasBride_5 : decode cX6_hasBride 5 = .ok (.aload_n 0, 1) := by decide +kernel
theorem dX6_hasBride_6 : decode cX6_hasBride 6 = .ok (.getfield 37, 3) := by decide +kernel
theorem dX6_hasBride_9 : decode cX6_hasBride 9 = .ok (.if_icmp .ge 7, 3) := by decide +kernel
theorem dX6_hasBride_12 : decode cX6_hasBride 12 = .ok (.iconst 1, 1) := by decide +kernel
theorem dX6_hasBride_13 : decode cX6_hasBride 13 = .ok (.goto 4, 3) := by decide +kernel
theorem dX6_hasBride_16 : decode cX6_hasBride 16 = .ok (.iconst 0, 1) := by decide +kernel
theorem dX6_hasBride_17 : decode cX6_hasBride 17 = .ok (.ireturn, 1) := by decide +kernel
theorem dX6_hasGroom_0 : decode cX6_hasGroom 0 = .ok (.iload_n 1, 1) := by decide +kernel
theorem dX6_hasGroom_1 : decode cX6_hasGroom 1 = .ok (.ifCond .lt 15, 3) := by decide +kernel
theorem dX6_hasGroom_4 : decode cX6_hasGroom 4 = .ok (.iload_n 1, 1) := by decide +kernel
theorem dX6_hasGroom_5 : decode cX6_hasGroom 5 = .ok (.aload_n 0, 1) := by decide +kernel
theorem dX6_hasGroom_6 : decode cX6_hasGroom 6 = .ok (.getfield 47, 3) := by decide +kernel
theorem dX6_hasGroom_9 : decode cX6_hasGroom 9 = .ok (.if_icmp .ge 7, 3) := by decide +kernel
theorem dX6_hasGroom_12 : decode cX6_hasGroom 12 = .ok (.iconst 1, 1) := by decide +kernel
theorem dX6_hasGroom_13 : decode cX6_hasGroom 13 = .ok (.goto 4, 3) := by decide +kernel
theorem dX6_hasGroom_16 : decode cX6_hasGroom 16 = .ok (.iconst 0, 1) := by decide +kernel
theorem dX6_hasGroom_17 : decode cX6_hasGroom 17 = .ok (.ireturn, 1) := by decide +kernel
set_option maxRecDepth 20000 in
theorem ggX6_kindOf_X7_at : GoodIn wsX6_kindOf wsX7_at := goodIn_r _ [4] (by decide +kernel) (by decide +kernel)
set_option maxRecDepth 20000 in
theorem gX6_kindOf_X7_at_n53 : GoodIn wsX6_kindOf (wsX7_at) := ggX6_kindOf_X7_at
theorem dX6_kindOf_0 : decode cX6_kindOf 0 = .ok (.aload_n 0, 1) := by decide +kernel
theorem dX6_kindOf_1 : decode cX6_kindOf 1 = .ok (.getfield 9, 3) := by decide +kernel
theorem dX6_kindOf_4 : decode cX6_kindOf 4 = .ok (.iload_n 1, 1) := by decide +kernel
theorem dX6_kindOf_5 : decode cX6_kindOf 5 = .ok (.invokestatic 53, 3) := by decide +kernel
theorem dX6_kindOf_8 : decode cX6_kindOf 8 = .ok (.ireturn, 1) := by decide +kernel
set_option maxRecDepth 20000 in
theorem ggX6_figureOf_X7_at : GoodIn wsX6_figureOf wsX7_at := goodIn_r _ [4] (by decide +kernel) (by decide +kernel)
set_option maxRecDepth 20000 in
theorem gX6_figureOf_X7_at_n53 : GoodIn wsX6_figureOf (wsX7_at) := ggX6_figureOf_X7_at
theorem dX6_figureOf_0 : decode cX6_figureOf 0 = .ok (.aload_n 0, 1) := by decide +kernel
theorem dX6_figureOf_1 : decode cX6_figureOf 1 = .ok (.getfield 15, 3) := by decide +kernel
theorem dX6_figureOf_4 : decode cX6_figureOf 4 = .ok (.iload_n 1, 1) := by decide +kernel
theorem dX6_figureOf_5 : decode cX6_figureOf 5 = .ok (.invokestatic 53, 3) := by decide +kernel
theorem dX6_figureOf_8 : decode cX6_figureOf 8 = .ok (.ireturn, 1) := by decide +kernel
set_option maxRecDepth 20000 in
theorem ggX6_footOf_X7_at : GoodIn wsX6_footOf wsX7_at := goodIn_r _ [4] (by decide +kernel) (by decide +kernel)
set_option maxRecDepth 20000 in
theorem gX6_footOf_X7_at_n53 : GoodIn wsX6_footOf (wsX7_at) := ggX6_footOf_X7_at
theorem dX6_footOf_0 : decode cX6_footOf 0 = .ok (.aload_n 0, 1) := by decide +kernel
theorem dX6_footOf_1 : decode cX6_footOf 1 = .ok (.getfield 18, 3) := by decide +kernel
theorem dX6_footOf_4 : decode cX6_footOf 4 = .ok (.iload_n 1, 1) := by decide +kernel
theorem dX6_footOf_5 : decode cX6_footOf 5 = .ok (.invokestatic 53, 3) := by decide +kernel
theorem dX6_footOf_8 : decode cX6_footOf 8 = .ok (.ireturn, 1) := by decide +kernel
set_option maxRecDepth 20000 in
theorem ggX6_sentFor_X7_at : GoodIn wsX6_sentFor wsX7_at := goodIn_r _ [4] (by decide +kernel) (by decide +kernel)
set_option maxRecDepth 20000 in
theorem gX6_sentFor_X7_at_n53 : GoodIn wsX6_sentFor (wsX7_at) := ggX6_sentFor_X7_at
theorem dX6_sentFor_0 : decode cX6_sentFor 0 = .ok (.aload_n 0, 1) := by decide +kernel
theorem dX6_sentFor_1 : decode cX6_sentFor 1 = .ok (.getfield 21, 3) := by decide +kernel
theorem dX6_sentFor_4 : decode cX6_sentFor 4 = .ok (.iload_n 1, 1) := by decide +kernel
theorem dX6_sentFor_5 : decode cX6_sentFor 5 = .ok (.invokestatic 53, 3) := by decide +kernel
theorem dX6_sentFor_8 : decode cX6_sentFor 8 = .ok (.ireturn, 1) := by decide +kernel
set_option maxRecDepth 20000 in
theorem ggX6_lookOf_X7_at : GoodIn wsX6_lookOf wsX7_at := goodIn_r _ [4] (by decide +kernel) (by decide +kernel)
set_option maxRecDepth 20000 in
theorem gX6_lookOf_X7_at_n53 : GoodIn wsX6_lookOf (wsX7_at) := ggX6_lookOf_X7_at
theorem dX6_lookOf_0 : decode cX6_lookOf 0 = .ok (.aload_n 0, 1) := by decide +kernel
theorem dX6_lookOf_1 : decode cX6_lookOf 1 = .ok (.getfield 24, 3) := by decide +kernel
theorem dX6_lookOf_4 : decode cX6_lookOf 4 = .ok (.iload_n 1, 1) := by decide +kernel
theorem dX6_lookOf_5 : decode cX6_lookOf 5 = .ok (.invokestatic 53, 3) := by decide +kernel
theorem dX6_lookOf_8 : decode cX6_lookOf 8 = .ok (.ireturn, 1) := by decide +kernel
set_option maxRecDepth 20000 in
theorem ggX6_mindOf_X7_at : GoodIn wsX6_mindOf wsX7_at := goodIn_r _ [4] (by decide +kernel) (by decide +kernel)
set_option maxRecDepth 20000 in
theorem gX6_mindOf_X7_at_n53 : GoodIn wsX6_mindOf (wsX7_at) := ggX6_mindOf_X7_at
theorem dX6_mindOf_0 : decode cX6_mindOf 0 = .ok (.aload_n 0, 1) := by decide +kernel
theorem dX6_mindOf_1 : decode cX6_mindOf 1 = .ok (.getfield 27, 3) := by decide +kernel
theorem dX6_mindOf_4 : decode cX6_mindOf 4 = .ok (.iload_n 1, 1) := by decide +kernel
theorem dX6_mindOf_5 : decode cX6_mindOf 5 = .ok (.invokestatic 53, 3) := by decide +kernel
theorem dX6_mindOf_8 : decode cX6_mindOf 8 = .ok (.ireturn, 1) := by decide +kernel
set_option maxRecDepth 20000 in
theorem ggX6_liquorOf_X7_at : GoodIn wsX6_liquorOf wsX7_at := goodIn_r _ [4] (by decide +kernel) (by decide +kernel)
set_option maxRecDepth 20000 in
theorem gX6_liquorOf_X7_at_n53 : GoodIn wsX6_liquorOf (wsX7_at) := ggX6_liquorOf_X7_at
theorem dX6_liquorOf_0 : decode cX6_liquorOf 0 = .ok (.aload_n 0, 1) := by decide +kernel
theorem dX6_liquorOf_1 : decode cX6_liquorOf 1 = .ok (.getfield 30, 3) := by decide +kernel
theorem dX6_liquorOf_4 : decode cX6_liquorOf 4 = .ok (.iload_n 1, 1) := by decide +kernel
theorem dX6_liquorOf_5 : decode cX6_liquorOf 5 = .ok (.invokestatic 53, 3) := by decide +kernel
theorem dX6_liquorOf_8 : decode cX6_liquorOf 8 = .ok (.ireturn, 1) := by decide +kernel
set_option maxRecDepth 20000 in
theorem ggX6_isUnmarried_X7_has : GoodIn wsX6_isUnmarried wsX7_has := goodIn_r _ [4] (by decide +kernel) (by decide +kernel)
set_option maxRecDepth 20000 in
theorem gX6_isUnmarried_X7_has_n57 : GoodIn wsX6_isUnmarried (wsX7_has) := ggX6_isUnmarried_X7_has
theorem dX6_isUnmarried_0 : decode cX6_isUnmarried 0 = .ok (.aload_n 0, 1) := by decide +kernel
theorem dX6_isUnmarried_1 : decode cX6_isUnmarried 1 = .ok (.getfield 50, 3) := by decide +kernel
theorem dX6_isUnmarried_4 : decode cX6_isUnmarried 4 = .ok (.iload_n 1, 1) := by decide +kernel
theorem dX6_isUnmarried_5 : decode cX6_isUnmarried 5 = .ok (.invokestatic 57, 3) := by decide +kernel
theorem dX6_isUnmarried_8 : decode cX6_isUnmarried 8 = .ok (.ifCond .ne 7, 3) := by decide +kernel
theorem dX6_isUnmarried_11 : decode cX6_isUnmarried 11 = .ok (.iconst 1, 1) := by decide +kernel
theorem dX6_isUnmarried_12 : decode cX6_isUnmarried 12 = .ok (.goto 4, 3) := by decide +kernel
theorem dX6_isUnmarried_15 : decode cX6_isUnmarried 15 = .ok (.iconst 0, 1) := by decide +kernel
theorem dX6_isUnmarried_16 : decode cX6_isUnmarried 16 = .ok (.ireturn, 1) := by decide +kernel
set_option maxRecDepth 20000 in
theorem ggX6_placeOf_X7_has : GoodIn wsX6_placeOf wsX7_has := goodIn_r _ [5] (by decide +kernel) (by decide +kernel)
set_option maxRecDepth 20000 in
theorem gX6_placeOf_X7_has_n57 : GoodIn wsX6_placeOf (wsX7_has) := ggX6_placeOf_X7_has
set_option maxRecDepth 20000 in
theorem ggX6_placeOf_X7_at : GoodIn wsX6_placeOf wsX7_at := goodIn_r _ [7] (by decide +kernel) (by decide +kernel)
set_option maxRecDepth 20000 in
theorem gX6_placeOf_X7_at_n53 : GoodIn wsX6_placeOf (wsX7_at) := ggX6_placeOf_X7_at
theorem dX6_placeOf_0 : decode cX6_placeOf 0 = .ok (.aload_n 0, 1) := by decide +kernel
theorem dX6_placeOf_1 : decode cX6_placeOf 1 = .ok (.getfield 44, 3) := by decide +kernel
theorem dX6_placeOf_4 : decode cX6_placeOf 4 = .ok (.iload_n 1, 1) := by decide +kernel
theorem dX6_placeOf_5 : decode cX6_placeOf 5 = .ok (.invokestatic 57, 3) := by decide +kernel
theorem dX6_placeOf_8 : decode cX6_placeOf 8 = .ok (.ifCond .eq 5, 3) := by decide +kernel
theorem dX6_placeOf_11 : decode cX6_placeOf 11 = .ok (.iconst 2, 1) := by decide +kernel
theorem dX6_placeOf_12 : decode cX6_placeOf 12 = .ok (.ireturn, 1) := by decide +kernel
theorem dX6_placeOf_13 : decode cX6_placeOf 13 = .ok (.aload_n 0, 1) := by decide +kernel
theorem dX6_placeOf_14 : decode cX6_placeOf 14 = .ok (.getfield 21, 3) := by decide +kernel
theorem dX6_placeOf_17 : decode cX6_placeOf 17 = .ok (.iload_n 1, 1) := by decide +kernel
theorem dX6_placeOf_18 : decode cX6_placeOf 18 = .ok (.invokestatic 53, 3) := by decide +kernel
theorem dX6_placeOf_21 : decode cX6_placeOf 21 = .ok (.ifCond .le 7, 3) := by decide +kernel
theorem dX6_placeOf_24 : decode cX6_placeOf 24 = .ok (.iconst 1, 1) := by decide +kernel
theorem dX6_placeOf_25 : decode cX6_placeOf 25 = .ok (.goto 4, 3) := by decide +kernel
theorem dX6_placeOf_28 : decode cX6_placeOf 28 = .ok (.iconst 0, 1) := by decide +kernel
theorem dX6_placeOf_29 : decode cX6_placeOf 29 = .ok (.ireturn, 1) := by decide +kernel
set_option maxRecDepth 20000 in
theorem ggX6_isHere_X6_placeOf : GoodIn wsX6_isHere wsX6_placeOf := goodIn_r _ [5, 6, 7, 8, 9, 10, 11, 12, 13, 14, 15, 16, 17, 18, 19, 20, 21, 22, 23, 24] (by decide +kernel) (by decide +kernel)
set_option maxRecDepth 20000 in
theorem gX6_isHere_X6_placeOf : GoodIn wsX6_isHere (wsV RX6 61 RX6 yX6_placeOf wsX6_placeOf) := goodIn_app (goodIn_of _ (by decide +kernel)) ggX6_isHere_X6_placeOf
theorem dX6_isHere_0 : decode cX6_isHere 0 = .ok (.aload_n 0, 1) := by decide +kernel
theorem dX6_isHere_1 : decode cX6_isHere 1 = .ok (.iload_n 1, 1) := by decide +kernel
theorem dX6_isHere_2 : decode cX6_isHere 2 = .ok (.invokevirtual 61, 3) := by decide +kernel
theorem dX6_isHere_5 : decode cX6_isHere 5 = .ok (.ifCond .ne 7, 3) := by decide +kernel
theorem dX6_isHere_8 : decode cX6_isHere 8 = .ok (.iconst 1, 1) := by decide +kernel
theorem dX6_isHere_9 : decode cX6_isHere 9 = .ok (.goto 4, 3) := by decide +kernel
theorem dX6_isHere_12 : decode cX6_isHere 12 = .ok (.iconst 0, 1) := by decide +kernel
theorem dX6_isHere_13 : decode cX6_isHere 13 = .ok (.ireturn, 1) := by decide +kernel
set_option maxRecDepth 20000 in
theorem ggX6_setLook_X7_put : GoodIn wsX6_setLook wsX7_put := goodIn_r _ [4] (by decide +kernel) (by decide +kernel)
set_option maxRecDepth 20000 in
theorem gX6_setLook_X7_put_n65 : GoodIn wsX6_setLook (wsX7_put) := ggX6_setLook_X7_put
theorem dX6_setLook_0 : decode cX6_setLook 0 = .ok (.aload_n 0, 1) := by decide +kernel
theorem dX6_setLook_1 : decode cX6_setLook 1 = .ok (.getfield 24, 3) := by decide +kernel
theorem dX6_setLook_4 : decode cX6_setLook 4 = .ok (.iload_n 1, 1) := by decide +kernel
theorem dX6_setLook_5 : decode cX6_setLook 5 = .ok (.iload_n 2, 1) := by decide +kernel
theorem dX6_setLook_6 : decode cX6_setLook 6 = .ok (.invokestatic 65, 3) := by decide +kernel
theorem dX6_setLook_9 : decode cX6_setLook 9 = .ok (.return_, 1) := by decide +kernel
set_option maxRecDepth 20000 in
theorem ggX6_setMind_X7_put : GoodIn wsX6_setMind wsX7_put := goodIn_r _ [4] (by decide +kernel) (by decide +kernel)
set_option maxRecDepth 20000 in
theorem gX6_setMind_X7_put_n65 : GoodIn wsX6_setMind (wsX7_put) := ggX6_setMind_X7_put
theorem dX6_setMind_0 : decode cX6_setMind 0 = .ok (.aload_n 0, 1) := by decide +kernel
theorem dX6_setMind_1 : decode cX6_setMind 1 = .ok (.getfield 27, 3) := by decide +kernel
theorem dX6_setMind_4 : decode cX6_setMind 4 = .ok (.iload_n 1, 1) := by decide +kernel
theorem dX6_setMind_5 : decode cX6_setMind 5 = .ok (.iload_n 2, 1) := by decide +kernel
theorem dX6_setMind_6 : decode cX6_setMind 6 = .ok (.invokestatic 65, 3) := by decide +kernel
theorem dX6_setMind_9 : decode cX6_setMind 9 = .ok (.return_, 1) := by decide +kernel
set_option maxRecDepth 20000 in
theorem ggX6_setLiquor_X7_put : GoodIn wsX6_setLiquor wsX7_put := goodIn_r _ [4] (by decide +kernel) (by decide +kernel)
set_option maxRecDepth 20000 in
theorem gX6_setLiquor_X7_put_n65 : GoodIn wsX6_setLiquor (wsX7_put) := ggX6_setLiquor_X7_put
theorem dX6_setLiquor_0 : decode cX6_setLiquor 0 = .ok (.aload_n 0, 1) := by decide +kernel
theorem dX6_setLiquor_1 : decode cX6_setLiquor 1 = .ok (.getfield 30, 3) := by decide +kernel
theorem dX6_setLiquor_4 : decode cX6_setLiquor 4 = .ok (.iload_n 1, 1) := by decide +kernel
theorem dX6_setLiquor_5 : decode cX6_setLiquor 5 = .ok (.iload_n 2, 1) := by decide +kernel
theorem dX6_setLiquor_6 : decode cX6_setLiquor 6 = .ok (.invokestatic 65, 3) := by decide +kernel
theorem dX6_setLiquor_9 : decode cX6_setLiquor 9 = .ok (.return_, 1) := by decide +kernel
set_option maxRecDepth 20000 in
theorem ggX6_setKind_X7_put : GoodIn wsX6_setKind wsX7_put := goodIn_r _ [5] (by decide +kernel) (by decide +kernel)
set_option maxRecDepth 20000 in
theorem gX6_setKind_X7_put_n65 : GoodIn wsX6_setKind (wsX7_put) := ggX6_setKind_X7_put
theorem dX6_setKind_0 : decode cX6_setKind 0 = .ok (.aload_n 0, 1) := by decide +kernel
theorem dX6_setKind_1 : decode cX6_setKind 1 = .ok (.getfield 9, 3) := by decide +kernel
theorem dX6_setKind_4 : decode cX6_setKind 4 = .ok (.iload_n 1, 1) := by decide +kernel
theorem dX6_setKind_5 : decode cX6_setKind 5 = .ok (.iload_n 2, 1) := by decide +kernel
theorem dX6_setKind_6 : decode cX6_setKind 6 = .ok (.invokestatic 65, 3) := by decide +kernel
theorem dX6_setKind_9 : decode cX6_setKind 9 = .ok (.aload_n 0, 1) := by decide +kernel
theorem dX6_setKind_10 : decode cX6_setKind 10 = .ok (.getfield 15, 3) := by decide +kernel
theorem dX6_setKind_13 : decode cX6_setKind 13 = .ok (.iload_n 1, 1) := by decide +kernel
theorem dX6_setKind_14 : decode cX6_setKind 14 = .ok (.iload_n 3, 1) := by decide +kernel
theorem dX6_setKind_15 : decode cX6_setKind 15 = .ok (.invokestatic 65, 3) := by decide +kernel
theorem dX6_setKind_18 : decode cX6_setKind 18 = .ok (.return_, 1) := by decide +kernel
set_option maxRecDepth 20000 in
theorem ggX6_changeToes_X6_footOf : GoodIn wsX6_changeToes wsX6_footOf := goodIn_r _ [6, 1, 7, 8, 9, 12, 13, 14, 15, 16, 17, 18, 19, 20, 21, 22, 23] (by decide +kernel) (by decide +kernel)
set_option maxRecDepth 20000 in
theorem gX6_changeToes_X6_footOf : GoodIn wsX6_changeToes (wsV RX6 69 RX6 yX6_footOf wsX6_footOf) := goodIn_app (goodIn_of _ (by decide +kernel)) ggX6_changeToes_X6_footOf
set_option maxRecDepth 20000 in
theorem ggX6_changeToes_X7_put : GoodIn wsX6_changeToes wsX7_put := goodIn_r _ [11] (by decide +kernel) (by decide +kernel)
set_option maxRecDepth 20000 in
theorem gX6_changeToes_X7_put_n65 : GoodIn wsX6_changeToes (wsX7_put) := ggX6_changeToes_X7_put
theorem dX6_changeToes_0 : decode cX6_changeToes 0 = .ok (.aload_n 0, 1) := by decide +kernel
theorem dX6_changeToes_1 : decode cX6_changeToes 1 = .ok (.getfield 18, 3) := by decide +kernel
theorem dX6_changeToes_4 : decode cX6_changeToes 4 = .ok (.iload_n 1, 1) := by decide +kernel
theorem dX6_changeToes_5 : decode cX6_changeToes 5 = .ok (.aload_n 0, 1) := by decide +kernel
theorem dX6_changeToes_6 : decode cX6_changeToes 6 = .ok (.iload_n 1, 1) := by decide +kernel
theorem dX6_changeToes_7 : decode cX6_changeToes 7 = .ok (.invokevirtual 69, 3) := by decide +kernel
theorem dX6_changeToes_10 : decode cX6_changeToes 10 = .ok (.iload_n 2, 1) := by decide +kernel
theorem dX6_changeToes_11 : decode cX6_changeToes 11 = .ok (.ixor, 1) := by decide +kernel
theorem dX6_changeToes_12 : decode cX6_changeToes 12 = .ok (.invokestatic 65, 3) := by decide +kernel
theorem dX6_changeToes_15 : decode cX6_changeToes 15 = .ok (.return_, 1) := by decide +kernel
set_option maxRecDepth 20000 in
theorem ggX6_sendHome_X7_put : GoodIn wsX6_sendHome wsX7_put := goodIn_r _ [4] (by decide +kernel) (by decide +kernel)
set_option maxRecDepth 20000 in
theorem gX6_sendHome_X7_put_n65 : GoodIn wsX6_sendHome (wsX7_put) := ggX6_sendHome_X7_put
theorem dX6_sendHome_0 : decode cX6_sendHome 0 = .ok (.aload_n 0, 1) := by decide +kernel
theorem dX6_sendHome_1 : decode cX6_sendHome 1 = .ok (.getfield 21, 3) := by decide +kernel
theorem dX6_sendHome_4 : decode cX6_sendHome 4 = .ok (.iload_n 1, 1) := by decide +kernel
theorem dX6_sendHome_5 : decode cX6_sendHome 5 = .ok (.iload_n 2, 1) := by decide +kernel
theorem dX6_sendHome_6 : decode cX6_sendHome 6 = .ok (.invokestatic 65, 3) := by decide +kernel
theorem dX6_sendHome_9 : decode cX6_sendHome 9 = .ok (.return_, 1) := by decide +kernel
set_option maxRecDepth 20000 in
theorem ggX6_addBride_X6_setKind : GoodIn wsX6_addBride wsX6_setKind := goodIn_r _ [7, 8, 9, 10, 11, 12, 13, 14, 15, 16, 17, 18, 19, 20, 21, 22, 23, 24] (by decide +kernel) (by decide +kernel)
set_option maxRecDepth 20000 in
theorem gX6_addBride_X6_setKind : GoodIn wsX6_addBride (wsV RX6 72 RX6 yX6_setKind wsX6_setKind) := goodIn_app (goodIn_of _ (by decide +kernel)) ggX6_addBride_X6_setKind
set_option maxRecDepth 20000 in
theorem ggX6_addBride_X7_put : GoodIn wsX6_addBride wsX7_put := goodIn_r _ [12] (by decide +kernel) (by decide +kernel)
set_option maxRecDepth 20000 in
theorem gX6_addBride_X7_put_n65 : GoodIn wsX6_addBride (wsX7_put) := ggX6_addBride_X7_put
theorem dX6_addBride_0 : decode cX6_addBride 0 = .ok (.aload_n 0, 1) := by decide +kernel
theorem dX6_addBride_1 : decode cX6_addBride 1 = .ok (.getfield 37, 3) := by decide +kernel
theorem dX6_addBride_4 : decode cX6_addBride 4 = .ok (.bipush 8, 2) := by decide +kernel
theorem dX6_addBride_6 : decode cX6_addBride 6 = .ok (.if_icmp .ge 9, 3) := by decide +kernel
theorem dX6_addBride_9 : decode cX6_addBride 9 = .ok (.iload_n 3, 1) := by decide +kernel
theorem dX6_addBride_10 : decode cX6_addBride 10 = .ok (.bipush 63, 2) := by decide +kernel
theorem dX6_addBride_12 : decode cX6_addBride 12 = .ok (.if_icmp .le 5, 3) := by decide +kernel
theorem dX6_addBride_15 : decode cX6_addBride 15 = .ok (.iconst 0, 1) := by decide +kernel
theorem dX6_addBride_16 : decode cX6_addBride 16 = .ok (.ireturn, 1) := by decide +kernel
theorem dX6_addBride_17 : decode cX6_addBride 17 = .ok (.aload_n 0, 1) := by decide +kernel
theorem dX6_addBride_18 : decode cX6_addBride 18 = .ok (.aload_n 0, 1) := by decide +kernel
theorem dX6_addBride_19 : decode cX6_addBride 19 = .ok (.getfield 37, 3) := by decide +kernel
theorem dX6_addBride_22 : decode cX6_addBride 22 = .ok (.iload_n 1, 1) := by decide +kernel
theorem dX6_addBride_23 : decode cX6_addBride 23 = .ok (.iload_n 2, 1) := by decide +kernel
theorem dX6_addBride_24 : decode cX6_addBride 24 = .ok (.invokevirtual 72, 3) := by decide +kernel
theorem dX6_addBride_27 : decode cX6_addBride 27 = .ok (.aload_n 0, 1) := by decide +kernel
theorem dX6_addBride_28 : decode cX6_addBride 28 = .ok (.getfield 18, 3) := by decide +kernel
theorem dX6_addBride_31 : decode cX6_addBride 31 = .ok (.aload_n 0, 1) := by decide +kernel
theorem dX6_addBride_32 : decode cX6_addBride 32 = .ok (.getfield 37, 3) := by decide +kernel
theorem dX6_addBride_35 : decode cX6_addBride 35 = .ok (.iload_n 3, 1) := by decide +kernel
theorem dX6_addBride_36 : decode cX6_addBride 36 = .ok (.invokestatic 65, 3) := by decide +kernel
theorem dX6_addBride_39 : decode cX6_addBride 39 = .ok (.aload_n 0, 1) := by decide +kernel
theorem dX6_addBride_40 : decode cX6_addBride 40 = .ok (.dup, 1) := by decide +kernel
theorem dX6_addBride_41 : decode cX6_addBride 41 = .ok (.getfield 37, 3) := by decide +kernel
theorem dX6_addBride_44 : decode cX6_addBride 44 = .ok (.iconst 1, 1) := by decide +kernel
theorem dX6_addBride_45 : decode cX6_addBride 45 = .ok (.iadd, 1) := by decide +kernel
theorem dX6_addBride_46 : decode cX6_addBride 46 = .ok (.putfield 37, 3) := by decide +kernel
theorem dX6_addBride_49 : decode cX6_addBride 49 = .ok (.iconst 1, 1) := by decide +kernel
theorem dX6_addBride_50 : decode cX6_addBride 50 = .ok (.ireturn, 1) := by decide +kernel
set_option maxRecDepth 20000 in
theorem ggX6_addGroom_X6_setLook : GoodIn wsX6_addGroom wsX6_setLook := goodIn_r _ [6, 7, 8, 9, 10, 16, 17, 18, 19, 20, 21, 22, 23, 24, 25, 26, 27] (by decide +kernel) (by decide +kernel)
set_option maxRecDepth 20000 in
theorem gX6_addGroom_X6_setLook : GoodIn wsX6_addGroom (wsV RX6 76 RX6 yX6_setLook wsX6_setLook) := goodIn_app (goodIn_of _ (by decide +kernel)) ggX6_addGroom_X6_setLook
set_option maxRecDepth 20000 in
theorem ggX6_addGroom_X6_setMind : GoodIn wsX6_addGroom wsX6_setMind := goodIn_r _ [14, 15, 8, 9, 10, 16, 17, 18, 19, 20, 21, 22, 23, 24, 25, 26, 27] (by decide +kernel) (by decide +kernel)
set_option maxRecDepth 20000 in
theorem gX6_addGroom_X6_setMind : GoodIn wsX6_addGroom (wsV RX6 80 RX6 yX6_setMind wsX6_setMind) := goodIn_app (goodIn_of _ (by decide +kernel)) ggX6_addGroom_X6_setMind
theorem dX6_addGroom_0 : decode cX6_addGroom 0 = .ok (.aload_n 0, 1) := by decide +kernel
theorem dX6_addGroom_1 : decode cX6_addGroom 1 = .ok (.getfield 47, 3) := by decide +kernel
theorem dX6_addGroom_4 : decode cX6_addGroom 4 = .ok (.iconst 5, 1) := by decide +kernel
theorem dX6_addGroom_5 : decode cX6_addGroom 5 = .ok (.if_icmp .ge 15, 3) := by decide +kernel
theorem dX6_addGroom_8 : decode cX6_addGroom 8 = .ok (.iload_n 1, 1) := by decide +kernel
theorem dX6_addGroom_9 : decode cX6_addGroom 9 = .ok (.bipush 63, 2) := by decide +kernel
theorem dX6_addGroom_11 : decode cX6_addGroom 11 = .ok (.if_icmp .gt 9, 3) := by decide +kernel
theorem dX6_addGroom_14 : decode cX6_addGroom 14 = .ok (.iload_n 2, 1) := by decide +kernel
theorem dX6_addGroom_15 : decode cX6_addGroom 15 = .ok (.bipush 63, 2) := by decide +kernel
theorem dX6_addGroom_17 : decode cX6_addGroom 17 = .ok (.if_icmp .le 5, 3) := by decide +kernel
theorem dX6_addGroom_20 : decode cX6_addGroom 20 = .ok (.iconst 0, 1) := by decide +kernel
theorem dX6_addGroom_21 : decode cX6_addGroom 21 = .ok (.ireturn, 1) := by decide +kernel
theorem dX6_addGroom_22 : decode cX6_addGroom 22 = .ok (.aload_n 0, 1) := by decide +kernel
theorem dX6_addGroom_23 : decode cX6_addGroom 23 = .ok (.aload_n 0, 1) := by decide +kernel
theorem dX6_addGroom_24 : decode cX6_addGroom 24 = .ok (.getfield 47, 3) := by decide +kernel
theorem dX6_addGroom_27 : decode cX6_addGroom 27 = .ok (.iload_n 1, 1) := by decide +kernel
theorem dX6_addGroom_28 : decode cX6_addGroom 28 = .ok (.invokevirtual 76, 3) := by decide +kernel
theorem dX6_addGroom_31 : decode cX6_addGroom 31 = .ok (.aload_n 0, 1) := by decide +kernel
theorem dX6_addGroom_32 : decode cX6_addGroom 32 = .ok (.aload_n 0, 1) := by decide +kernel
theorem dX6_addGroom_33 : decode cX6_addGroom 33 = .ok (.getfield 47, 3) := by decide +kernel
theorem dX6_addGroom_36 : decode cX6_addGroom 36 = .ok (.iload_n 2, 1) := by decide +kernel
theorem dX6_addGroom_37 : decode cX6_addGroom 37 = .ok (.invokevirtual 80, 3) := by decide +kernel
theorem dX6_addGroom_40 : decode cX6_addGroom 40 = .ok (.aload_n 0, 1) := by decide +kernel
theorem dX6_addGroom_41 : decode cX6_addGroom 41 = .ok (.dup, 1) := by decide +kernel
theorem dX6_addGroom_42 : decode cX6_addGroom 42 = .ok (.getfield 47, 3) := by decide +kernel
theorem dX6_addGroom_45 : decode cX6_addGroom 45 = .ok (.iconst 1, 1) := by decide +kernel
theorem dX6_addGroom_46 : decode cX6_addGroom 46 = .ok (.iadd, 1) := by decide +kernel
theorem dX6_addGroom_47 : decode cX6_addGroom 47 = .ok (.putfield 47, 3) := by decide +kernel
theorem dX6_addGroom_50 : decode cX6_addGroom 50 = .ok (.iconst 1, 1) := by decide +kernel
theorem dX6_addGroom_51 : decode cX6_addGroom 51 = .ok (.ireturn, 1) := by decide +kernel
theorem dX6_canPass_0 : decode cX6_canPass 0 = .ok (.aload_n 0, 1) := by decide +kernel
theorem dX6_canPass_1 : decode cX6_canPass 1 = .ok (.getfield 33, 3) := by decide +kernel
theorem dX6_canPass_4 : decode cX6_canPass 4 = .ok (.iload_n 1, 1) := by decide +kernel
theorem dX6_canPass_5 : decode cX6_canPass 5 = .ok (.iadd, 1) := by decide +kernel
theorem dX6_canPass_6 : decode cX6_canPass 6 = .ok (.sipush 999, 3) := by decide +kernel
theorem dX6_canPass_9 : decode cX6_canPass 9 = .ok (.if_icmp .gt 7, 3) := by decide +kernel
theorem dX6_canPass_12 : decode cX6_canPass 12 = .ok (.iconst 1, 1) := by decide +kernel
theorem dX6_canPass_13 : decode cX6_canPass 13 = .ok (.goto 4, 3) := by decide +kernel
theorem dX6_canPass_16 : decode cX6_canPass 16 = .ok (.iconst 0, 1) := by decide +kernel
theorem dX6_canPass_17 : decode cX6_canPass 17 = .ok (.ireturn, 1) := by decide +kernel
set_option maxRecDepth 20000 in
theorem ggX6_passYears_X6_sentFor : GoodIn wsX6_passYears wsX6_sentFor := goodIn_r _ [13, 3, 14, 15, 16, 28, 29, 30, 31, 32, 33, 34, 35, 36, 37, 38, 39] (by decide +kernel) (by decide +kernel)
set_option maxRecDepth 20000 in
theorem gX6_passYears_X6_sentFor : GoodIn wsX6_passYears (wsV RX6 83 RX6 yX6_sentFor wsX6_sentFor) := goodIn_app (goodIn_of _ (by decide +kernel)) ggX6_passYears_X6_sentFor
set_option maxRecDepth 20000 in
theorem ggX6_passYears_X7_put : GoodIn wsX6_passYears wsX7_put := goodIn_r _ [18] (by decide +kernel) (by decide +kernel)
set_option maxRecDepth 20000 in
theorem gX6_passYears_X7_put_n65 : GoodIn wsX6_passYears (wsX7_put) := ggX6_passYears_X7_put
set_option maxRecDepth 20000 in
theorem ggX6_passYears_X6_liquorOf : GoodIn wsX6_passYears wsX6_liquorOf := goodIn_r _ [22, 23, 14, 15, 16, 28, 29, 30, 31, 32, 33, 34, 35, 36, 37, 38, 39] (by decide +kernel) (by decide +kernel)
set_option maxRecDepth 20000 in
theorem gX6_passYears_X6_liquorOf : GoodIn wsX6_passYears (wsV RX6 92 RX6 yX6_liquorOf wsX6_liquorOf) := goodIn_app (goodIn_of _ (by decide +kernel)) ggX6_passYears_X6_liquorOf
set_option maxRecDepth 20000 in
theorem ggX6_passYears_X6_setLiquor : GoodIn wsX6_passYears wsX6_setLiquor := goodIn_r _ [27, 23, 17, 15, 18, 28, 29, 30, 31, 32, 33, 34, 35, 36, 37, 38, 39] (by decide +kernel) (by decide +kernel)
set_option maxRecDepth 20000 in
theorem gX6_passYears_X6_setLiquor : GoodIn wsX6_passYears (wsV RX6 95 RX6 yX6_setLiquor wsX6_setLiquor) := goodIn_app (goodIn_of _ (by decide +kernel)) ggX6_passYears_X6_setLiquor
theorem dX6_passYears_0 : decode cX6_passYears 0 = .ok (.aload_n 0, 1) := by decide +kernel
theorem dX6_passYears_1 : decode cX6_passYears 1 = .ok (.dup, 1) := by decide +kernel
theorem dX6_passYears_2 : decode cX6_passYears 2 = .ok (.getfield 33, 3) := by decide +kernel
theorem dX6_passYears_5 : decode cX6_passYears 5 = .ok (.iload_n 1, 1) := by decide +kernel
theorem dX6_passYears_6 : decode cX6_passYears 6 = .ok (.iadd, 1) := by decide +kernel
theorem dX6_passYears_7 : decode cX6_passYears 7 = .ok (.putfield 33, 3) := by decide +kernel
theorem dX6_passYears_10 : decode cX6_passYears 10 = .ok (.iconst 0, 1) := by decide +kernel
theorem dX6_passYears_11 : decode cX6_passYears 11 = .ok (.istore_n 2, 1) := by decide +kernel
theorem dX6_passYears_12 : decode cX6_passYears 12 = .ok (.iload_n 2, 1) := by decide +kernel
theorem dX6_passYears_13 : decode cX6_passYears 13 = .ok (.aload_n 0, 1) := by decide +kernel
theorem dX6_passYears_14 : decode cX6_passYears 14 = .ok (.getfield 37, 3) := by decide +kernel
theorem dX6_passYears_17 : decode cX6_passYears 17 = .ok (.if_icmp .ge 28, 3) := by decide +kernel
theorem dX6_passYears_20 : decode cX6_passYears 20 = .ok (.aload_n 0, 1) := by decide +kernel
theorem dX6_passYears_21 : decode cX6_passYears 21 = .ok (.getfield 21, 3) := by decide +kernel
theorem dX6_passYears_24 : decode cX6_passYears 24 = .ok (.iload_n 2, 1) := by decide +kernel
theorem dX6_passYears_25 : decode cX6_passYears 25 = .ok (.iconst 0, 1) := by decide +kernel
theorem dX6_passYears_26 : decode cX6_passYears 26 = .ok (.aload_n 0, 1) := by decide +kernel
theorem dX6_passYears_27 : decode cX6_passYears 27 = .ok (.iload_n 2, 1) := by decide +kernel
theorem dX6_passYears_28 : decode cX6_passYears 28 = .ok (.invokevirtual 83, 3) := by decide +kernel
theorem dX6_passYears_31 : decode cX6_passYears 31 = .ok (.iload_n 1, 1) := by decide +kernel
theorem dX6_passYears_32 : decode cX6_passYears 32 = .ok (.isub, 1) := by decide +kernel
theorem dX6_passYears_33 : decode cX6_passYears 33 = .ok (.invokestatic 86, 3) := by decide +kernel
theorem dX6_passYears_36 : decode cX6_passYears 36 = .ok (.invokestatic 65, 3) := by decide +kernel
theorem dX6_passYears_39 : decode cX6_passYears 39 = .ok (.iinc 2 1, 3) := by decide +kernel
theorem dX6_passYears_42 : decode cX6_passYears 42 = .ok (.goto (-30), 3) := by decide +kernel
theorem dX6_passYears_45 : decode cX6_passYears 45 = .ok (.iconst 0, 1) := by decide +kernel
theorem dX6_passYears_46 : decode cX6_passYears 46 = .ok (.istore_n 2, 1) := by decide +kernel
theorem dX6_passYears_47 : decode cX6_passYears 47 = .ok (.iload_n 2, 1) := by decide +kernel
theorem dX6_passYears_48 : decode cX6_passYears 48 = .ok (.aload_n 0, 1) := by decide +kernel
theorem dX6_passYears_49 : decode cX6_passYears 49 = .ok (.getfield 47, 3) := by decide +kernel
theorem dX6_passYears_52 : decode cX6_passYears 52 = .ok (.if_icmp .ge 25, 3) := by decide +kernel
theorem dX6_passYears_55 : decode cX6_passYears 55 = .ok (.aload_n 0, 1) := by decide +kernel
theorem dX6_passYears_56 : decode cX6_passYears 56 = .ok (.iload_n 2, 1) := by decide +kernel
theorem dX6_passYears_57 : decode cX6_passYears 57 = .ok (.iconst 0, 1) := by decide +kernel
theorem dX6_passYears_58 : decode cX6_passYears 58 = .ok (.aload_n 0, 1) := by decide +kernel
theorem dX6_passYears_59 : decode cX6_passYears 59 = .ok (.iload_n 2, 1) := by decide +kernel
theorem dX6_passYears_60 : decode cX6_passYears 60 = .ok (.invokevirtual 92, 3) := by decide +kernel
theorem dX6_passYears_63 : decode cX6_passYears 63 = .ok (.iload_n 1, 1) := by decide +kernel
theorem dX6_passYears_64 : decode cX6_passYears 64 = .ok (.isub, 1) := by decide +kernel
theorem dX6_passYears_65 : decode cX6_passYears 65 = .ok (.invokestatic 86, 3) := by decide +kernel
theorem dX6_passYears_68 : decode cX6_passYears 68 = .ok (.invokevirtual 95, 3) := by decide +kernel
theorem dX6_passYears_71 : decode cX6_passYears 71 = .ok (.iinc 2 1, 3) := by decide +kernel
theorem dX6_passYears_74 : decode cX6_passYears 74 = .ok (.goto (-27), 3) := by decide +kernel
theorem dX6_passYears_77 : decode cX6_passYears 77 = .ok (.return_, 1) := by decide +kernel
set_option maxRecDepth 20000 in
theorem ggX6_hereThen_X7_has : GoodIn wsX6_hereThen wsX7_has := goodIn_r _ [6] (by decide +kernel) (by decide +kernel)
set_option maxRecDepth 20000 in
theorem gX6_hereThen_X7_has_n57 : GoodIn wsX6_hereThen (wsX7_has) := ggX6_hereThen_X7_has
set_option maxRecDepth 20000 in
theorem ggX6_hereThen_X7_at : GoodIn wsX6_hereThen wsX7_at := goodIn_r _ [8] (by decide +kernel) (by decide +kernel)
set_option maxRecDepth 20000 in
theorem gX6_hereThen_X7_at_n53 : GoodIn wsX6_hereThen (wsX7_at) := ggX6_hereThen_X7_at
theorem dX6_hereThen_0 : decode cX6_hereThen 0 = .ok (.iconst 0, 1) := by decide +kernel
theorem dX6_hereThen_1 : decode cX6_hereThen 1 = .ok (.istore_n 2, 1) := by decide +kernel
theorem dX6_hereThen_2 : decode cX6_hereThen 2 = .ok (.iconst 0, 1) := by decide +kernel
theorem dX6_hereThen_3 : decode cX6_hereThen 3 = .ok (.istore_n 3, 1) := by decide +kernel
theorem dX6_hereThen_4 : decode cX6_hereThen 4 = .ok (.iload_n 3, 1) := by decide +kernel
theorem dX6_hereThen_5 : decode cX6_hereThen 5 = .ok (.aload_n 0, 1) := by decide +kernel
theorem dX6_hereThen_6 : decode cX6_hereThen 6 = .ok (.getfield 37, 3) := by decide +kernel
theorem dX6_hereThen_9 : decode cX6_hereThen 9 = .ok (.if_icmp .ge 38, 3) := by decide +kernel
theorem dX6_hereThen_12 : decode cX6_hereThen 12 = .ok (.aload_n 0, 1) := by decide +kernel
theorem dX6_hereThen_13 : decode cX6_hereThen 13 = .ok (.getfield 44, 3) := by decide +kernel
theorem dX6_hereThen_16 : decode cX6_hereThen 16 = .ok (.iload_n 3, 1) := by decide +kernel
theorem dX6_hereThen_17 : decode cX6_hereThen 17 = .ok (.invokestatic 57, 3) := by decide +kernel
theorem dX6_hereThen_20 : decode cX6_hereThen 20 = .ok (.ifCond .ne 21, 3) := by decide +kernel
theorem dX6_hereThen_23 : decode cX6_hereThen 23 = .ok (.aload_n 0, 1) := by decide +kernel
theorem dX6_hereThen_24 : decode cX6_hereThen 24 = .ok (.getfield 21, 3) := by decide +kernel
theorem dX6_hereThen_27 : decode cX6_hereThen 27 = .ok (.iload_n 3, 1) := by decide +kernel
theorem dX6_hereThen_28 : decode cX6_hereThen 28 = .ok (.invokestatic 53, 3) := by decide +kernel
theorem dX6_hereThen_31 : decode cX6_hereThen 31 = .ok (.iload_n 1, 1) := by decide +kernel
theorem dX6_hereThen_32 : decode cX6_hereThen 32 = .ok (.if_icmp .gt 9, 3) := by decide +kernel
theorem dX6_hereThen_35 : decode cX6_hereThen 35 = .ok (.iload_n 2, 1) := by decide +kernel
theorem dX6_hereThen_36 : decode cX6_hereThen 36 = .ok (.iconst 1, 1) := by decide +kernel
theorem dX6_hereThen_37 : decode cX6_hereThen 37 = .ok (.iload_n 3, 1) := by decide +kernel
theorem dX6_hereThen_38 : decode cX6_hereThen 38 = .ok (.ishl, 1) := by decide +kernel
theorem dX6_hereThen_39 : decode cX6_hereThen 39 = .ok (.ior, 1) := by decide +kernel
theorem dX6_hereThen_40 : decode cX6_hereThen 40 = .ok (.istore_n 2, 1) := by decide +kernel
theorem dX6_hereThen_41 : decode cX6_hereThen 41 = .ok (.iinc 3 1, 3) := by decide +kernel
theorem dX6_hereThen_44 : decode cX6_hereThen 44 = .ok (.goto (-40), 3) := by decide +kernel
theorem dX6_hereThen_47 : decode cX6_hereThen 47 = .ok (.iload_n 2, 1) := by decide +kernel
theorem dX6_hereThen_48 : decode cX6_hereThen 48 = .ok (.ireturn, 1) := by decide +kernel
set_option maxRecDepth 20000 in
theorem ggX6_shows_X7_at : GoodIn wsX6_shows wsX7_at := goodIn_r _ [5] (by decide +kernel) (by decide +kernel)
set_option maxRecDepth 20000 in
theorem gX6_shows_X7_at_n53 : GoodIn wsX6_shows (wsX7_at) := ggX6_shows_X7_at
set_option maxRecDepth 20000 in
theorem ggX6_shows_X6_showsAs : GoodIn wsX6_shows wsX6_showsAs := goodIn_r _ [10, 11, 12, 3, 4, 5, 13, 14, 15, 16, 17, 18, 19, 20, 21, 22, 23, 24] (by decide +kernel) (by decide +kernel)
set_option maxRecDepth 20000 in
theorem gX6_shows_X6_showsAs : GoodIn wsX6_shows (wsV RX6 98 RX6 yX6_showsAs wsX6_showsAs) := goodIn_app (goodIn_of _ (by decide +kernel)) ggX6_shows_X6_showsAs
theorem dX6_shows_0 : decode cX6_shows 0 = .ok (.aload_n 0, 1) := by decide +kernel
theorem dX6_shows_1 : decode cX6_shows 1 = .ok (.iload_n 1, 1) := by decide +kernel
theorem dX6_shows_2 : decode cX6_shows 2 = .ok (.aload_n 0, 1) := by decide +kernel
theorem dX6_shows_3 : decode cX6_shows 3 = .ok (.getfield 9, 3) := by decide +kernel
theorem dX6_shows_6 : decode cX6_shows 6 = .ok (.iload_n 1, 1) := by decide +kernel
theorem dX6_shows_7 : decode cX6_shows 7 = .ok (.invokestatic 53, 3) := by decide +kernel
theorem dX6_shows_10 : decode cX6_shows 10 = .ok (.aload_n 0, 1) := by decide +kernel
theorem dX6_shows_11 : decode cX6_shows 11 = .ok (.getfield 15, 3) := by decide +kernel
theorem dX6_shows_14 : decode cX6_shows 14 = .ok (.iload_n 1, 1) := by decide +kernel
theorem dX6_shows_15 : decode cX6_shows 15 = .ok (.invokestatic 53, 3) := by decide +kernel
theorem dX6_shows_18 : decode cX6_shows 18 = .ok (.iload_n 2, 1) := by decide +kernel
theorem dX6_shows_19 : decode cX6_shows 19 = .ok (.invokevirtual 98, 3) := by decide +kernel
theorem dX6_shows_22 : decode cX6_shows 22 = .ok (.ireturn, 1) := by decide +kernel
set_option maxRecDepth 20000 in
theorem ggX6_showsAs_X7_at : GoodIn wsX6_showsAs wsX7_at := goodIn_r _ [5] (by decide +kernel) (by decide +kernel)
set_option maxRecDepth 20000 in
theorem gX6_showsAs_X7_at_n53 : GoodIn wsX6_showsAs (wsX7_at) := ggX6_showsAs_X7_at
theorem dX6_showsAs_0 : decode cX6_showsAs 0 = .ok (.aload_n 0, 1) := by decide +kernel
theorem dX6_showsAs_1 : decode cX6_showsAs 1 = .ok (.getfield 18, 3) := by decide +kernel
theorem dX6_showsAs_4 : decode cX6_showsAs 4 = .ok (.iload_n 1, 1) := by decide +kernel
theorem dX6_showsAs_5 : decode cX6_showsAs 5 = .ok (.invokestatic 53, 3) := by decide +kernel
theorem dX6_showsAs_8 : decode cX6_showsAs 8 = .ok (.istore 5, 2) := by decide +kernel
theorem dX6_showsAs_10 : decode cX6_showsAs 10 = .ok (.iload_n 1, 1) := by decide +kernel
theorem dX6_showsAs_11 : decode cX6_showsAs 11 = .ok (.ifCond .le 16, 3) := by decide +kernel
theorem dX6_showsAs_14 : decode cX6_showsAs 14 = .ok (.aload_n 0, 1) := by decide +kernel
theorem dX6_showsAs_15 : decode cX6_showsAs 15 = .ok (.getfield 18, 3) := by decide +kernel
theorem dX6_showsAs_18 : decode cX6_showsAs 18 = .ok (.iload_n 1, 1) := by decide +kernel
theorem dX6_showsAs_19 : decode cX6_showsAs 19 = .ok (.iconst 1, 1) := by decide +kernel
theorem dX6_showsAs_20 : decode cX6_showsAs 20 = .ok (.isub, 1) := by decide +kernel
theorem dX6_showsAs_21 : decode cX6_showsAs 21 = .ok (.invokestatic 53, 3) := by decide +kernel
theorem dX6_showsAs_24 : decode cX6_showsAs 24 = .ok (.goto 5, 3) := by decide +kernel
theorem dX6_showsAs_27 : decode cX6_showsAs 27 = .ok (.iload 5, 2) := by decide +kernel
theorem dX6_showsAs_29 : decode cX6_showsAs 29 = .ok (.istore 6, 2) := by decide +kernel
theorem dX6_showsAs_31 : decode cX6_showsAs 31 = .ok (.iload 5, 2) := by decide +kernel
theorem dX6_showsAs_33 : decode cX6_showsAs 33 = .ok (.iconst 1, 1) := by decide +kernel
theorem dX6_showsAs_34 : decode cX6_showsAs 34 = .ok (.iload_n 3, 1) := by decide +kernel
theorem dX6_showsAs_35 : decode cX6_showsAs 35 = .ok (.bipush 6, 2) := by decide +kernel
theorem dX6_showsAs_37 : decode cX6_showsAs 37 = .ok (.irem, 1) := by decide +kernel
theorem dX6_showsAs_38 : decode cX6_showsAs 38 = .ok (.ishl, 1) := by decide +kernel
theorem dX6_showsAs_39 : decode cX6_showsAs 39 = .ok (.ixor, 1) := by decide +kernel
theorem dX6_showsAs_40 : decode cX6_showsAs 40 = .ok (.istore 7, 2) := by decide +kernel
theorem dX6_showsAs_42 : decode cX6_showsAs 42 = .ok (.aload_n 0, 1) := by decide +kernel
theorem dX6_showsAs_43 : decode cX6_showsAs 43 = .ok (.getfield 33, 3) := by decide +kernel
theorem dX6_showsAs_46 : decode cX6_showsAs 46 = .ok (.iload 4, 2) := by decide +kernel
theorem dX6_showsAs_48 : decode cX6_showsAs 48 = .ok (.iadd, 1) := by decide +kernel
theorem dX6_showsAs_49 : decode cX6_showsAs 49 = .ok (.iconst 2, 1) := by decide +kernel
theorem dX6_showsAs_50 : decode cX6_showsAs 50 = .ok (.irem, 1) := by decide +kernel
theorem dX6_showsAs_51 : decode cX6_showsAs 51 = .ok (.iconst 1, 1) := by decide +kernel
theorem dX6_showsAs_52 : decode cX6_showsAs 52 = .ok (.if_icmp .ne 8, 3) := by decide +kernel
theorem dX6_showsAs_55 : decode cX6_showsAs 55 = .ok (.iload 7, 2) := by decide +kernel
theorem dX6_showsAs_57 : decode cX6_showsAs 57 = .ok (.goto 5, 3) := by decide +kernel
theorem dX6_showsAs_60 : decode cX6_showsAs 60 = .ok (.iload 5, 2) := by decide +kernel
theorem dX6_showsAs_62 : decode cX6_showsAs 62 = .ok (.istore 8, 2) := by decide +kernel
theorem dX6_showsAs_64 : decode cX6_showsAs 64 = .ok (.iload_n 2, 1) := by decide +kernel
theorem dX6_showsAs_65 : decode cX6_showsAs 65 = .ok (.tableswitch 56 1 5 #[35, 38, 41, 44, 50], 35) := by decide +kernel
theorem dX6_showsAs_100 : decode cX6_showsAs 100 = .ok (.iload 6, 2) := by decide +kernel
theorem dX6_showsAs_102 : decode cX6_showsAs 102 = .ok (.ireturn, 1) := by decide +kernel
theorem dX6_showsAs_103 : decode cX6_showsAs 103 = .ok (.iload 7, 2) := by decide +kernel
theorem dX6_showsAs_105 : decode cX6_showsAs 105 = .ok (.ireturn, 1) := by decide +kernel
theorem dX6_showsAs_106 : decode cX6_showsAs 106 = .ok (.iload 8, 2) := by decide +kernel
theorem dX6_showsAs_108 : decode cX6_showsAs 108 = .ok (.ireturn, 1) := by decide +kernel
theorem dX6_showsAs_109 : decode cX6_showsAs 109 = .ok (.iload 6, 2) := by decide +kernel
theorem dX6_showsAs_111 : decode cX6_showsAs 111 = .ok (.iload 5, 2) := by decide +kernel
theorem dX6_showsAs_113 : decode cX6_showsAs 113 = .ok (.ixor, 1) := by decide +kernel
theorem dX6_showsAs_114 : decode cX6_showsAs 114 = .ok (.ireturn, 1) := by decide +kernel
theorem dX6_showsAs_115 : decode cX6_showsAs 115 = .ok (.iload 8, 2) := by decide +kernel
theorem dX6_showsAs_117 : decode cX6_showsAs 117 = .ok (.bipush (-34), 2) := by decide +kernel
theorem dX6_showsAs_119 : decode cX6_showsAs 119 = .ok (.iand, 1) := by decide +kernel
theorem dX6_showsAs_120 : decode cX6_showsAs 120 = .ok (.ireturn, 1) := by decide +kernel
theorem dX6_showsAs_121 : decode cX6_showsAs 121 = .ok (.iload 5, 2) := by decide +kernel
theorem dX6_showsAs_123 : decode cX6_showsAs 123 = .ok (.ireturn, 1) := by decide +kernel
set_option maxRecDepth 20000 in
theorem ggX6_guesses_X7_at : GoodIn wsX6_guesses wsX7_at := goodIn_r _ [4] (by decide +kernel) (by decide +kernel)
set_option maxRecDepth 20000 in
theorem gX6_guesses_X7_at_n53 : GoodIn wsX6_guesses (wsX7_at) := ggX6_guesses_X7_at
set_option maxRecDepth 20000 in
theorem ggX6_guesses_X6_guessesBy : GoodIn wsX6_guesses wsX6_guessesBy := goodIn_r _ [9, 10, 11, 12, 13, 2, 3, 4, 14, 15, 16, 8, 17, 18, 19, 20, 21, 22, 23, 24, 25, 26, 27, 28, 29, 30, 31, 32, 33, 34, 35, 36, 37, 38, 39] (by decide +kernel) (by decide +kernel)
set_option maxRecDepth 20000 in
theorem gX6_guesses_X6_guessesBy : GoodIn wsX6_guesses (wsV RX6 102 RX6 yX6_guessesBy wsX6_guessesBy) := goodIn_app (goodIn_of _ (by decide +kernel)) ggX6_guesses_X6_guessesBy
theorem dX6_guesses_0 : decode cX6_guesses 0 = .ok (.aload_n 0, 1) := by decide +kernel
theorem dX6_guesses_1 : decode cX6_guesses 1 = .ok (.iload_n 1, 1) := by decide +kernel
theorem dX6_guesses_2 : decode cX6_guesses 2 = .ok (.aload_n 0, 1) := by decide +kernel
theorem dX6_guesses_3 : decode cX6_guesses 3 = .ok (.getfield 24, 3) := by decide +kernel
theorem dX6_guesses_6 : decode cX6_guesses 6 = .ok (.iload_n 1, 1) := by decide +kernel
theorem dX6_guesses_7 : decode cX6_guesses 7 = .ok (.invokestatic 53, 3) := by decide +kernel
theorem dX6_guesses_10 : decode cX6_guesses 10 = .ok (.iload_n 2, 1) := by decide +kernel
theorem dX6_guesses_11 : decode cX6_guesses 11 = .ok (.invokevirtual 102, 3) := by decide +kernel
theorem dX6_guesses_14 : decode cX6_guesses 14 = .ok (.ireturn, 1) := by decide +kernel
set_option maxRecDepth 20000 in
theorem ggX6_guessesBy_X7_at : GoodIn wsX6_guessesBy wsX7_at := goodIn_r _ [7] (by decide +kernel) (by decide +kernel)
set_option maxRecDepth 20000 in
theorem gX6_guessesBy_X7_at_n53 : GoodIn wsX6_guessesBy (wsX7_at) := ggX6_guessesBy_X7_at
set_option maxRecDepth 20000 in
theorem ggX6_guessesBy_X6_hereThen : GoodIn wsX6_guessesBy wsX6_hereThen := goodIn_r _ [12, 2, 13, 14, 15, 6, 16, 5, 7, 23, 24, 25, 26, 27, 28, 29, 30, 31, 32, 33, 34] (by decide +kernel) (by decide +kernel)
set_option maxRecDepth 20000 in
theorem gX6_guessesBy_X6_hereThen : GoodIn wsX6_guessesBy (wsV RX6 106 RX6 yX6_hereThen wsX6_hereThen) := goodIn_app (goodIn_of _ (by decide +kernel)) ggX6_guessesBy_X6_hereThen
set_option maxRecDepth 20000 in
theorem ggX6_guessesBy_X6_showsAs : GoodIn wsX6_guessesBy wsX6_showsAs := goodIn_r _ [20, 21, 22, 5, 6, 7, 23, 24, 25, 26, 27, 28, 29, 30, 31, 32, 33, 34] (by decide +kernel) (by decide +kernel)
set_option maxRecDepth 20000 in
theorem gX6_guessesBy_X6_showsAs : GoodIn wsX6_guessesBy (wsV RX6 98 RX6 yX6_showsAs wsX6_showsAs) := goodIn_app (goodIn_of _ (by decide +kernel)) ggX6_guessesBy_X6_showsAs
set_option maxRecDepth 20000 in
theorem ggX6_guessesBy_X7_has : GoodIn wsX6_guessesBy wsX7_has := goodIn_r _ [16] (by decide +kernel) (by decide +kernel)
set_option maxRecDepth 20000 in
theorem gX6_guessesBy_X7_has_n57 : GoodIn wsX6_guessesBy (wsX7_has) := ggX6_guessesBy_X7_has
theorem dX6_guessesBy_0 : decode cX6_guessesBy 0 = .ok (.aload_n 0, 1) := by decide +kernel
theorem dX6_guessesBy_1 : decode cX6_guessesBy 1 = .ok (.getfield 27, 3) := by decide +kernel
theorem dX6_guessesBy_4 : decode cX6_guessesBy 4 = .ok (.iload_n 1, 1) := by decide +kernel
theorem dX6_guessesBy_5 : decode cX6_guessesBy 5 = .ok (.invokestatic 53, 3) := by decide +kernel
theorem dX6_guessesBy_8 : decode cX6_guessesBy 8 = .ok (.iload_n 2, 1) := by decide +kernel
theorem dX6_guessesBy_9 : decode cX6_guessesBy 9 = .ok (.iand, 1) := by decide +kernel
theorem dX6_guessesBy_10 : decode cX6_guessesBy 10 = .ok (.istore 4, 2) := by decide +kernel
theorem dX6_guessesBy_12 : decode cX6_guessesBy 12 = .ok (.aload_n 0, 1) := by decide +kernel
theorem dX6_guessesBy_13 : decode cX6_guessesBy 13 = .ok (.iload_n 3, 1) := by decide +kernel
theorem dX6_guessesBy_14 : decode cX6_guessesBy 14 = .ok (.invokevirtual 106, 3) := by decide +kernel
theorem dX6_guessesBy_17 : decode cX6_guessesBy 17 = .ok (.istore 5, 2) := by decide +kernel
theorem dX6_guessesBy_19 : decode cX6_guessesBy 19 = .ok (.iconst 0, 1) := by decide +kernel
theorem dX6_guessesBy_20 : decode cX6_guessesBy 20 = .ok (.istore 6, 2) := by decide +kernel
theorem dX6_guessesBy_22 : decode cX6_guessesBy 22 = .ok (.iconst 0, 1) := by decide +kernel
theorem dX6_guessesBy_23 : decode cX6_guessesBy 23 = .ok (.istore 7, 2) := by decide +kernel
theorem dX6_guessesBy_25 : decode cX6_guessesBy 25 = .ok (.iload 7, 2) := by decide +kernel
theorem dX6_guessesBy_27 : decode cX6_guessesBy 27 = .ok (.aload_n 0, 1) := by decide +kernel
theorem dX6_guessesBy_28 : decode cX6_guessesBy 28 = .ok (.getfield 37, 3) := by decide +kernel
theorem dX6_guessesBy_31 : decode cX6_guessesBy 31 = .ok (.if_icmp .ge 64, 3) := by decide +kernel
theorem dX6_guessesBy_34 : decode cX6_guessesBy 34 = .ok (.aload_n 0, 1) := by decide +kernel
theorem dX6_guessesBy_35 : decode cX6_guessesBy 35 = .ok (.iload 7, 2) := by decide +kernel
theorem dX6_guessesBy_37 : decode cX6_guessesBy 37 = .ok (.aload_n 0, 1) := by decide +kernel
theorem dX6_guessesBy_38 : decode cX6_guessesBy 38 = .ok (.getfield 9, 3) := by decide +kernel
theorem dX6_guessesBy_41 : decode cX6_guessesBy 41 = .ok (.iload 7, 2) := by decide +kernel
theorem dX6_guessesBy_43 : decode cX6_guessesBy 43 = .ok (.invokestatic 53, 3) := by decide +kernel
theorem dX6_guessesBy_46 : decode cX6_guessesBy 46 = .ok (.aload_n 0, 1) := by decide +kernel
theorem dX6_guessesBy_47 : decode cX6_guessesBy 47 = .ok (.getfield 15, 3) := by decide +kernel
theorem dX6_guessesBy_50 : decode cX6_guessesBy 50 = .ok (.iload 7, 2) := by decide +kernel
theorem dX6_guessesBy_52 : decode cX6_guessesBy 52 = .ok (.invokestatic 53, 3) := by decide +kernel
theorem dX6_guessesBy_55 : decode cX6_guessesBy 55 = .ok (.iload_n 3, 1) := by decide +kernel
theorem dX6_guessesBy_56 : decode cX6_guessesBy 56 = .ok (.invokevirtual 98, 3) := by decide +kernel
theorem dX6_guessesBy_59 : decode cX6_guessesBy 59 = .ok (.istore 8, 2) := by decide +kernel
theorem dX6_guessesBy_61 : decode cX6_guessesBy 61 = .ok (.iload 5, 2) := by decide +kernel
theorem dX6_guessesBy_63 : decode cX6_guessesBy 63 = .ok (.iload 7, 2) := by decide +kernel
theorem dX6_guessesBy_65 : decode cX6_guessesBy 65 = .ok (.invokestatic 57, 3) := by decide +kernel
theorem dX6_guessesBy_68 : decode cX6_guessesBy 68 = .ok (.ifCond .eq 21, 3) := by decide +kernel
theorem dX6_guessesBy_71 : decode cX6_guessesBy 71 = .ok (.iload 8, 2) := by decide +kernel
theorem dX6_guessesBy_73 : decode cX6_guessesBy 73 = .ok (.iload_n 2, 1) := by decide +kernel
theorem dX6_guessesBy_74 : decode cX6_guessesBy 74 = .ok (.iand, 1) := by decide +kernel
theorem dX6_guessesBy_75 : decode cX6_guessesBy 75 = .ok (.iload 4, 2) := by decide +kernel
theorem dX6_guessesBy_77 : decode cX6_guessesBy 77 = .ok (.if_icmp .ne 12, 3) := by decide +kernel
theorem dX6_guessesBy_80 : decode cX6_guessesBy 80 = .ok (.iload 6, 2) := by decide +kernel
theorem dX6_guessesBy_82 : decode cX6_guessesBy 82 = .ok (.iconst 1, 1) := by decide +kernel
theorem dX6_guessesBy_83 : decode cX6_guessesBy 83 = .ok (.iload 7, 2) := by decide +kernel
theorem dX6_guessesBy_85 : decode cX6_guessesBy 85 = .ok (.ishl, 1) := by decide +kernel
theorem dX6_guessesBy_86 : decode cX6_guessesBy 86 = .ok (.ior, 1) := by decide +kernel
theorem dX6_guessesBy_87 : decode cX6_guessesBy 87 = .ok (.istore 6, 2) := by decide +kernel
theorem dX6_guessesBy_89 : decode cX6_guessesBy 89 = .ok (.iinc 7 1, 3) := by decide +kernel
theorem dX6_guessesBy_92 : decode cX6_guessesBy 92 = .ok (.goto (-67), 3) := by decide +kernel
theorem dX6_guessesBy_95 : decode cX6_guessesBy 95 = .ok (.iload 6, 2) := by decide +kernel
theorem dX6_guessesBy_97 : decode cX6_guessesBy 97 = .ok (.ireturn, 1) := by decide +kernel
set_option maxRecDepth 20000 in
theorem ggX6_knows_X7_at : GoodIn wsX6_knows wsX7_at := goodIn_r _ [4] (by decide +kernel) (by decide +kernel)
set_option maxRecDepth 20000 in
theorem gX6_knows_X7_at_n53 : GoodIn wsX6_knows (wsX7_at) := ggX6_knows_X7_at
set_option maxRecDepth 20000 in
theorem ggX6_knows_X6_guessesBy : GoodIn wsX6_knows wsX6_guessesBy := goodIn_r _ [9, 10, 11, 12, 13, 2, 3, 4, 14, 15, 16, 8, 17, 18, 19, 20, 21, 22, 23, 24, 25, 26, 27, 41, 42, 43, 44, 45, 46, 47, 48, 49, 50, 51, 52] (by decide +kernel) (by decide +kernel)
set_option maxRecDepth 20000 in
theorem gX6_knows_X6_guessesBy : GoodIn wsX6_knows (wsV RX6 102 RX6 yX6_guessesBy wsX6_guessesBy) := goodIn_app (goodIn_of _ (by decide +kernel)) ggX6_knows_X6_guessesBy
set_option maxRecDepth 20000 in
theorem ggX6_knows_X7_onlyOne : GoodIn wsX6_knows wsX7_onlyOne := goodIn_r _ [29, 30, 31, 32, 33, 34, 35, 36, 37, 38, 3, 39, 40, 20, 21] (by decide +kernel) (by decide +kernel)
set_option maxRecDepth 20000 in
theorem gX6_knows_X7_onlyOne_n109 : GoodIn wsX6_knows (wsX7_onlyOne) := ggX6_knows_X7_onlyOne
theorem dX6_knows_0 : decode cX6_knows 0 = .ok (.aload_n 0, 1) := by decide +kernel
theorem dX6_knows_1 : decode cX6_knows 1 = .ok (.iload_n 1, 1) := by decide +kernel
theorem dX6_knows_2 : decode cX6_knows 2 = .ok (.aload_n 0, 1) := by decide +kernel
theorem dX6_knows_3 : decode cX6_knows 3 = .ok (.getfield 24, 3) := by decide +kernel
theorem dX6_knows_6 : decode cX6_knows 6 = .ok (.iload_n 1, 1) := by decide +kernel
theorem dX6_knows_7 : decode cX6_knows 7 = .ok (.invokestatic 53, 3) := by decide +kernel
theorem dX6_knows_10 : decode cX6_knows 10 = .ok (.iload_n 2, 1) := by decide +kernel
theorem dX6_knows_11 : decode cX6_knows 11 = .ok (.invokevirtual 102, 3) := by decide +kernel
theorem dX6_knows_14 : decode cX6_knows 14 = .ok (.invokestatic 109, 3) := by decide +kernel
theorem dX6_knows_17 : decode cX6_knows 17 = .ok (.ireturn, 1) := by decide +kernel
set_option maxRecDepth 20000 in
theorem ggX6_knownBits_X6_isUnmarried : GoodIn wsX6_knownBits wsX6_isUnmarried := goodIn_r _ [6, 7, 8, 9, 10, 51, 52, 53, 54, 55, 56, 57, 58, 59, 60, 61, 62] (by decide +kernel) (by decide +kernel)
set_option maxRecDepth 20000 in
theorem gX6_knownBits_X6_isUnmarried : GoodIn wsX6_knownBits (wsV RX6 112 RX6 yX6_isUnmarried wsX6_isUnmarried) := goodIn_app (goodIn_of _ (by decide +kernel)) ggX6_knownBits_X6_isUnmarried
set_option maxRecDepth 20000 in
theorem ggX6_knownBits_X6_knows : GoodIn wsX6_knownBits wsX6_knows := goodIn_r _ [14, 15, 16, 9, 17, 18, 19, 20, 5, 21, 22, 23, 24, 25, 26, 27, 28, 29, 30, 31, 8, 10, 32, 33, 34, 35, 36, 37, 38, 39, 40, 41, 42, 43, 44, 45, 46, 47, 48, 49, 50, 51, 52, 53, 54, 55, 56, 57, 58, 59, 60, 61, 62] (by decide +kernel) (by decide +kernel)
set_option maxRecDepth 20000 in
theorem gX6_knownBits_X6_knows : GoodIn wsX6_knownBits (wsV RX6 116 RX6 yX6_knows wsX6_knows) := goodIn_app (goodIn_of _ (by decide +kernel)) ggX6_knownBits_X6_knows
theorem dX6_knownBits_0 : decode cX6_knownBits 0 = .ok (.iconst 0, 1) := by decide +kernel
theorem dX6_knownBits_1 : decode cX6_knownBits 1 = .ok (.istore_n 1, 1) := by decide +kernel
theorem dX6_knownBits_2 : decode cX6_knownBits 2 = .ok (.iconst 0, 1) := by decide +kernel
theorem dX6_knownBits_3 : decode cX6_knownBits 3 = .ok (.istore_n 2, 1) := by decide +kernel
theorem dX6_knownBits_4 : decode cX6_knownBits 4 = .ok (.iload_n 2, 1) := by decide +kernel
theorem dX6_knownBits_5 : decode cX6_knownBits 5 = .ok (.aload_n 0, 1) := by decide +kernel
theorem dX6_knownBits_6 : decode cX6_knownBits 6 = .ok (.getfield 47, 3) := by decide +kernel
theorem dX6_knownBits_9 : decode cX6_knownBits 9 = .ok (.if_icmp .ge 41, 3) := by decide +kernel
theorem dX6_knownBits_12 : decode cX6_knownBits 12 = .ok (.aload_n 0, 1) := by decide +kernel
theorem dX6_knownBits_13 : decode cX6_knownBits 13 = .ok (.iload_n 2, 1) := by decide +kernel
theorem dX6_knownBits_14 : decode cX6_knownBits 14 = .ok (.invokevirtual 112, 3) := by decide +kernel
theorem dX6_knownBits_17 : decode cX6_knownBits 17 = .ok (.ifCond .eq 12, 3) := by decide +kernel
theorem dX6_knownBits_20 : decode cX6_knownBits 20 = .ok (.aload_n 0, 1) := by decide +kernel
theorem dX6_knownBits_21 : decode cX6_knownBits 21 = .ok (.iload_n 2, 1) := by decide +kernel
theorem dX6_knownBits_22 : decode cX6_knownBits 22 = .ok (.iconst 0, 1) := by decide +kernel
theorem dX6_knownBits_23 : decode cX6_knownBits 23 = .ok (.invokevirtual 116, 3) := by decide +kernel
theorem dX6_knownBits_26 : decode cX6_knownBits 26 = .ok (.goto 5, 3) := by decide +kernel
theorem dX6_knownBits_29 : decode cX6_knownBits 29 = .ok (.bipush (-9), 2) := by decide +kernel
theorem dX6_knownBits_31 : decode cX6_knownBits 31 = .ok (.istore_n 3, 1) := by decide +kernel
theorem dX6_knownBits_32 : decode cX6_knownBits 32 = .ok (.iload_n 3, 1) := by decide +kernel
theorem dX6_knownBits_33 : decode cX6_knownBits 33 = .ok (.bipush (-9), 2) := by decide +kernel
theorem dX6_knownBits_35 : decode cX6_knownBits 35 = .ok (.if_icmp .eq 9, 3) := by decide +kernel
theorem dX6_knownBits_38 : decode cX6_knownBits 38 = .ok (.iload_n 1, 1) := by decide +kernel
theorem dX6_knownBits_39 : decode cX6_knownBits 39 = .ok (.iconst 1, 1) := by decide +kernel
theorem dX6_knownBits_40 : decode cX6_knownBits 40 = .ok (.iload_n 3, 1) := by decide +kernel
theorem dX6_knownBits_41 : decode cX6_knownBits 41 = .ok (.ishl, 1) := by decide +kernel
theorem dX6_knownBits_42 : decode cX6_knownBits 42 = .ok (.ior, 1) := by decide +kernel
theorem dX6_knownBits_43 : decode cX6_knownBits 43 = .ok (.istore_n 1, 1) := by decide +kernel
theorem dX6_knownBits_44 : decode cX6_knownBits 44 = .ok (.iinc 2 1, 3) := by decide +kernel
theorem dX6_knownBits_47 : decode cX6_knownBits 47 = .ok (.goto (-43), 3) := by decide +kernel
theorem dX6_knownBits_50 : decode cX6_knownBits 50 = .ok (.iload_n 1, 1) := by decide +kernel
theorem dX6_knownBits_51 : decode cX6_knownBits 51 = .ok (.ireturn, 1) := by decide +kernel
set_option maxRecDepth 20000 in
theorem ggX6_canWed_X6_hasGroom : GoodIn wsX6_canWed wsX6_hasGroom := goodIn_r _ [5, 6, 24, 25, 26, 27, 28, 29, 30, 31, 32, 33, 34, 35] (by decide +kernel) (by decide +kernel)
set_option maxRecDepth 20000 in
theorem gX6_canWed_X6_hasGroom : GoodIn wsX6_canWed (wsV RX6 119 RX6 yX6_hasGroom wsX6_hasGroom) := goodIn_app (goodIn_of _ (by decide +kernel)) ggX6_canWed_X6_hasGroom
set_option maxRecDepth 20000 in
theorem ggX6_canWed_X6_isUnmarried : GoodIn wsX6_canWed wsX6_isUnmarried := goodIn_r _ [10, 11, 12, 13, 14, 24, 25, 26, 27, 28, 29, 30, 31, 32, 33, 34, 35] (by decide +kernel) (by decide +kernel)
set_option maxRecDepth 20000 in
theorem gX6_canWed_X6_isUnmarried : GoodIn wsX6_canWed (wsV RX6 112 RX6 yX6_isUnmarried wsX6_isUnmarried) := goodIn_app (goodIn_of _ (by decide +kernel)) ggX6_canWed_X6_isUnmarried
set_option maxRecDepth 20000 in
theorem ggX6_canWed_X6_hereThen : GoodIn wsX6_canWed wsX6_hereThen := goodIn_r _ [18, 19, 20, 21, 12, 13, 14, 22, 23, 24, 25, 26, 27, 28, 29, 30, 31, 32, 33, 34, 35] (by decide +kernel) (by decide +kernel)
set_option maxRecDepth 20000 in
theorem gX6_canWed_X6_hereThen : GoodIn wsX6_canWed (wsV RX6 106 RX6 yX6_hereThen wsX6_hereThen) := goodIn_app (goodIn_of _ (by decide +kernel)) ggX6_canWed_X6_hereThen
theorem dX6_canWed_0 : decode cX6_canWed 0 = .ok (.aload_n 0, 1) := by decide +kernel
theorem dX6_canWed_1 : decode cX6_canWed 1 = .ok (.iload_n 1, 1) := by decide +kernel
theorem dX6_canWed_2 : decode cX6_canWed 2 = .ok (.invokevirtual 119, 3) := by decide +kernel
theorem dX6_canWed_5 : decode cX6_canWed 5 = .ok (.ifCond .eq 23, 3) := by decide +kernel
theorem dX6_canWed_8 : decode cX6_canWed 8 = .ok (.aload_n 0, 1) := by decide +kernel
theorem dX6_canWed_9 : decode cX6_canWed 9 = .ok (.iload_n 1, 1) := by decide +kernel
theorem dX6_canWed_10 : decode cX6_canWed 10 = .ok (.invokevirtual 112, 3) := by decide +kernel
theorem dX6_canWed_13 : decode cX6_canWed 13 = .ok (.ifCond .eq 15, 3) := by decide +kernel
theorem dX6_canWed_16 : decode cX6_canWed 16 = .ok (.aload_n 0, 1) := by decide +kernel
theorem dX6_canWed_17 : decode cX6_canWed 17 = .ok (.iconst 0, 1) := by decide +kernel
theorem dX6_canWed_18 : decode cX6_canWed 18 = .ok (.invokevirtual 106, 3) := by decide +kernel
theorem dX6_canWed_21 : decode cX6_canWed 21 = .ok (.ifCond .eq 7, 3) := by decide +kernel
theorem dX6_canWed_24 : decode cX6_canWed 24 = .ok (.iconst 1, 1) := by decide +kernel
theorem dX6_canWed_25 : decode cX6_canWed 25 = .ok (.goto 4, 3) := by decide +kernel
theorem dX6_canWed_28 : decode cX6_canWed 28 = .ok (.iconst 0, 1) := by decide +kernel
theorem dX6_canWed_29 : decode cX6_canWed 29 = .ok (.ireturn, 1) := by decide +kernel
set_option maxRecDepth 20000 in
theorem ggX6_choiceOf_X6_guesses : GoodIn wsX6_choiceOf wsX6_guesses := goodIn_r _ [5, 6, 7, 8, 9, 10, 11, 12, 4, 13, 14, 15, 16, 17, 18, 19, 20, 21, 22, 23, 24, 25, 26, 27, 28, 29, 30, 31, 36, 37, 38, 39, 40, 41, 42, 43, 44, 45, 46, 47] (by decide +kernel) (by decide +kernel)
set_option maxRecDepth 20000 in
theorem gX6_choiceOf_X6_guesses : GoodIn wsX6_choiceOf (wsV RX6 122 RX6 yX6_guesses wsX6_guesses) := goodIn_app (goodIn_of _ (by decide +kernel)) ggX6_choiceOf_X6_guesses
set_option maxRecDepth 20000 in
theorem ggX6_choiceOf_X6_choiceFrom : GoodIn wsX6_choiceOf wsX6_choiceFrom := goodIn_r _ [35, 18, 19, 20, 4, 21, 15, 22, 23, 24, 8, 25, 7, 9, 36, 37, 38, 39, 40, 41, 42, 43, 44, 45, 46, 47] (by decide +kernel) (by decide +kernel)
set_option maxRecDepth 20000 in
theorem gX6_choiceOf_X6_choiceFrom : GoodIn wsX6_choiceOf (wsV RX6 125 RX6 yX6_choiceFrom wsX6_choiceFrom) := goodIn_app (goodIn_of _ (by decide +kernel)) ggX6_choiceOf_X6_choiceFrom
theorem dX6_choiceOf_0 : decode cX6_choiceOf 0 = .ok (.aload_n 0, 1) := by decide +kernel
theorem dX6_choiceOf_1 : decode cX6_choiceOf 1 = .ok (.aload_n 0, 1) := by decide +kernel
theorem dX6_choiceOf_2 : decode cX6_choiceOf 2 = .ok (.iload_n 1, 1) := by decide +kernel
theorem dX6_choiceOf_3 : decode cX6_choiceOf 3 = .ok (.iconst 0, 1) := by decide +kernel
theorem dX6_choiceOf_4 : decode cX6_choiceOf 4 = .ok (.invokevirtual 122, 3) := by decide +kernel
theorem dX6_choiceOf_7 : decode cX6_choiceOf 7 = .ok (.invokevirtual 125, 3) := by decide +kernel
theorem dX6_choiceOf_10 : decode cX6_choiceOf 10 = .ok (.ireturn, 1) := by decide +kernel
set_option maxRecDepth 20000 in
theorem ggX6_choiceFrom_X6_hereThen : GoodIn wsX6_choiceFrom wsX6_hereThen := goodIn_r _ [5, 6, 7, 8, 9, 10, 11, 12, 13, 14, 15, 16, 17, 18, 19, 20, 21, 22, 23, 24, 25] (by decide +kernel) (by decide +kernel)
set_option maxRecDepth 20000 in
theorem gX6_choiceFrom_X6_hereThen : GoodIn wsX6_choiceFrom (wsV RX6 106 RX6 yX6_hereThen wsX6_hereThen) := goodIn_app (goodIn_of _ (by decide +kernel)) ggX6_choiceFrom_X6_hereThen
theorem dX6_choiceFrom_0 : decode cX6_choiceFrom 0 = .ok (.iload_n 1, 1) := by decide +kernel
theorem dX6_choiceFrom_1 : decode cX6_choiceFrom 1 = .ok (.ifCond .eq 7, 3) := by decide +kernel
theorem dX6_choiceFrom_4 : decode cX6_choiceFrom 4 = .ok (.iload_n 1, 1) := by decide +kernel
theorem dX6_choiceFrom_5 : decode cX6_choiceFrom 5 = .ok (.goto 8, 3) := by decide +kernel
theorem dX6_choiceFrom_8 : decode cX6_choiceFrom 8 = .ok (.aload_n 0, 1) := by decide +kernel
theorem dX6_choiceFrom_9 : decode cX6_choiceFrom 9 = .ok (.iconst 0, 1) := by decide +kernel
theorem dX6_choiceFrom_10 : decode cX6_choiceFrom 10 = .ok (.invokevirtual 106, 3) := by decide +kernel
theorem dX6_choiceFrom_13 : decode cX6_choiceFrom 13 = .ok (.ireturn, 1) := by decide +kernel
set_option maxRecDepth 20000 in
theorem ggX6_takenWith_X6_guesses : GoodIn wsX6_takenWith wsX6_guesses := goodIn_r _ [5, 6, 7, 8, 9, 10, 11, 12, 4, 13, 14, 15, 16, 17, 18, 19, 20, 21, 22, 23, 24, 25, 26, 27, 28, 29, 30, 31, 67, 68, 69, 70, 71, 72, 73, 74, 75, 76, 77, 78] (by decide +kernel) (by decide +kernel)
set_option maxRecDepth 20000 in
theorem gX6_takenWith_X6_guesses : GoodIn wsX6_takenWith (wsV RX6 122 RX6 yX6_guesses wsX6_guesses) := goodIn_app (goodIn_of _ (by decide +kernel)) ggX6_takenWith_X6_guesses
set_option maxRecDepth 20000 in
theorem ggX6_takenWith_X6_canWed : GoodIn wsX6_takenWith wsX6_canWed := goodIn_r _ [35, 36, 37, 38, 4, 39, 40, 41, 42, 43, 44, 45, 24, 8, 25, 18, 19, 20, 21, 15, 22, 23, 7, 9, 67, 68, 69, 70, 71, 72, 73, 74, 75, 76, 77, 78] (by decide +kernel) (by decide +kernel)
set_option maxRecDepth 20000 in
theorem gX6_takenWith_X6_canWed : GoodIn wsX6_takenWith (wsV RX6 128 RX6 yX6_canWed wsX6_canWed) := goodIn_app (goodIn_of _ (by decide +kernel)) ggX6_takenWith_X6_canWed
set_option maxRecDepth 20000 in
theorem ggX6_takenWith_X7_onlyOne : GoodIn wsX6_takenWith wsX7_onlyOne := goodIn_r _ [47, 48, 49, 50, 51, 52, 53, 54, 55, 56, 8, 57, 58, 24, 25] (by decide +kernel) (by decide +kernel)
set_option maxRecDepth 20000 in
theorem gX6_takenWith_X7_onlyOne_n109 : GoodIn wsX6_takenWith (wsX7_onlyOne) := ggX6_takenWith_X7_onlyOne
set_option maxRecDepth 20000 in
theorem ggX6_takenWith_X6_choiceFrom : GoodIn wsX6_takenWith wsX6_choiceFrom := goodIn_r _ [62, 18, 19, 20, 4, 21, 15, 22, 23, 24, 8, 25, 7, 9, 67, 68, 69, 70, 71, 72, 73, 74, 75, 76, 77, 78] (by decide +kernel) (by decide +kernel)
set_option maxRecDepth 20000 in
theorem gX6_takenWith_X6_choiceFrom : GoodIn wsX6_takenWith (wsV RX6 125 RX6 yX6_choiceFrom wsX6_choiceFrom) := goodIn_app (goodIn_of _ (by decide +kernel)) ggX6_takenWith_X6_choiceFrom
set_option maxRecDepth 20000 in
theorem ggX6_takenWith_X6_takenOf : GoodIn wsX6_takenWith wsX6_takenOf := goodIn_r _ [65, 66, 49, 50, 51, 52, 53, 54, 56, 8, 57, 58, 24, 25] (by decide +kernel) (by decide +kernel)
set_option maxRecDepth 20000 in
theorem gX6_takenWith_X6_takenOf : GoodIn wsX6_takenWith (va_wsS RX6 131 yX6_takenOf wsX6_takenOf) := goodIn_app (goodIn_of _ (by decide +kernel)) ggX6_takenWith_X6_takenOf
theorem dX6_takenWith_0 : decode cX6_takenWith 0 = .ok (.aload_n 0, 1) := by decide +kernel
theorem dX6_takenWith_1 : decode cX6_takenWith 1 = .ok (.iload_n 1, 1) := by decide +kernel
theorem dX6_takenWith_2 : decode cX6_takenWith 2 = .ok (.iconst 0, 1) := by decide +kernel
theorem dX6_takenWith_3 : decode cX6_takenWith 3 = .ok (.invokevirtual 122, 3) := by decide +kernel
theorem dX6_takenWith_6 : decode cX6_takenWith 6 = .ok (.istore_n 3, 1) := by decide +kernel
theorem dX6_takenWith_7 : decode cX6_takenWith 7 = .ok (.aload_n 0, 1) := by decide +kernel
theorem dX6_takenWith_8 : decode cX6_takenWith 8 = .ok (.iload_n 1, 1) := by decide +kernel
theorem dX6_takenWith_9 : decode cX6_takenWith 9 = .ok (.invokevirtual 128, 3) := by decide +kernel
theorem dX6_takenWith_12 : decode cX6_takenWith 12 = .ok (.ifCond .eq 12, 3) := by decide +kernel
theorem dX6_takenWith_15 : decode cX6_takenWith 15 = .ok (.iload_n 3, 1) := by decide +kernel
theorem dX6_takenWith_16 : decode cX6_takenWith 16 = .ok (.invokestatic 109, 3) := by decide +kernel
theorem dX6_takenWith_19 : decode cX6_takenWith 19 = .ok (.bipush (-9), 2) := by decide +kernel
theorem dX6_takenWith_21 : decode cX6_takenWith 21 = .ok (.if_icmp .eq 6, 3) := by decide +kernel
theorem dX6_takenWith_24 : decode cX6_takenWith 24 = .ok (.bipush (-9), 2) := by decide +kernel
theorem dX6_takenWith_26 : decode cX6_takenWith 26 = .ok (.ireturn, 1) := by decide +kernel
theorem dX6_takenWith_27 : decode cX6_takenWith 27 = .ok (.aload_n 0, 1) := by decide +kernel
theorem dX6_takenWith_28 : decode cX6_takenWith 28 = .ok (.iload_n 3, 1) := by decide +kernel
theorem dX6_takenWith_29 : decode cX6_takenWith 29 = .ok (.invokevirtual 125, 3) := by decide +kernel
theorem dX6_takenWith_32 : decode cX6_takenWith 32 = .ok (.iload_n 2, 1) := by decide +kernel
theorem dX6_takenWith_33 : decode cX6_takenWith 33 = .ok (.invokestatic 131, 3) := by decide +kernel
theorem dX6_takenWith_36 : decode cX6_takenWith 36 = .ok (.ireturn, 1) := by decide +kernel
set_option maxRecDepth 20000 in
theorem ggX6_takenOf_J6_bitCount_0f7a4 : GoodIn wsX6_takenOf wsJ6_bitCount_0f7a4 := goodIn_r _ [4, 5, 6, 7] (by decide +kernel) (by decide +kernel)
set_option maxRecDepth 20000 in
theorem gX6_takenOf_J6_bitCount_0f7a4 : GoodIn wsX6_takenOf (va_wsS RX6 134 yJ6_bitCount_0f7a4 wsJ6_bitCount_0f7a4) := goodIn_app (goodIn_of _ (by decide +kernel)) ggX6_takenOf_J6_bitCount_0f7a4
set_option maxRecDepth 20000 in
theorem ggX6_takenOf_X7_bitAt : GoodIn wsX6_takenOf wsX7_bitAt := goodIn_r _ [10, 11, 12, 9, 13] (by decide +kernel) (by decide +kernel)
set_option maxRecDepth 20000 in
theorem gX6_takenOf_X7_bitAt_n139 : GoodIn wsX6_takenOf (wsX7_bitAt) := ggX6_takenOf_X7_bitAt
theorem dX6_takenOf_0 : decode cX6_takenOf 0 = .ok (.iload_n 0, 1) := by decide +kernel
theorem dX6_takenOf_1 : decode cX6_takenOf 1 = .ok (.invokestatic 134, 3) := by decide +kernel
theorem dX6_takenOf_4 : decode cX6_takenOf 4 = .ok (.istore_n 2, 1) := by decide +kernel
theorem dX6_takenOf_5 : decode cX6_takenOf 5 = .ok (.iload_n 2, 1) := by decide +kernel
theorem dX6_takenOf_6 : decode cX6_takenOf 6 = .ok (.ifCond .ne 8, 3) := by decide +kernel
theorem dX6_takenOf_9 : decode cX6_takenOf 9 = .ok (.bipush (-9), 2) := by decide +kernel
theorem dX6_takenOf_11 : decode cX6_takenOf 11 = .ok (.goto 10, 3) := by decide +kernel
theorem dX6_takenOf_14 : decode cX6_takenOf 14 = .ok (.iload_n 0, 1) := by decide +kernel
theorem dX6_takenOf_15 : decode cX6_takenOf 15 = .ok (.iload_n 1, 1) := by decide +kernel
theorem dX6_takenOf_16 : decode cX6_takenOf 16 = .ok (.iload_n 2, 1) := by decide +kernel
theorem dX6_takenOf_17 : decode cX6_takenOf 17 = .ok (.irem, 1) := by decide +kernel
theorem dX6_takenOf_18 : decode cX6_takenOf 18 = .ok (.invokestatic 139, 3) := by decide +kernel
theorem dX6_takenOf_21 : decode cX6_takenOf 21 = .ok (.ireturn, 1) := by decide +kernel
set_option maxRecDepth 20000 in
theorem ggX6_wed_X7_at : GoodIn wsX6_wed wsX7_at := goodIn_r _ [8] (by decide +kernel) (by decide +kernel)
set_option maxRecDepth 20000 in
theorem gX6_wed_X7_at_n53 : GoodIn wsX6_wed (wsX7_at) := ggX6_wed_X7_at
set_option maxRecDepth 20000 in
theorem ggX6_wed_X6_guessesBy : GoodIn wsX6_wed wsX6_guessesBy := goodIn_r _ [13, 14, 15, 16, 17, 6, 7, 8, 18, 19, 20, 12, 21, 4, 3, 22, 23, 24, 25, 26, 27, 28, 29, 53, 54, 55, 56, 57, 58, 59, 60, 61, 62, 63, 64] (by decide +kernel) (by decide +kernel)
set_option maxRecDepth 20000 in
theorem gX6_wed_X6_guessesBy : GoodIn wsX6_wed (wsV RX6 102 RX6 yX6_guessesBy wsX6_guessesBy) := goodIn_app (goodIn_of _ (by decide +kernel)) ggX6_wed_X6_guessesBy
set_option maxRecDepth 20000 in
theorem ggX6_wed_X7_onlyOne : GoodIn wsX6_wed wsX7_onlyOne := goodIn_r _ [31, 32, 33, 34, 35, 36, 37, 38, 39, 40, 7, 41, 42, 22, 23] (by decide +kernel) (by decide +kernel)
set_option maxRecDepth 20000 in
theorem gX6_wed_X7_onlyOne_n109 : GoodIn wsX6_wed (wsX7_onlyOne) := ggX6_wed_X7_onlyOne
set_option maxRecDepth 20000 in
theorem ggX6_wed_X7_put : GoodIn wsX6_wed wsX7_put := goodIn_r _ [44] (by decide +kernel) (by decide +kernel)
set_option maxRecDepth 20000 in
theorem gX6_wed_X7_put_n65 : GoodIn wsX6_wed (wsX7_put) := ggX6_wed_X7_put
set_option maxRecDepth 20000 in
theorem ggX6_wed_X6_choiceFrom : GoodIn wsX6_wed wsX6_choiceFrom := goodIn_r _ [48, 18, 19, 20, 12, 21, 15, 4, 3, 22, 7, 23, 6, 8, 53, 54, 55, 56, 57, 58, 59, 60, 61, 62, 63, 64] (by decide +kernel) (by decide +kernel)
set_option maxRecDepth 20000 in
theorem gX6_wed_X6_choiceFrom : GoodIn wsX6_wed (wsV RX6 125 RX6 yX6_choiceFrom wsX6_choiceFrom) := goodIn_app (goodIn_of _ (by decide +kernel)) ggX6_wed_X6_choiceFrom
set_option maxRecDepth 20000 in
theorem ggX6_wed_X6_takenOf : GoodIn wsX6_wed wsX6_takenOf := goodIn_r _ [51, 52, 33, 34, 35, 36, 37, 38, 40, 7, 41, 42, 22, 23] (by decide +kernel) (by decide +kernel)
set_option maxRecDepth 20000 in
theorem gX6_wed_X6_takenOf : GoodIn wsX6_wed (va_wsS RX6 131 yX6_takenOf wsX6_takenOf) := goodIn_app (goodIn_of _ (by decide +kernel)) ggX6_wed_X6_takenOf
theorem dX6_wed_0 : decode cX6_wed 0 = .ok (.aload_n 0, 1) := by decide +kernel
