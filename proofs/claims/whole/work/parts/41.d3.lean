theorem dX8_firstAlike_31 : decode cX8_firstAlike 31 = .ok (.ishr, 1) := by decide +kernel
theorem dX8_firstAlike_32 : decode cX8_firstAlike 32 = .ok (.goto 4, 3) := by decide +kernel
theorem dX8_firstAlike_35 : decode cX8_firstAlike 35 = .ok (.iconst 0, 1) := by decide +kernel
theorem dX8_firstAlike_36 : decode cX8_firstAlike 36 = .ok (.istore_n 2, 1) := by decide +kernel
theorem dX8_firstAlike_37 : decode cX8_firstAlike 37 = .ok (.iload_n 2, 1) := by decide +kernel
theorem dX8_firstAlike_38 : decode cX8_firstAlike 38 = .ok (.ifCond .eq 17, 3) := by decide +kernel
theorem dX8_firstAlike_41 : decode cX8_firstAlike 41 = .ok (.bipush 10, 2) := by decide +kernel
theorem dX8_firstAlike_43 : decode cX8_firstAlike 43 = .ok (.iload_n 1, 1) := by decide +kernel
theorem dX8_firstAlike_44 : decode cX8_firstAlike 44 = .ok (.imul, 1) := by decide +kernel
theorem dX8_firstAlike_45 : decode cX8_firstAlike 45 = .ok (.iload_n 1, 1) := by decide +kernel
theorem dX8_firstAlike_46 : decode cX8_firstAlike 46 = .ok (.iadd, 1) := by decide +kernel
theorem dX8_firstAlike_47 : decode cX8_firstAlike 47 = .ok (.iconst 1, 1) := by decide +kernel
theorem dX8_firstAlike_48 : decode cX8_firstAlike 48 = .ok (.iadd, 1) := by decide +kernel
theorem dX8_firstAlike_49 : decode cX8_firstAlike 49 = .ok (.iload_n 2, 1) := by decide +kernel
theorem dX8_firstAlike_50 : decode cX8_firstAlike 50 = .ok (.invokestatic 189, 3) := by decide +kernel
theorem dX8_firstAlike_53 : decode cX8_firstAlike 53 = .ok (.iadd, 1) := by decide +kernel
theorem dX8_firstAlike_54 : decode cX8_firstAlike 54 = .ok (.ireturn, 1) := by decide +kernel
theorem dX8_firstAlike_55 : decode cX8_firstAlike 55 = .ok (.iinc 1 1, 3) := by decide +kernel
theorem dX8_firstAlike_58 : decode cX8_firstAlike 58 = .ok (.goto (-56), 3) := by decide +kernel
theorem dX8_firstAlike_61 : decode cX8_firstAlike 61 = .ok (.bipush (-9), 2) := by decide +kernel
theorem dX8_firstAlike_63 : decode cX8_firstAlike 63 = .ok (.ireturn, 1) := by decide +kernel
set_option maxRecDepth 20000 in
theorem ggX8_alike_X8_isIn : GoodIn wsX8_alike wsX8_isIn := goodIn_r _ [4] (by decide +kernel) (by decide +kernel)
set_option maxRecDepth 20000 in
theorem gX8_alike_X8_isIn : GoodIn wsX8_alike (va_wsS RX8 97 yX8_isIn wsX8_isIn) := goodIn_app (goodIn_of _ (by decide +kernel)) ggX8_alike_X8_isIn
set_option maxRecDepth 20000 in
theorem ggX8_alike_X8_no : GoodIn wsX8_alike wsX8_no := goodIn_r _ [8, 9, 45, 46, 47, 48, 49, 50, 51, 52, 53, 54, 55, 56, 57, 58, 59, 60, 61, 62, 63, 64, 65, 66, 67, 68, 69, 70, 71, 72, 73] (by decide +kernel) (by decide +kernel)
set_option maxRecDepth 20000 in
theorem gX8_alike_X8_no : GoodIn wsX8_alike (wsV RX8 86 RX8 yX8_no wsX8_no) := goodIn_app (goodIn_of _ (by decide +kernel)) ggX8_alike_X8_no
set_option maxRecDepth 20000 in
theorem ggX8_alike_X8_firstAlike : GoodIn wsX8_alike wsX8_firstAlike := goodIn_r _ [13, 14, 15, 16, 17, 18, 3, 19, 20, 21, 22, 23, 24, 25, 26, 27, 28, 29, 30, 31, 32, 33, 34, 35, 36, 37, 38, 39, 40, 41, 45, 46, 47, 48, 49, 50, 51, 52, 53, 54, 55, 56, 57, 58, 59, 60, 61, 62, 63, 64, 65, 66, 67, 68, 69, 70, 71, 72, 73] (by decide +kernel) (by decide +kernel)
set_option maxRecDepth 20000 in
theorem gX8_alike_X8_firstAlike : GoodIn wsX8_alike (wsV RX8 238 RX8 yX8_firstAlike wsX8_firstAlike) := goodIn_app (goodIn_of _ (by decide +kernel)) ggX8_alike_X8_firstAlike
set_option maxRecDepth 20000 in
theorem ggX8_alike_X8_showing : GoodIn wsX8_alike wsX8_showing := goodIn_r _ [31, 32, 33, 34, 3, 35, 14, 15, 16, 17, 18, 19, 20, 21, 22, 23, 24, 25, 26, 27, 45, 46, 47, 48, 49, 50, 51, 52, 53, 54, 55, 56, 57, 58, 59, 60, 61, 62, 63, 64, 65, 66, 67, 68, 69, 70, 71, 72, 73] (by decide +kernel) (by decide +kernel)
set_option maxRecDepth 20000 in
theorem gX8_alike_X8_showing : GoodIn wsX8_alike (wsV RX8 235 RX8 yX8_showing wsX8_showing) := goodIn_app (goodIn_of _ (by decide +kernel)) ggX8_alike_X8_showing
set_option maxRecDepth 20000 in
theorem ggX8_alike_X8_bits : GoodIn wsX8_alike wsX8_bits := goodIn_r _ [44] (by decide +kernel) (by decide +kernel)
set_option maxRecDepth 20000 in
theorem gX8_alike_X8_bits : GoodIn wsX8_alike (va_wsS RX8 186 yX8_bits wsX8_bits) := goodIn_app (goodIn_of _ (by decide +kernel)) ggX8_alike_X8_bits
theorem dX8_alike_0 : decode cX8_alike 0 = .ok (.iload_n 1, 1) := by decide +kernel
theorem dX8_alike_1 : decode cX8_alike 1 = .ok (.iconst 0, 1) := by decide +kernel
theorem dX8_alike_2 : decode cX8_alike 2 = .ok (.iconst 3, 1) := by decide +kernel
theorem dX8_alike_3 : decode cX8_alike 3 = .ok (.invokestatic 97, 3) := by decide +kernel
theorem dX8_alike_6 : decode cX8_alike 6 = .ok (.ifCond .ne 10, 3) := by decide +kernel
theorem dX8_alike_9 : decode cX8_alike 9 = .ok (.aload_n 0, 1) := by decide +kernel
theorem dX8_alike_10 : decode cX8_alike 10 = .ok (.bipush (-2), 2) := by decide +kernel
theorem dX8_alike_12 : decode cX8_alike 12 = .ok (.invokevirtual 86, 3) := by decide +kernel
theorem dX8_alike_15 : decode cX8_alike 15 = .ok (.ireturn, 1) := by decide +kernel
theorem dX8_alike_16 : decode cX8_alike 16 = .ok (.iload_n 1, 1) := by decide +kernel
theorem dX8_alike_17 : decode cX8_alike 17 = .ok (.iconst 1, 1) := by decide +kernel
theorem dX8_alike_18 : decode cX8_alike 18 = .ok (.if_icmp .ne 8, 3) := by decide +kernel
theorem dX8_alike_21 : decode cX8_alike 21 = .ok (.aload_n 0, 1) := by decide +kernel
theorem dX8_alike_22 : decode cX8_alike 22 = .ok (.invokevirtual 238, 3) := by decide +kernel
theorem dX8_alike_25 : decode cX8_alike 25 = .ok (.ireturn, 1) := by decide +kernel
theorem dX8_alike_26 : decode cX8_alike 26 = .ok (.iconst 0, 1) := by decide +kernel
theorem dX8_alike_27 : decode cX8_alike 27 = .ok (.istore_n 2, 1) := by decide +kernel
theorem dX8_alike_28 : decode cX8_alike 28 = .ok (.iconst 0, 1) := by decide +kernel
theorem dX8_alike_29 : decode cX8_alike 29 = .ok (.istore_n 3, 1) := by decide +kernel
theorem dX8_alike_30 : decode cX8_alike 30 = .ok (.bipush (-9), 2) := by decide +kernel
theorem dX8_alike_32 : decode cX8_alike 32 = .ok (.istore 4, 2) := by decide +kernel
theorem dX8_alike_34 : decode cX8_alike 34 = .ok (.iconst 0, 1) := by decide +kernel
theorem dX8_alike_35 : decode cX8_alike 35 = .ok (.istore 5, 2) := by decide +kernel
theorem dX8_alike_37 : decode cX8_alike 37 = .ok (.iload 5, 2) := by decide +kernel
theorem dX8_alike_39 : decode cX8_alike 39 = .ok (.bipush 63, 2) := by decide +kernel
theorem dX8_alike_41 : decode cX8_alike 41 = .ok (.if_icmp .gt 48, 3) := by decide +kernel
theorem dX8_alike_44 : decode cX8_alike 44 = .ok (.aload_n 0, 1) := by decide +kernel
theorem dX8_alike_45 : decode cX8_alike 45 = .ok (.iload 5, 2) := by decide +kernel
theorem dX8_alike_47 : decode cX8_alike 47 = .ok (.invokevirtual 235, 3) := by decide +kernel
theorem dX8_alike_50 : decode cX8_alike 50 = .ok (.invokestatic 186, 3) := by decide +kernel
theorem dX8_alike_53 : decode cX8_alike 53 = .ok (.istore 6, 2) := by decide +kernel
theorem dX8_alike_55 : decode cX8_alike 55 = .ok (.iload_n 2, 1) := by decide +kernel
theorem dX8_alike_56 : decode cX8_alike 56 = .ok (.iload 6, 2) := by decide +kernel
theorem dX8_alike_58 : decode cX8_alike 58 = .ok (.iload 6, 2) := by decide +kernel
theorem dX8_alike_60 : decode cX8_alike 60 = .ok (.iconst 1, 1) := by decide +kernel
theorem dX8_alike_61 : decode cX8_alike 61 = .ok (.isub, 1) := by decide +kernel
theorem dX8_alike_62 : decode cX8_alike 62 = .ok (.imul, 1) := by decide +kernel
theorem dX8_alike_63 : decode cX8_alike 63 = .ok (.iconst 2, 1) := by decide +kernel
theorem dX8_alike_64 : decode cX8_alike 64 = .ok (.idiv, 1) := by decide +kernel
theorem dX8_alike_65 : decode cX8_alike 65 = .ok (.iadd, 1) := by decide +kernel
theorem dX8_alike_66 : decode cX8_alike 66 = .ok (.istore_n 2, 1) := by decide +kernel
theorem dX8_alike_67 : decode cX8_alike 67 = .ok (.iload 6, 2) := by decide +kernel
theorem dX8_alike_69 : decode cX8_alike 69 = .ok (.iload_n 3, 1) := by decide +kernel
theorem dX8_alike_70 : decode cX8_alike 70 = .ok (.if_icmp .gt 6, 3) := by decide +kernel
theorem dX8_alike_73 : decode cX8_alike 73 = .ok (.goto 10, 3) := by decide +kernel
theorem dX8_alike_76 : decode cX8_alike 76 = .ok (.iload 6, 2) := by decide +kernel
theorem dX8_alike_78 : decode cX8_alike 78 = .ok (.istore_n 3, 1) := by decide +kernel
theorem dX8_alike_79 : decode cX8_alike 79 = .ok (.iload 5, 2) := by decide +kernel
theorem dX8_alike_81 : decode cX8_alike 81 = .ok (.istore 4, 2) := by decide +kernel
theorem dX8_alike_83 : decode cX8_alike 83 = .ok (.iinc 5 1, 3) := by decide +kernel
theorem dX8_alike_86 : decode cX8_alike 86 = .ok (.goto (-49), 3) := by decide +kernel
theorem dX8_alike_89 : decode cX8_alike 89 = .ok (.iload_n 1, 1) := by decide +kernel
theorem dX8_alike_90 : decode cX8_alike 90 = .ok (.ifCond .ne 7, 3) := by decide +kernel
theorem dX8_alike_93 : decode cX8_alike 93 = .ok (.iload_n 2, 1) := by decide +kernel
theorem dX8_alike_94 : decode cX8_alike 94 = .ok (.goto 14, 3) := by decide +kernel
theorem dX8_alike_97 : decode cX8_alike 97 = .ok (.iload_n 1, 1) := by decide +kernel
theorem dX8_alike_98 : decode cX8_alike 98 = .ok (.iconst 2, 1) := by decide +kernel
theorem dX8_alike_99 : decode cX8_alike 99 = .ok (.if_icmp .ne 7, 3) := by decide +kernel
theorem dX8_alike_102 : decode cX8_alike 102 = .ok (.iload_n 3, 1) := by decide +kernel
theorem dX8_alike_103 : decode cX8_alike 103 = .ok (.goto 5, 3) := by decide +kernel
theorem dX8_alike_106 : decode cX8_alike 106 = .ok (.iload 4, 2) := by decide +kernel
theorem dX8_alike_108 : decode cX8_alike 108 = .ok (.ireturn, 1) := by decide +kernel
set_option maxRecDepth 20000 in
theorem ggX8_unevenBy_X8_guessesBy : GoodIn wsX8_unevenBy wsX8_guessesBy := goodIn_r _ [5, 6, 7, 8, 9, 10, 4, 11, 12, 13, 14, 15, 16, 17, 18, 19, 23, 24, 25, 26, 27, 28, 29, 30, 31, 32, 33, 34, 35, 36, 37, 38, 39, 40, 41, 42, 43, 44, 45, 46, 47, 48, 49, 50, 51] (by decide +kernel) (by decide +kernel)
set_option maxRecDepth 20000 in
theorem gX8_unevenBy_X8_guessesBy : GoodIn wsX8_unevenBy (wsV RX8 179 RX8 yX8_guessesBy wsX8_guessesBy) := goodIn_app (goodIn_of _ (by decide +kernel)) ggX8_unevenBy_X8_guessesBy
set_option maxRecDepth 20000 in
theorem ggX8_unevenBy_X8_bits : GoodIn wsX8_unevenBy wsX8_bits := goodIn_r _ [22] (by decide +kernel) (by decide +kernel)
set_option maxRecDepth 20000 in
theorem gX8_unevenBy_X8_bits : GoodIn wsX8_unevenBy (va_wsS RX8 186 yX8_bits wsX8_bits) := goodIn_app (goodIn_of _ (by decide +kernel)) ggX8_unevenBy_X8_bits
theorem dX8_unevenBy_0 : decode cX8_unevenBy 0 = .ok (.aload_n 0, 1) := by decide +kernel
theorem dX8_unevenBy_1 : decode cX8_unevenBy 1 = .ok (.iconst 1, 1) := by decide +kernel
theorem dX8_unevenBy_2 : decode cX8_unevenBy 2 = .ok (.iload_n 1, 1) := by decide +kernel
theorem dX8_unevenBy_3 : decode cX8_unevenBy 3 = .ok (.ishl, 1) := by decide +kernel
theorem dX8_unevenBy_4 : decode cX8_unevenBy 4 = .ok (.bipush 63, 2) := by decide +kernel
theorem dX8_unevenBy_6 : decode cX8_unevenBy 6 = .ok (.invokevirtual 179, 3) := by decide +kernel
theorem dX8_unevenBy_9 : decode cX8_unevenBy 9 = .ok (.invokestatic 186, 3) := by decide +kernel
theorem dX8_unevenBy_12 : decode cX8_unevenBy 12 = .ok (.aload_n 0, 1) := by decide +kernel
theorem dX8_unevenBy_13 : decode cX8_unevenBy 13 = .ok (.iconst 1, 1) := by decide +kernel
theorem dX8_unevenBy_14 : decode cX8_unevenBy 14 = .ok (.iload_n 1, 1) := by decide +kernel
theorem dX8_unevenBy_15 : decode cX8_unevenBy 15 = .ok (.ishl, 1) := by decide +kernel
theorem dX8_unevenBy_16 : decode cX8_unevenBy 16 = .ok (.iconst 0, 1) := by decide +kernel
theorem dX8_unevenBy_17 : decode cX8_unevenBy 17 = .ok (.invokevirtual 179, 3) := by decide +kernel
theorem dX8_unevenBy_20 : decode cX8_unevenBy 20 = .ok (.invokestatic 186, 3) := by decide +kernel
theorem dX8_unevenBy_23 : decode cX8_unevenBy 23 = .ok (.isub, 1) := by decide +kernel
theorem dX8_unevenBy_24 : decode cX8_unevenBy 24 = .ok (.istore_n 2, 1) := by decide +kernel
theorem dX8_unevenBy_25 : decode cX8_unevenBy 25 = .ok (.iload_n 2, 1) := by decide +kernel
theorem dX8_unevenBy_26 : decode cX8_unevenBy 26 = .ok (.ifCond .ge 8, 3) := by decide +kernel
theorem dX8_unevenBy_29 : decode cX8_unevenBy 29 = .ok (.iload_n 2, 1) := by decide +kernel
theorem dX8_unevenBy_30 : decode cX8_unevenBy 30 = .ok (.ineg, 1) := by decide +kernel
theorem dX8_unevenBy_31 : decode cX8_unevenBy 31 = .ok (.goto 4, 3) := by decide +kernel
theorem dX8_unevenBy_34 : decode cX8_unevenBy 34 = .ok (.iload_n 2, 1) := by decide +kernel
theorem dX8_unevenBy_35 : decode cX8_unevenBy 35 = .ok (.ireturn, 1) := by decide +kernel
set_option maxRecDepth 20000 in
theorem ggX8_tells_X8_unevenBy : GoodIn wsX8_tells wsX8_unevenBy := goodIn_r _ [5, 6, 7, 8, 4, 9, 10, 11, 12, 13, 14, 15, 16, 17, 18, 19, 20, 21, 22, 23, 24, 25, 26, 27, 28, 29, 30, 31, 32, 33, 34, 35, 36, 37, 38, 39, 40, 41, 42, 43, 44, 45, 46, 47, 48, 49, 50, 51, 52, 53, 54, 55] (by decide +kernel) (by decide +kernel)
set_option maxRecDepth 20000 in
theorem gX8_tells_X8_unevenBy : GoodIn wsX8_tells (wsV RX8 241 RX8 yX8_unevenBy wsX8_unevenBy) := goodIn_app (goodIn_of _ (by decide +kernel)) ggX8_tells_X8_unevenBy
theorem dX8_tells_0 : decode cX8_tells 0 = .ok (.iconst 0, 1) := by decide +kernel
theorem dX8_tells_1 : decode cX8_tells 1 = .ok (.istore_n 1, 1) := by decide +kernel
theorem dX8_tells_2 : decode cX8_tells 2 = .ok (.iconst 1, 1) := by decide +kernel
theorem dX8_tells_3 : decode cX8_tells 3 = .ok (.istore_n 2, 1) := by decide +kernel
theorem dX8_tells_4 : decode cX8_tells 4 = .ok (.iload_n 2, 1) := by decide +kernel
theorem dX8_tells_5 : decode cX8_tells 5 = .ok (.bipush 6, 2) := by decide +kernel
theorem dX8_tells_7 : decode cX8_tells 7 = .ok (.if_icmp .ge 28, 3) := by decide +kernel
theorem dX8_tells_10 : decode cX8_tells 10 = .ok (.aload_n 0, 1) := by decide +kernel
theorem dX8_tells_11 : decode cX8_tells 11 = .ok (.iload_n 2, 1) := by decide +kernel
theorem dX8_tells_12 : decode cX8_tells 12 = .ok (.invokevirtual 241, 3) := by decide +kernel
theorem dX8_tells_15 : decode cX8_tells 15 = .ok (.aload_n 0, 1) := by decide +kernel
theorem dX8_tells_16 : decode cX8_tells 16 = .ok (.iload_n 1, 1) := by decide +kernel
theorem dX8_tells_17 : decode cX8_tells 17 = .ok (.invokevirtual 241, 3) := by decide +kernel
theorem dX8_tells_20 : decode cX8_tells 20 = .ok (.if_icmp .ge 7, 3) := by decide +kernel
theorem dX8_tells_23 : decode cX8_tells 23 = .ok (.iload_n 2, 1) := by decide +kernel
theorem dX8_tells_24 : decode cX8_tells 24 = .ok (.goto 4, 3) := by decide +kernel
theorem dX8_tells_27 : decode cX8_tells 27 = .ok (.iload_n 1, 1) := by decide +kernel
theorem dX8_tells_28 : decode cX8_tells 28 = .ok (.istore_n 1, 1) := by decide +kernel
theorem dX8_tells_29 : decode cX8_tells 29 = .ok (.iinc 2 1, 3) := by decide +kernel
theorem dX8_tells_32 : decode cX8_tells 32 = .ok (.goto (-28), 3) := by decide +kernel
theorem dX8_tells_35 : decode cX8_tells 35 = .ok (.iload_n 1, 1) := by decide +kernel
theorem dX8_tells_36 : decode cX8_tells 36 = .ok (.ireturn, 1) := by decide +kernel
set_option maxRecDepth 20000 in
theorem ggX8_areToldApart_X8_showsOf : GoodIn wsX8_areToldApart wsX8_showsOf := goodIn_r _ [7, 8, 9, 10, 11, 12, 13, 14, 6, 15, 23, 24, 25, 26, 27, 28, 29, 30, 31, 32, 33, 34, 35, 36, 37, 38, 39, 40, 41, 42, 43, 44, 45, 46, 47, 48, 49, 50, 51] (by decide +kernel) (by decide +kernel)
set_option maxRecDepth 20000 in
theorem gX8_areToldApart_X8_showsOf : GoodIn wsX8_areToldApart (wsV RX8 176 RX8 yX8_showsOf wsX8_showsOf) := goodIn_app (goodIn_of _ (by decide +kernel)) ggX8_areToldApart_X8_showsOf
set_option maxRecDepth 20000 in
theorem ggX8_areToldApart_X8_guessesBy : GoodIn wsX8_areToldApart wsX8_guessesBy := goodIn_r _ [19, 1, 2, 3, 4, 5, 6, 7, 8, 9, 10, 11, 12, 13, 14, 15, 23, 24, 25, 26, 27, 28, 29, 30, 31, 32, 33, 34, 35, 36, 37, 38, 39, 40, 41, 42, 43, 44, 45, 46, 47, 48, 49, 50, 51] (by decide +kernel) (by decide +kernel)
set_option maxRecDepth 20000 in
theorem gX8_areToldApart_X8_guessesBy : GoodIn wsX8_areToldApart (wsV RX8 179 RX8 yX8_guessesBy wsX8_guessesBy) := goodIn_app (goodIn_of _ (by decide +kernel)) ggX8_areToldApart_X8_guessesBy
set_option maxRecDepth 20000 in
theorem ggX8_areToldApart_X8_bits : GoodIn wsX8_areToldApart wsX8_bits := goodIn_r _ [22] (by decide +kernel) (by decide +kernel)
set_option maxRecDepth 20000 in
theorem gX8_areToldApart_X8_bits : GoodIn wsX8_areToldApart (va_wsS RX8 186 yX8_bits wsX8_bits) := goodIn_app (goodIn_of _ (by decide +kernel)) ggX8_areToldApart_X8_bits
theorem dX8_areToldApart_0 : decode cX8_areToldApart 0 = .ok (.iconst 0, 1) := by decide +kernel
theorem dX8_areToldApart_1 : decode cX8_areToldApart 1 = .ok (.istore_n 2, 1) := by decide +kernel
theorem dX8_areToldApart_2 : decode cX8_areToldApart 2 = .ok (.iload_n 2, 1) := by decide +kernel
theorem dX8_areToldApart_3 : decode cX8_areToldApart 3 = .ok (.aload_n 0, 1) := by decide +kernel
theorem dX8_areToldApart_4 : decode cX8_areToldApart 4 = .ok (.getfield 66, 3) := by decide +kernel
theorem dX8_areToldApart_7 : decode cX8_areToldApart 7 = .ok (.if_icmp .ge 37, 3) := by decide +kernel
theorem dX8_areToldApart_10 : decode cX8_areToldApart 10 = .ok (.aload_n 0, 1) := by decide +kernel
theorem dX8_areToldApart_11 : decode cX8_areToldApart 11 = .ok (.getfield 22, 3) := by decide +kernel
theorem dX8_areToldApart_14 : decode cX8_areToldApart 14 = .ok (.iload_n 2, 1) := by decide +kernel
theorem dX8_areToldApart_15 : decode cX8_areToldApart 15 = .ok (.iaload, 1) := by decide +kernel
theorem dX8_areToldApart_16 : decode cX8_areToldApart 16 = .ok (.ifCond .ne 22, 3) := by decide +kernel
theorem dX8_areToldApart_19 : decode cX8_areToldApart 19 = .ok (.aload_n 0, 1) := by decide +kernel
theorem dX8_areToldApart_20 : decode cX8_areToldApart 20 = .ok (.iload_n 1, 1) := by decide +kernel
theorem dX8_areToldApart_21 : decode cX8_areToldApart 21 = .ok (.aload_n 0, 1) := by decide +kernel
theorem dX8_areToldApart_22 : decode cX8_areToldApart 22 = .ok (.iload_n 2, 1) := by decide +kernel
theorem dX8_areToldApart_23 : decode cX8_areToldApart 23 = .ok (.invokevirtual 176, 3) := by decide +kernel
theorem dX8_areToldApart_26 : decode cX8_areToldApart 26 = .ok (.invokevirtual 179, 3) := by decide +kernel
theorem dX8_areToldApart_29 : decode cX8_areToldApart 29 = .ok (.invokestatic 186, 3) := by decide +kernel
theorem dX8_areToldApart_32 : decode cX8_areToldApart 32 = .ok (.iconst 1, 1) := by decide +kernel
theorem dX8_areToldApart_33 : decode cX8_areToldApart 33 = .ok (.if_icmp .le 5, 3) := by decide +kernel
theorem dX8_areToldApart_36 : decode cX8_areToldApart 36 = .ok (.iconst 0, 1) := by decide +kernel
theorem dX8_areToldApart_37 : decode cX8_areToldApart 37 = .ok (.ireturn, 1) := by decide +kernel
theorem dX8_areToldApart_38 : decode cX8_areToldApart 38 = .ok (.iinc 2 1, 3) := by decide +kernel
theorem dX8_areToldApart_41 : decode cX8_areToldApart 41 = .ok (.goto (-39), 3) := by decide +kernel
theorem dX8_areToldApart_44 : decode cX8_areToldApart 44 = .ok (.iconst 1, 1) := by decide +kernel
theorem dX8_areToldApart_45 : decode cX8_areToldApart 45 = .ok (.ireturn, 1) := by decide +kernel
set_option maxRecDepth 20000 in
theorem ggX8_sees_X8_bits : GoodIn wsX8_sees wsX8_bits := goodIn_r _ [4] (by decide +kernel) (by decide +kernel)
set_option maxRecDepth 20000 in
theorem gX8_sees_X8_bits : GoodIn wsX8_sees (va_wsS RX8 186 yX8_bits wsX8_bits) := goodIn_app (goodIn_of _ (by decide +kernel)) ggX8_sees_X8_bits
set_option maxRecDepth 20000 in
theorem ggX8_sees_X8_areToldApart : GoodIn wsX8_sees wsX8_areToldApart := goodIn_r _ [8, 9, 10, 11, 12, 13, 3, 14, 15, 16, 17, 18, 19, 20, 21, 22, 23, 24, 25, 26, 1, 2, 4, 27, 28, 29, 30, 31, 32, 33, 34, 35, 36, 37, 38, 39, 40, 41, 42, 43, 44, 45, 46, 47, 48, 49, 50, 51, 52, 53, 54, 55] (by decide +kernel) (by decide +kernel)
set_option maxRecDepth 20000 in
theorem gX8_sees_X8_areToldApart : GoodIn wsX8_sees (wsV RX8 244 RX8 yX8_areToldApart wsX8_areToldApart) := goodIn_app (goodIn_of _ (by decide +kernel)) ggX8_sees_X8_areToldApart
theorem dX8_sees_0 : decode cX8_sees 0 = .ok (.bipush (-9), 2) := by decide +kernel
theorem dX8_sees_2 : decode cX8_sees 2 = .ok (.istore_n 1, 1) := by decide +kernel
theorem dX8_sees_3 : decode cX8_sees 3 = .ok (.iconst 0, 1) := by decide +kernel
theorem dX8_sees_4 : decode cX8_sees 4 = .ok (.istore_n 2, 1) := by decide +kernel
theorem dX8_sees_5 : decode cX8_sees 5 = .ok (.iload_n 2, 1) := by decide +kernel
theorem dX8_sees_6 : decode cX8_sees 6 = .ok (.bipush 63, 2) := by decide +kernel
theorem dX8_sees_8 : decode cX8_sees 8 = .ok (.if_icmp .gt 34, 3) := by decide +kernel
theorem dX8_sees_11 : decode cX8_sees 11 = .ok (.iload_n 1, 1) := by decide +kernel
theorem dX8_sees_12 : decode cX8_sees 12 = .ok (.ifCond .lt 14, 3) := by decide +kernel
theorem dX8_sees_15 : decode cX8_sees 15 = .ok (.iload_n 2, 1) := by decide +kernel
theorem dX8_sees_16 : decode cX8_sees 16 = .ok (.invokestatic 186, 3) := by decide +kernel
theorem dX8_sees_19 : decode cX8_sees 19 = .ok (.iload_n 1, 1) := by decide +kernel
theorem dX8_sees_20 : decode cX8_sees 20 = .ok (.invokestatic 186, 3) := by decide +kernel
theorem dX8_sees_23 : decode cX8_sees 23 = .ok (.if_icmp .ge 13, 3) := by decide +kernel
theorem dX8_sees_26 : decode cX8_sees 26 = .ok (.aload_n 0, 1) := by decide +kernel
theorem dX8_sees_27 : decode cX8_sees 27 = .ok (.iload_n 2, 1) := by decide +kernel
theorem dX8_sees_28 : decode cX8_sees 28 = .ok (.invokevirtual 244, 3) := by decide +kernel
theorem dX8_sees_31 : decode cX8_sees 31 = .ok (.ifCond .eq 5, 3) := by decide +kernel
theorem dX8_sees_34 : decode cX8_sees 34 = .ok (.iload_n 2, 1) := by decide +kernel
theorem dX8_sees_35 : decode cX8_sees 35 = .ok (.istore_n 1, 1) := by decide +kernel
theorem dX8_sees_36 : decode cX8_sees 36 = .ok (.iinc 2 1, 3) := by decide +kernel
theorem dX8_sees_39 : decode cX8_sees 39 = .ok (.goto (-34), 3) := by decide +kernel
theorem dX8_sees_42 : decode cX8_sees 42 = .ok (.iload_n 1, 1) := by decide +kernel
theorem dX8_sees_43 : decode cX8_sees 43 = .ok (.ireturn, 1) := by decide +kernel
set_option maxRecDepth 20000 in
theorem ggX8_wedsAll_X8_canWed : GoodIn wsX8_wedsAll wsX8_canWed := goodIn_r _ [6, 7, 8, 9, 10, 5, 11, 12, 13, 63, 64, 65, 66, 67, 68, 69, 70, 71, 72, 73, 74, 75, 76, 77, 78, 79, 80, 81, 82, 83, 84, 85, 86, 87, 88, 89, 90, 91] (by decide +kernel) (by decide +kernel)
set_option maxRecDepth 20000 in
theorem gX8_wedsAll_X8_canWed : GoodIn wsX8_wedsAll (wsV RX8 136 RX8 yX8_canWed wsX8_canWed) := goodIn_app (goodIn_of _ (by decide +kernel)) ggX8_wedsAll_X8_canWed
set_option maxRecDepth 20000 in
theorem ggX8_wedsAll_X8_weds : GoodIn wsX8_wedsAll wsX8_weds := goodIn_r _ [17, 18, 13, 7, 19, 20, 21, 5, 22, 23, 24, 25, 26, 27, 28, 29, 30, 31, 32, 12, 33, 34, 35, 36, 37, 38, 39, 40, 41, 42, 43, 44, 45, 46, 47, 48, 49, 50, 51, 52, 53, 54, 55, 56, 57, 58, 59, 60, 61, 62, 8, 9, 10, 11, 63, 64, 65, 66, 67, 68, 69, 70, 71, 72, 73, 74, 75, 76, 77, 78, 79, 80, 81, 82, 83, 84, 85, 86, 87, 88, 89, 90, 91] (by decide +kernel) (by decide +kernel)
set_option maxRecDepth 20000 in
theorem gX8_wedsAll_X8_weds : GoodIn wsX8_wedsAll (wsV RX8 139 RX8 yX8_weds wsX8_weds) := goodIn_app (goodIn_of _ (by decide +kernel)) ggX8_wedsAll_X8_weds
theorem dX8_wedsAll_0 : decode cX8_wedsAll 0 = .ok (.iconst 0, 1) := by decide +kernel
theorem dX8_wedsAll_1 : decode cX8_wedsAll 1 = .ok (.istore_n 1, 1) := by decide +kernel
theorem dX8_wedsAll_2 : decode cX8_wedsAll 2 = .ok (.iconst 0, 1) := by decide +kernel
theorem dX8_wedsAll_3 : decode cX8_wedsAll 3 = .ok (.istore_n 2, 1) := by decide +kernel
theorem dX8_wedsAll_4 : decode cX8_wedsAll 4 = .ok (.iload_n 2, 1) := by decide +kernel
theorem dX8_wedsAll_5 : decode cX8_wedsAll 5 = .ok (.aload_n 0, 1) := by decide +kernel
theorem dX8_wedsAll_6 : decode cX8_wedsAll 6 = .ok (.getfield 76, 3) := by decide +kernel
theorem dX8_wedsAll_9 : decode cX8_wedsAll 9 = .ok (.if_icmp .ge 36, 3) := by decide +kernel
theorem dX8_wedsAll_12 : decode cX8_wedsAll 12 = .ok (.aload_n 0, 1) := by decide +kernel
theorem dX8_wedsAll_13 : decode cX8_wedsAll 13 = .ok (.iload_n 2, 1) := by decide +kernel
theorem dX8_wedsAll_14 : decode cX8_wedsAll 14 = .ok (.invokevirtual 136, 3) := by decide +kernel
theorem dX8_wedsAll_17 : decode cX8_wedsAll 17 = .ok (.ifCond .eq 22, 3) := by decide +kernel
theorem dX8_wedsAll_20 : decode cX8_wedsAll 20 = .ok (.iload_n 1, 1) := by decide +kernel
theorem dX8_wedsAll_21 : decode cX8_wedsAll 21 = .ok (.aload_n 0, 1) := by decide +kernel
theorem dX8_wedsAll_22 : decode cX8_wedsAll 22 = .ok (.iload_n 2, 1) := by decide +kernel
theorem dX8_wedsAll_23 : decode cX8_wedsAll 23 = .ok (.invokevirtual 139, 3) := by decide +kernel
theorem dX8_wedsAll_26 : decode cX8_wedsAll 26 = .ok (.bipush 100, 2) := by decide +kernel
theorem dX8_wedsAll_28 : decode cX8_wedsAll 28 = .ok (.if_icmp .lt 8, 3) := by decide +kernel
theorem dX8_wedsAll_31 : decode cX8_wedsAll 31 = .ok (.bipush 100, 2) := by decide +kernel
theorem dX8_wedsAll_33 : decode cX8_wedsAll 33 = .ok (.goto 4, 3) := by decide +kernel
theorem dX8_wedsAll_36 : decode cX8_wedsAll 36 = .ok (.iconst 1, 1) := by decide +kernel
theorem dX8_wedsAll_37 : decode cX8_wedsAll 37 = .ok (.iadd, 1) := by decide +kernel
theorem dX8_wedsAll_38 : decode cX8_wedsAll 38 = .ok (.istore_n 1, 1) := by decide +kernel
theorem dX8_wedsAll_39 : decode cX8_wedsAll 39 = .ok (.iinc 2 1, 3) := by decide +kernel
theorem dX8_wedsAll_42 : decode cX8_wedsAll 42 = .ok (.goto (-38), 3) := by decide +kernel
theorem dX8_wedsAll_45 : decode cX8_wedsAll 45 = .ok (.iload_n 1, 1) := by decide +kernel
theorem dX8_wedsAll_46 : decode cX8_wedsAll 46 = .ok (.ireturn, 1) := by decide +kernel
set_option maxRecDepth 20000 in
theorem ggX8_order_X8_isIn : GoodIn wsX8_order wsX8_isIn := goodIn_r _ [4] (by decide +kernel) (by decide +kernel)
set_option maxRecDepth 20000 in
theorem gX8_order_X8_isIn : GoodIn wsX8_order (va_wsS RX8 97 yX8_isIn wsX8_isIn) := goodIn_app (goodIn_of _ (by decide +kernel)) ggX8_order_X8_isIn
set_option maxRecDepth 20000 in
theorem ggX8_order_X8_no : GoodIn wsX8_order wsX8_no := goodIn_r _ [8, 9, 98, 99, 100, 101, 102, 103, 104, 105, 106, 107, 108, 109, 110, 111, 112, 113, 114, 115, 116, 117, 118, 119, 120, 121, 122, 123, 124, 125, 126] (by decide +kernel) (by decide +kernel)
set_option maxRecDepth 20000 in
theorem gX8_order_X8_no : GoodIn wsX8_order (wsV RX8 86 RX8 yX8_no wsX8_no) := goodIn_app (goodIn_of _ (by decide +kernel)) ggX8_order_X8_no
set_option maxRecDepth 20000 in
theorem ggX8_order_X8_thinks : GoodIn wsX8_order wsX8_thinks := goodIn_r _ [13, 14, 15, 16, 3, 17, 18, 19, 20, 21, 22, 23, 24, 25, 26, 27, 28, 29, 30, 31, 32, 33, 34, 35, 36, 37, 38, 39, 40, 98, 99, 100, 101, 102, 103, 104, 105, 106, 107, 108, 109, 110, 111, 112, 113, 114, 115, 116, 117, 118, 119, 120, 121, 122, 123, 124, 125, 126] (by decide +kernel) (by decide +kernel)
set_option maxRecDepth 20000 in
theorem gX8_order_X8_thinks : GoodIn wsX8_order (wsV RX8 208 RX8 yX8_thinks wsX8_thinks) := goodIn_app (goodIn_of _ (by decide +kernel)) ggX8_order_X8_thinks
set_option maxRecDepth 20000 in
theorem ggX8_order_X8_wedsAll : GoodIn wsX8_order wsX8_wedsAll := goodIn_r _ [44, 30, 45, 46, 47, 3, 48, 28, 49, 50, 51, 52, 29, 23, 53, 54, 55, 56, 27, 57, 58, 59, 60, 61, 62, 63, 64, 25, 26, 65, 66, 67, 68, 69, 70, 71, 72, 22, 21, 31, 20, 73, 74, 75, 76, 77, 78, 79, 80, 81, 82, 83, 84, 85, 86, 87, 88, 89, 24, 90, 91, 92, 93, 98, 99, 100, 101, 102, 103, 104, 105, 106, 107, 108, 109, 110, 111, 112, 113, 114, 115, 116, 117, 118, 119, 120, 121, 122, 123, 124, 125, 126] (by decide +kernel) (by decide +kernel)
set_option maxRecDepth 20000 in
theorem gX8_order_X8_wedsAll : GoodIn wsX8_order (wsV RX8 247 RX8 yX8_wedsAll wsX8_wedsAll) := goodIn_app (goodIn_of _ (by decide +kernel)) ggX8_order_X8_wedsAll
set_option maxRecDepth 20000 in
theorem ggX8_order_X8_forgets : GoodIn wsX8_order wsX8_forgets := goodIn_r _ [97, 14, 15, 16, 3, 17, 18, 19, 20, 21, 22, 23, 24, 25, 26, 27, 28, 29, 30, 31, 32, 33, 34, 35, 36, 37, 38, 39, 40, 98, 99, 100, 101, 102, 103, 104, 105, 106, 107, 108, 109, 110, 111, 112, 113, 114, 115, 116, 117, 118, 119, 120, 121, 122, 123, 124, 125, 126] (by decide +kernel) (by decide +kernel)
set_option maxRecDepth 20000 in
theorem gX8_order_X8_forgets : GoodIn wsX8_order (wsV RX8 211 RX8 yX8_forgets wsX8_forgets) := goodIn_app (goodIn_of _ (by decide +kernel)) ggX8_order_X8_forgets
theorem dX8_order_0 : decode cX8_order 0 = .ok (.iload_n 1, 1) := by decide +kernel
theorem dX8_order_1 : decode cX8_order 1 = .ok (.iconst 0, 1) := by decide +kernel
theorem dX8_order_2 : decode cX8_order 2 = .ok (.iconst 1, 1) := by decide +kernel
theorem dX8_order_3 : decode cX8_order 3 = .ok (.invokestatic 97, 3) := by decide +kernel
theorem dX8_order_6 : decode cX8_order 6 = .ok (.ifCond .ne 10, 3) := by decide +kernel
theorem dX8_order_9 : decode cX8_order 9 = .ok (.aload_n 0, 1) := by decide +kernel
theorem dX8_order_10 : decode cX8_order 10 = .ok (.bipush (-2), 2) := by decide +kernel
theorem dX8_order_12 : decode cX8_order 12 = .ok (.invokevirtual 86, 3) := by decide +kernel
theorem dX8_order_15 : decode cX8_order 15 = .ok (.ireturn, 1) := by decide +kernel
theorem dX8_order_16 : decode cX8_order 16 = .ok (.aload_n 0, 1) := by decide +kernel
theorem dX8_order_17 : decode cX8_order 17 = .ok (.invokevirtual 208, 3) := by decide +kernel
theorem dX8_order_20 : decode cX8_order 20 = .ok (.aload_n 0, 1) := by decide +kernel
theorem dX8_order_21 : decode cX8_order 21 = .ok (.invokevirtual 247, 3) := by decide +kernel
theorem dX8_order_24 : decode cX8_order 24 = .ok (.istore_n 2, 1) := by decide +kernel
theorem dX8_order_25 : decode cX8_order 25 = .ok (.aload_n 0, 1) := by decide +kernel
theorem dX8_order_26 : decode cX8_order 26 = .ok (.invokevirtual 211, 3) := by decide +kernel
theorem dX8_order_29 : decode cX8_order 29 = .ok (.iload_n 1, 1) := by decide +kernel
theorem dX8_order_30 : decode cX8_order 30 = .ok (.ifCond .ne 10, 3) := by decide +kernel
theorem dX8_order_33 : decode cX8_order 33 = .ok (.iload_n 2, 1) := by decide +kernel
theorem dX8_order_34 : decode cX8_order 34 = .ok (.bipush 100, 2) := by decide +kernel
theorem dX8_order_36 : decode cX8_order 36 = .ok (.idiv, 1) := by decide +kernel
theorem dX8_order_37 : decode cX8_order 37 = .ok (.goto 7, 3) := by decide +kernel
theorem dX8_order_40 : decode cX8_order 40 = .ok (.iload_n 2, 1) := by decide +kernel
theorem dX8_order_41 : decode cX8_order 41 = .ok (.bipush 100, 2) := by decide +kernel
theorem dX8_order_43 : decode cX8_order 43 = .ok (.irem, 1) := by decide +kernel
theorem dX8_order_44 : decode cX8_order 44 = .ok (.ireturn, 1) := by decide +kernel
set_option maxRecDepth 20000 in
theorem ggX8_lies_X8_showsOf : GoodIn wsX8_lies wsX8_showsOf := goodIn_r _ [8, 3, 9, 10, 11, 12, 13, 14, 7, 15, 19, 20, 21, 22, 23, 24, 25, 26, 27, 28, 29, 30, 31, 32, 33, 34, 35, 36, 37, 38, 39, 40, 41, 42, 43, 44, 45, 46, 47] (by decide +kernel) (by decide +kernel)
set_option maxRecDepth 20000 in
theorem gX8_lies_X8_showsOf : GoodIn wsX8_lies (wsV RX8 176 RX8 yX8_showsOf wsX8_showsOf) := goodIn_app (goodIn_of _ (by decide +kernel)) ggX8_lies_X8_showsOf
set_option maxRecDepth 20000 in
theorem ggX8_lies_X8_bits : GoodIn wsX8_lies wsX8_bits := goodIn_r _ [18] (by decide +kernel) (by decide +kernel)
set_option maxRecDepth 20000 in
theorem gX8_lies_X8_bits : GoodIn wsX8_lies (va_wsS RX8 186 yX8_bits wsX8_bits) := goodIn_app (goodIn_of _ (by decide +kernel)) ggX8_lies_X8_bits
theorem dX8_lies_0 : decode cX8_lies 0 = .ok (.iconst 0, 1) := by decide +kernel
theorem dX8_lies_1 : decode cX8_lies 1 = .ok (.istore_n 1, 1) := by decide +kernel
theorem dX8_lies_2 : decode cX8_lies 2 = .ok (.iconst 0, 1) := by decide +kernel
theorem dX8_lies_3 : decode cX8_lies 3 = .ok (.istore_n 2, 1) := by decide +kernel
theorem dX8_lies_4 : decode cX8_lies 4 = .ok (.iload_n 2, 1) := by decide +kernel
theorem dX8_lies_5 : decode cX8_lies 5 = .ok (.aload_n 0, 1) := by decide +kernel
theorem dX8_lies_6 : decode cX8_lies 6 = .ok (.getfield 66, 3) := by decide +kernel
theorem dX8_lies_9 : decode cX8_lies 9 = .ok (.if_icmp .ge 40, 3) := by decide +kernel
theorem dX8_lies_12 : decode cX8_lies 12 = .ok (.iload_n 1, 1) := by decide +kernel
theorem dX8_lies_13 : decode cX8_lies 13 = .ok (.aload_n 0, 1) := by decide +kernel
theorem dX8_lies_14 : decode cX8_lies 14 = .ok (.getfield 22, 3) := by decide +kernel
theorem dX8_lies_17 : decode cX8_lies 17 = .ok (.iload_n 2, 1) := by decide +kernel
theorem dX8_lies_18 : decode cX8_lies 18 = .ok (.iaload, 1) := by decide +kernel
theorem dX8_lies_19 : decode cX8_lies 19 = .ok (.ifCond .ne 21, 3) := by decide +kernel
theorem dX8_lies_22 : decode cX8_lies 22 = .ok (.aload_n 0, 1) := by decide +kernel
theorem dX8_lies_23 : decode cX8_lies 23 = .ok (.iload_n 2, 1) := by decide +kernel
theorem dX8_lies_24 : decode cX8_lies 24 = .ok (.invokevirtual 176, 3) := by decide +kernel
theorem dX8_lies_27 : decode cX8_lies 27 = .ok (.aload_n 0, 1) := by decide +kernel
theorem dX8_lies_28 : decode cX8_lies 28 = .ok (.getfield 19, 3) := by decide +kernel
theorem dX8_lies_31 : decode cX8_lies 31 = .ok (.iload_n 2, 1) := by decide +kernel
theorem dX8_lies_32 : decode cX8_lies 32 = .ok (.iaload, 1) := by decide +kernel
theorem dX8_lies_33 : decode cX8_lies 33 = .ok (.ixor, 1) := by decide +kernel
theorem dX8_lies_34 : decode cX8_lies 34 = .ok (.invokestatic 186, 3) := by decide +kernel
theorem dX8_lies_37 : decode cX8_lies 37 = .ok (.goto 4, 3) := by decide +kernel
theorem dX8_lies_40 : decode cX8_lies 40 = .ok (.iconst 0, 1) := by decide +kernel
theorem dX8_lies_41 : decode cX8_lies 41 = .ok (.iadd, 1) := by decide +kernel
theorem dX8_lies_42 : decode cX8_lies 42 = .ok (.istore_n 1, 1) := by decide +kernel
theorem dX8_lies_43 : decode cX8_lies 43 = .ok (.iinc 2 1, 3) := by decide +kernel
theorem dX8_lies_46 : decode cX8_lies 46 = .ok (.goto (-42), 3) := by decide +kernel
theorem dX8_lies_49 : decode cX8_lies 49 = .ok (.iload_n 1, 1) := by decide +kernel
theorem dX8_lies_50 : decode cX8_lies 50 = .ok (.ireturn, 1) := by decide +kernel
set_option maxRecDepth 20000 in
theorem ggX8_rightly_X8_isBride : GoodIn wsX8_rightly wsX8_isBride := goodIn_r _ [8, 9, 18, 19, 20, 21, 22, 23, 24, 25, 26, 27, 28, 29, 30, 31, 32, 33, 34, 35, 36, 37, 38, 39, 40, 41, 42, 43, 44, 45, 46] (by decide +kernel) (by decide +kernel)
set_option maxRecDepth 20000 in
theorem gX8_rightly_X8_isBride : GoodIn wsX8_rightly (wsV RX8 130 RX8 yX8_isBride wsX8_isBride) := goodIn_app (goodIn_of _ (by decide +kernel)) ggX8_rightly_X8_isBride
set_option maxRecDepth 20000 in
theorem ggX8_rightly_X8_no : GoodIn wsX8_rightly wsX8_no := goodIn_r _ [13, 14, 18, 19, 20, 21, 22, 23, 24, 25, 26, 27, 28, 29, 30, 31, 32, 33, 34, 35, 36, 37, 38, 39, 40, 41, 42, 43, 44, 45, 46] (by decide +kernel) (by decide +kernel)
set_option maxRecDepth 20000 in
theorem gX8_rightly_X8_no : GoodIn wsX8_rightly (wsV RX8 86 RX8 yX8_no wsX8_no) := goodIn_app (goodIn_of _ (by decide +kernel)) ggX8_rightly_X8_no
set_option maxRecDepth 20000 in
theorem ggX8_rightly_X8_has : GoodIn wsX8_rightly wsX8_has := goodIn_r _ [17] (by decide +kernel) (by decide +kernel)
set_option maxRecDepth 20000 in
theorem gX8_rightly_X8_has : GoodIn wsX8_rightly (va_wsS RX8 72 yX8_has wsX8_has) := goodIn_app (goodIn_of _ (by decide +kernel)) ggX8_rightly_X8_has
theorem dX8_rightly_0 : decode cX8_rightly 0 = .ok (.aload_n 0, 1) := by decide +kernel
theorem dX8_rightly_1 : decode cX8_rightly 1 = .ok (.iload_n 1, 1) := by decide +kernel
theorem dX8_rightly_2 : decode cX8_rightly 2 = .ok (.invokevirtual 130, 3) := by decide +kernel
theorem dX8_rightly_5 : decode cX8_rightly 5 = .ok (.ifCond .ne 9, 3) := by decide +kernel
theorem dX8_rightly_8 : decode cX8_rightly 8 = .ok (.aload_n 0, 1) := by decide +kernel
theorem dX8_rightly_9 : decode cX8_rightly 9 = .ok (.iconst (-1), 1) := by decide +kernel
theorem dX8_rightly_10 : decode cX8_rightly 10 = .ok (.invokevirtual 86, 3) := by decide +kernel
theorem dX8_rightly_13 : decode cX8_rightly 13 = .ok (.ireturn, 1) := by decide +kernel
theorem dX8_rightly_14 : decode cX8_rightly 14 = .ok (.iconst 0, 1) := by decide +kernel
theorem dX8_rightly_15 : decode cX8_rightly 15 = .ok (.istore_n 2, 1) := by decide +kernel
theorem dX8_rightly_16 : decode cX8_rightly 16 = .ok (.iconst 0, 1) := by decide +kernel
theorem dX8_rightly_17 : decode cX8_rightly 17 = .ok (.istore_n 3, 1) := by decide +kernel
theorem dX8_rightly_18 : decode cX8_rightly 18 = .ok (.iload_n 3, 1) := by decide +kernel
theorem dX8_rightly_19 : decode cX8_rightly 19 = .ok (.aload_n 0, 1) := by decide +kernel
theorem dX8_rightly_20 : decode cX8_rightly 20 = .ok (.getfield 250, 3) := by decide +kernel
theorem dX8_rightly_23 : decode cX8_rightly 23 = .ok (.if_icmp .ge 46, 3) := by decide +kernel
theorem dX8_rightly_26 : decode cX8_rightly 26 = .ok (.iload_n 2, 1) := by decide +kernel
theorem dX8_rightly_27 : decode cX8_rightly 27 = .ok (.aload_n 0, 1) := by decide +kernel
theorem dX8_rightly_28 : decode cX8_rightly 28 = .ok (.getfield 60, 3) := by decide +kernel
theorem dX8_rightly_31 : decode cX8_rightly 31 = .ok (.iload_n 3, 1) := by decide +kernel
theorem dX8_rightly_32 : decode cX8_rightly 32 = .ok (.iaload, 1) := by decide +kernel
theorem dX8_rightly_33 : decode cX8_rightly 33 = .ok (.bipush 6, 2) := by decide +kernel
theorem dX8_rightly_35 : decode cX8_rightly 35 = .ok (.if_icmp .ge 25, 3) := by decide +kernel
theorem dX8_rightly_38 : decode cX8_rightly 38 = .ok (.aload_n 0, 1) := by decide +kernel
theorem dX8_rightly_39 : decode cX8_rightly 39 = .ok (.getfield 19, 3) := by decide +kernel
theorem dX8_rightly_42 : decode cX8_rightly 42 = .ok (.iload_n 1, 1) := by decide +kernel
theorem dX8_rightly_43 : decode cX8_rightly 43 = .ok (.iaload, 1) := by decide +kernel
theorem dX8_rightly_44 : decode cX8_rightly 44 = .ok (.aload_n 0, 1) := by decide +kernel
theorem dX8_rightly_45 : decode cX8_rightly 45 = .ok (.getfield 60, 3) := by decide +kernel
theorem dX8_rightly_48 : decode cX8_rightly 48 = .ok (.iload_n 3, 1) := by decide +kernel
theorem dX8_rightly_49 : decode cX8_rightly 49 = .ok (.iaload, 1) := by decide +kernel
theorem dX8_rightly_50 : decode cX8_rightly 50 = .ok (.invokestatic 72, 3) := by decide +kernel
theorem dX8_rightly_53 : decode cX8_rightly 53 = .ok (.ifCond .eq 7, 3) := by decide +kernel
theorem dX8_rightly_56 : decode cX8_rightly 56 = .ok (.iconst 1, 1) := by decide +kernel
theorem dX8_rightly_57 : decode cX8_rightly 57 = .ok (.goto 4, 3) := by decide +kernel
theorem dX8_rightly_60 : decode cX8_rightly 60 = .ok (.iconst 0, 1) := by decide +kernel
theorem dX8_rightly_61 : decode cX8_rightly 61 = .ok (.iadd, 1) := by decide +kernel
theorem dX8_rightly_62 : decode cX8_rightly 62 = .ok (.istore_n 2, 1) := by decide +kernel
theorem dX8_rightly_63 : decode cX8_rightly 63 = .ok (.iinc 3 1, 3) := by decide +kernel
theorem dX8_rightly_66 : decode cX8_rightly 66 = .ok (.goto (-48), 3) := by decide +kernel
theorem dX8_rightly_69 : decode cX8_rightly 69 = .ok (.iload_n 2, 1) := by decide +kernel
theorem dX8_rightly_70 : decode cX8_rightly 70 = .ok (.ireturn, 1) := by decide +kernel
set_option maxRecDepth 20000 in
theorem ggX8_row_X8_bound : GoodIn wsX8_row wsX8_bound := goodIn_r _ [6] (by decide +kernel) (by decide +kernel)
set_option maxRecDepth 20000 in
theorem gX8_row_X8_bound : GoodIn wsX8_row (va_wsS RX8 79 yX8_bound wsX8_bound) := goodIn_app (goodIn_of _ (by decide +kernel)) ggX8_row_X8_bound
set_option maxRecDepth 20000 in
theorem ggX8_row_X8_no : GoodIn wsX8_row wsX8_no := goodIn_r _ [10, 11, 12, 13, 14, 15, 16, 17, 18, 19, 20, 21, 22, 23, 24, 25, 26, 27, 28, 29, 30, 31, 32, 33, 34, 35, 36, 37, 38, 39, 40] (by decide +kernel) (by decide +kernel)
set_option maxRecDepth 20000 in
theorem gX8_row_X8_no : GoodIn wsX8_row (wsV RX8 86 RX8 yX8_no wsX8_no) := goodIn_app (goodIn_of _ (by decide +kernel)) ggX8_row_X8_no
theorem dX8_row_0 : decode cX8_row 0 = .ok (.iload_n 1, 1) := by decide +kernel
theorem dX8_row_1 : decode cX8_row 1 = .ok (.iconst 0, 1) := by decide +kernel
theorem dX8_row_2 : decode cX8_row 2 = .ok (.bipush 99, 2) := by decide +kernel
theorem dX8_row_4 : decode cX8_row 4 = .ok (.invokestatic 79, 3) := by decide +kernel
theorem dX8_row_7 : decode cX8_row 7 = .ok (.istore_n 2, 1) := by decide +kernel
theorem dX8_row_8 : decode cX8_row 8 = .ok (.iload_n 2, 1) := by decide +kernel
theorem dX8_row_9 : decode cX8_row 9 = .ok (.ifCond .ne 15, 3) := by decide +kernel
theorem dX8_row_12 : decode cX8_row 12 = .ok (.aload_n 0, 1) := by decide +kernel
theorem dX8_row_13 : decode cX8_row 13 = .ok (.getfield 250, 3) := by decide +kernel
theorem dX8_row_16 : decode cX8_row 16 = .ok (.bipush 16, 2) := by decide +kernel
theorem dX8_row_18 : decode cX8_row 18 = .ok (.if_icmp .ne 6, 3) := by decide +kernel
theorem dX8_row_21 : decode cX8_row 21 = .ok (.bipush (-6), 2) := by decide +kernel
theorem dX8_row_23 : decode cX8_row 23 = .ok (.istore_n 2, 1) := by decide +kernel
theorem dX8_row_24 : decode cX8_row 24 = .ok (.iload_n 2, 1) := by decide +kernel
theorem dX8_row_25 : decode cX8_row 25 = .ok (.ifCond .eq 9, 3) := by decide +kernel
theorem dX8_row_28 : decode cX8_row 28 = .ok (.aload_n 0, 1) := by decide +kernel
theorem dX8_row_29 : decode cX8_row 29 = .ok (.iload_n 2, 1) := by decide +kernel
theorem dX8_row_30 : decode cX8_row 30 = .ok (.invokevirtual 86, 3) := by decide +kernel
theorem dX8_row_33 : decode cX8_row 33 = .ok (.ireturn, 1) := by decide +kernel
theorem dX8_row_34 : decode cX8_row 34 = .ok (.aload_n 0, 1) := by decide +kernel
theorem dX8_row_35 : decode cX8_row 35 = .ok (.getfield 60, 3) := by decide +kernel
theorem dX8_row_38 : decode cX8_row 38 = .ok (.aload_n 0, 1) := by decide +kernel
theorem dX8_row_39 : decode cX8_row 39 = .ok (.getfield 250, 3) := by decide +kernel
theorem dX8_row_42 : decode cX8_row 42 = .ok (.iload_n 1, 1) := by decide +kernel
theorem dX8_row_43 : decode cX8_row 43 = .ok (.iastore, 1) := by decide +kernel
theorem dX8_row_44 : decode cX8_row 44 = .ok (.aload_n 0, 1) := by decide +kernel
theorem dX8_row_45 : decode cX8_row 45 = .ok (.dup, 1) := by decide +kernel
theorem dX8_row_46 : decode cX8_row 46 = .ok (.getfield 250, 3) := by decide +kernel
theorem dX8_row_49 : decode cX8_row 49 = .ok (.iconst 1, 1) := by decide +kernel
theorem dX8_row_50 : decode cX8_row 50 = .ok (.iadd, 1) := by decide +kernel
theorem dX8_row_51 : decode cX8_row 51 = .ok (.putfield 250, 3) := by decide +kernel
theorem dX8_row_54 : decode cX8_row 54 = .ok (.aload_n 0, 1) := by decide +kernel
theorem dX8_row_55 : decode cX8_row 55 = .ok (.getfield 250, 3) := by decide +kernel
theorem dX8_row_58 : decode cX8_row 58 = .ok (.ireturn, 1) := by decide +kernel
set_option maxRecDepth 20000 in
theorem ggX8_judge_X8_guesses : GoodIn wsX8_judge wsX8_guesses := goodIn_r _ [8, 9, 10, 11, 12, 13, 7, 14, 15, 16, 17, 18, 19, 20, 21, 22, 23, 24, 25, 26, 27, 28, 32, 33, 34, 35, 36, 37, 38, 39, 40, 41, 42, 43, 44, 45, 46, 47, 48, 49, 50, 51, 52, 53, 54, 55, 56, 57, 58, 59, 60] (by decide +kernel) (by decide +kernel)
set_option maxRecDepth 20000 in
theorem gX8_judge_X8_guesses : GoodIn wsX8_judge (wsV RX8 183 RX8 yX8_guesses wsX8_guesses) := goodIn_app (goodIn_of _ (by decide +kernel)) ggX8_judge_X8_guesses
set_option maxRecDepth 20000 in
theorem ggX8_judge_X8_bits : GoodIn wsX8_judge wsX8_bits := goodIn_r _ [31] (by decide +kernel) (by decide +kernel)
set_option maxRecDepth 20000 in
theorem gX8_judge_X8_bits : GoodIn wsX8_judge (va_wsS RX8 186 yX8_bits wsX8_bits) := goodIn_app (goodIn_of _ (by decide +kernel)) ggX8_judge_X8_bits
theorem dX8_judge_0 : decode cX8_judge 0 = .ok (.aload_n 0, 1) := by decide +kernel
theorem dX8_judge_1 : decode cX8_judge 1 = .ok (.getfield 250, 3) := by decide +kernel
theorem dX8_judge_4 : decode cX8_judge 4 = .ok (.istore_n 1, 1) := by decide +kernel
theorem dX8_judge_5 : decode cX8_judge 5 = .ok (.aload_n 0, 1) := by decide +kernel
theorem dX8_judge_6 : decode cX8_judge 6 = .ok (.iconst 0, 1) := by decide +kernel
theorem dX8_judge_7 : decode cX8_judge 7 = .ok (.putfield 250, 3) := by decide +kernel
theorem dX8_judge_10 : decode cX8_judge 10 = .ok (.iconst 0, 1) := by decide +kernel
theorem dX8_judge_11 : decode cX8_judge 11 = .ok (.istore_n 2, 1) := by decide +kernel
theorem dX8_judge_12 : decode cX8_judge 12 = .ok (.iload_n 2, 1) := by decide +kernel
theorem dX8_judge_13 : decode cX8_judge 13 = .ok (.iload_n 1, 1) := by decide +kernel
theorem dX8_judge_14 : decode cX8_judge 14 = .ok (.if_icmp .ge 36, 3) := by decide +kernel
theorem dX8_judge_17 : decode cX8_judge 17 = .ok (.iload_n 2, 1) := by decide +kernel
theorem dX8_judge_18 : decode cX8_judge 18 = .ok (.aload_n 0, 1) := by decide +kernel
theorem dX8_judge_19 : decode cX8_judge 19 = .ok (.getfield 76, 3) := by decide +kernel
theorem dX8_judge_22 : decode cX8_judge 22 = .ok (.if_icmp .ge 20, 3) := by decide +kernel
theorem dX8_judge_25 : decode cX8_judge 25 = .ok (.aload_n 0, 1) := by decide +kernel
theorem dX8_judge_26 : decode cX8_judge 26 = .ok (.iload_n 2, 1) := by decide +kernel
theorem dX8_judge_27 : decode cX8_judge 27 = .ok (.invokevirtual 183, 3) := by decide +kernel
theorem dX8_judge_30 : decode cX8_judge 30 = .ok (.invokestatic 186, 3) := by decide +kernel
theorem dX8_judge_33 : decode cX8_judge 33 = .ok (.aload_n 0, 1) := by decide +kernel
theorem dX8_judge_34 : decode cX8_judge 34 = .ok (.getfield 60, 3) := by decide +kernel
theorem dX8_judge_37 : decode cX8_judge 37 = .ok (.iload_n 2, 1) := by decide +kernel
theorem dX8_judge_38 : decode cX8_judge 38 = .ok (.iaload, 1) := by decide +kernel
theorem dX8_judge_39 : decode cX8_judge 39 = .ok (.if_icmp .eq 5, 3) := by decide +kernel
theorem dX8_judge_42 : decode cX8_judge 42 = .ok (.iload_n 2, 1) := by decide +kernel
theorem dX8_judge_43 : decode cX8_judge 43 = .ok (.ireturn, 1) := by decide +kernel
theorem dX8_judge_44 : decode cX8_judge 44 = .ok (.iinc 2 1, 3) := by decide +kernel
theorem dX8_judge_47 : decode cX8_judge 47 = .ok (.goto (-35), 3) := by decide +kernel
theorem dX8_judge_50 : decode cX8_judge 50 = .ok (.bipush (-9), 2) := by decide +kernel
theorem dX8_judge_52 : decode cX8_judge 52 = .ok (.ireturn, 1) := by decide +kernel
theorem dX8_clear_0 : decode cX8_clear 0 = .ok (.aload_n 0, 1) := by decide +kernel
theorem dX8_clear_1 : decode cX8_clear 1 = .ok (.getfield 250, 3) := by decide +kernel
theorem dX8_clear_4 : decode cX8_clear 4 = .ok (.istore_n 1, 1) := by decide +kernel
theorem dX8_clear_5 : decode cX8_clear 5 = .ok (.aload_n 0, 1) := by decide +kernel
theorem dX8_clear_6 : decode cX8_clear 6 = .ok (.iconst 0, 1) := by decide +kernel
theorem dX8_clear_7 : decode cX8_clear 7 = .ok (.putfield 250, 3) := by decide +kernel
theorem dX8_clear_10 : decode cX8_clear 10 = .ok (.iload_n 1, 1) := by decide +kernel
theorem dX8_clear_11 : decode cX8_clear 11 = .ok (.ireturn, 1) := by decide +kernel
set_option maxRecDepth 20000 in
theorem ggX8_costOf_X8_knows : GoodIn wsX8_costOf wsX8_knows := goodIn_r _ [7, 8, 9, 10, 6, 11, 12, 13, 14, 15, 16, 17, 18, 19, 20, 21, 22, 23, 24, 25, 26, 27, 28, 29, 30, 31, 32, 33, 34, 35, 36, 37, 38, 39, 40, 41, 42, 43, 44, 45, 46, 47, 48, 49, 50, 51, 52, 53, 54, 55, 56, 57, 58, 59, 60, 61, 62, 63, 64, 65, 66, 67, 68, 69] (by decide +kernel) (by decide +kernel)
set_option maxRecDepth 20000 in
theorem gX8_costOf_X8_knows : GoodIn wsX8_costOf (wsV RX8 195 RX8 yX8_knows wsX8_knows) := goodIn_app (goodIn_of _ (by decide +kernel)) ggX8_costOf_X8_knows
set_option maxRecDepth 20000 in
theorem ggX8_costOf_X8_guesses : GoodIn wsX8_costOf wsX8_guesses := goodIn_r _ [11, 12, 13, 14, 15, 16, 6, 17, 18, 19, 20, 21, 22, 23, 24, 25, 26, 27, 28, 29, 30, 31, 41, 42, 43, 44, 45, 46, 47, 48, 49, 50, 51, 52, 53, 54, 55, 56, 57, 58, 59, 60, 61, 62, 63, 64, 65, 66, 67, 68, 69] (by decide +kernel) (by decide +kernel)
set_option maxRecDepth 20000 in
theorem gX8_costOf_X8_guesses : GoodIn wsX8_costOf (wsV RX8 183 RX8 yX8_guesses wsX8_guesses) := goodIn_app (goodIn_of _ (by decide +kernel)) ggX8_costOf_X8_guesses
set_option maxRecDepth 20000 in
theorem ggX8_costOf_X8_has : GoodIn wsX8_costOf wsX8_has := goodIn_r _ [40] (by decide +kernel) (by decide +kernel)
set_option maxRecDepth 20000 in
theorem gX8_costOf_X8_has : GoodIn wsX8_costOf (va_wsS RX8 72 yX8_has wsX8_has) := goodIn_app (goodIn_of _ (by decide +kernel)) ggX8_costOf_X8_has
theorem dX8_costOf_0 : decode cX8_costOf 0 = .ok (.iconst 0, 1) := by decide +kernel
theorem dX8_costOf_1 : decode cX8_costOf 1 = .ok (.istore_n 2, 1) := by decide +kernel
theorem dX8_costOf_2 : decode cX8_costOf 2 = .ok (.iconst 0, 1) := by decide +kernel
theorem dX8_costOf_3 : decode cX8_costOf 3 = .ok (.istore_n 3, 1) := by decide +kernel
theorem dX8_costOf_4 : decode cX8_costOf 4 = .ok (.iload_n 3, 1) := by decide +kernel
theorem dX8_costOf_5 : decode cX8_costOf 5 = .ok (.aload_n 0, 1) := by decide +kernel
theorem dX8_costOf_6 : decode cX8_costOf 6 = .ok (.getfield 76, 3) := by decide +kernel
theorem dX8_costOf_9 : decode cX8_costOf 9 = .ok (.if_icmp .ge 58, 3) := by decide +kernel
theorem dX8_costOf_12 : decode cX8_costOf 12 = .ok (.aload_n 0, 1) := by decide +kernel
theorem dX8_costOf_13 : decode cX8_costOf 13 = .ok (.getfield 37, 3) := by decide +kernel
theorem dX8_costOf_16 : decode cX8_costOf 16 = .ok (.iload_n 3, 1) := by decide +kernel
theorem dX8_costOf_17 : decode cX8_costOf 17 = .ok (.iaload, 1) := by decide +kernel
theorem dX8_costOf_18 : decode cX8_costOf 18 = .ok (.iconst 1, 1) := by decide +kernel
theorem dX8_costOf_19 : decode cX8_costOf 19 = .ok (.if_icmp .ne 6, 3) := by decide +kernel
theorem dX8_costOf_22 : decode cX8_costOf 22 = .ok (.goto 39, 3) := by decide +kernel
theorem dX8_costOf_25 : decode cX8_costOf 25 = .ok (.iload_n 2, 1) := by decide +kernel
theorem dX8_costOf_26 : decode cX8_costOf 26 = .ok (.aload_n 0, 1) := by decide +kernel
theorem dX8_costOf_27 : decode cX8_costOf 27 = .ok (.iload_n 3, 1) := by decide +kernel
theorem dX8_costOf_28 : decode cX8_costOf 28 = .ok (.invokevirtual 195, 3) := by decide +kernel
theorem dX8_costOf_31 : decode cX8_costOf 31 = .ok (.iload_n 1, 1) := by decide +kernel
theorem dX8_costOf_32 : decode cX8_costOf 32 = .ok (.if_icmp .ne 8, 3) := by decide +kernel
theorem dX8_costOf_35 : decode cX8_costOf 35 = .ok (.bipush 10, 2) := by decide +kernel
theorem dX8_costOf_37 : decode cX8_costOf 37 = .ok (.goto 4, 3) := by decide +kernel
theorem dX8_costOf_40 : decode cX8_costOf 40 = .ok (.iconst 0, 1) := by decide +kernel
theorem dX8_costOf_41 : decode cX8_costOf 41 = .ok (.aload_n 0, 1) := by decide +kernel
theorem dX8_costOf_42 : decode cX8_costOf 42 = .ok (.iload_n 3, 1) := by decide +kernel
theorem dX8_costOf_43 : decode cX8_costOf 43 = .ok (.invokevirtual 183, 3) := by decide +kernel
theorem dX8_costOf_46 : decode cX8_costOf 46 = .ok (.iload_n 1, 1) := by decide +kernel
theorem dX8_costOf_47 : decode cX8_costOf 47 = .ok (.invokestatic 72, 3) := by decide +kernel
theorem dX8_costOf_50 : decode cX8_costOf 50 = .ok (.ifCond .eq 7, 3) := by decide +kernel
theorem dX8_costOf_53 : decode cX8_costOf 53 = .ok (.iconst 1, 1) := by decide +kernel
theorem dX8_costOf_54 : decode cX8_costOf 54 = .ok (.goto 4, 3) := by decide +kernel
theorem dX8_costOf_57 : decode cX8_costOf 57 = .ok (.iconst 0, 1) := by decide +kernel
theorem dX8_costOf_58 : decode cX8_costOf 58 = .ok (.isub, 1) := by decide +kernel
theorem dX8_costOf_59 : decode cX8_costOf 59 = .ok (.iadd, 1) := by decide +kernel
theorem dX8_costOf_60 : decode cX8_costOf 60 = .ok (.istore_n 2, 1) := by decide +kernel
theorem dX8_costOf_61 : decode cX8_costOf 61 = .ok (.iinc 3 1, 3) := by decide +kernel
theorem dX8_costOf_64 : decode cX8_costOf 64 = .ok (.goto (-60), 3) := by decide +kernel
theorem dX8_costOf_67 : decode cX8_costOf 67 = .ok (.iload_n 2, 1) := by decide +kernel
theorem dX8_costOf_68 : decode cX8_costOf 68 = .ok (.ireturn, 1) := by decide +kernel
set_option maxRecDepth 20000 in
theorem ggX8_findCosts_X8_costOf : GoodIn wsX8_findCosts wsX8_costOf := goodIn_r _ [7, 8, 9, 10, 11, 12, 6, 13, 14, 15, 16, 17, 18, 19, 20, 21, 22, 23, 24, 25, 26, 27, 28, 29, 1, 30, 31, 32, 33, 34, 35, 36, 37, 38, 39, 40, 41, 42, 43, 44, 45, 46, 47, 48, 49, 50, 51, 52, 53, 54, 55, 56, 57, 58, 59, 60, 61, 62, 63, 64, 65, 66, 67, 68, 69, 70, 71, 72, 73, 74] (by decide +kernel) (by decide +kernel)
set_option maxRecDepth 20000 in
theorem gX8_findCosts_X8_costOf : GoodIn wsX8_findCosts (wsV RX8 253 RX8 yX8_costOf wsX8_costOf) := goodIn_app (goodIn_of _ (by decide +kernel)) ggX8_findCosts_X8_costOf
theorem dX8_findCosts_0 : decode cX8_findCosts 0 = .ok (.iconst 0, 1) := by decide +kernel
theorem dX8_findCosts_1 : decode cX8_findCosts 1 = .ok (.istore_n 3, 1) := by decide +kernel
theorem dX8_findCosts_2 : decode cX8_findCosts 2 = .ok (.iload_n 3, 1) := by decide +kernel
theorem dX8_findCosts_3 : decode cX8_findCosts 3 = .ok (.iconst 4, 1) := by decide +kernel
theorem dX8_findCosts_4 : decode cX8_findCosts 4 = .ok (.if_icmp .ge 85, 3) := by decide +kernel
theorem dX8_findCosts_7 : decode cX8_findCosts 7 = .ok (.aload_n 0, 1) := by decide +kernel
theorem dX8_findCosts_8 : decode cX8_findCosts 8 = .ok (.getfield 19, 3) := by decide +kernel
theorem dX8_findCosts_11 : decode cX8_findCosts 11 = .ok (.iload_n 1, 1) := by decide +kernel
theorem dX8_findCosts_12 : decode cX8_findCosts 12 = .ok (.dup2, 1) := by decide +kernel
theorem dX8_findCosts_13 : decode cX8_findCosts 13 = .ok (.iaload, 1) := by decide +kernel
theorem dX8_findCosts_14 : decode cX8_findCosts 14 = .ok (.iload_n 3, 1) := by decide +kernel
theorem dX8_findCosts_15 : decode cX8_findCosts 15 = .ok (.iconst 2, 1) := by decide +kernel
theorem dX8_findCosts_16 : decode cX8_findCosts 16 = .ok (.idiv, 1) := by decide +kernel
theorem dX8_findCosts_17 : decode cX8_findCosts 17 = .ok (.ixor, 1) := by decide +kernel
theorem dX8_findCosts_18 : decode cX8_findCosts 18 = .ok (.iastore, 1) := by decide +kernel
theorem dX8_findCosts_19 : decode cX8_findCosts 19 = .ok (.aload_n 0, 1) := by decide +kernel
theorem dX8_findCosts_20 : decode cX8_findCosts 20 = .ok (.getfield 19, 3) := by decide +kernel
theorem dX8_findCosts_23 : decode cX8_findCosts 23 = .ok (.iload_n 2, 1) := by decide +kernel
theorem dX8_findCosts_24 : decode cX8_findCosts 24 = .ok (.dup2, 1) := by decide +kernel
theorem dX8_findCosts_25 : decode cX8_findCosts 25 = .ok (.iaload, 1) := by decide +kernel
theorem dX8_findCosts_26 : decode cX8_findCosts 26 = .ok (.iload_n 3, 1) := by decide +kernel
theorem dX8_findCosts_27 : decode cX8_findCosts 27 = .ok (.iconst 2, 1) := by decide +kernel
theorem dX8_findCosts_28 : decode cX8_findCosts 28 = .ok (.irem, 1) := by decide +kernel
theorem dX8_findCosts_29 : decode cX8_findCosts 29 = .ok (.ixor, 1) := by decide +kernel
theorem dX8_findCosts_30 : decode cX8_findCosts 30 = .ok (.iastore, 1) := by decide +kernel
theorem dX8_findCosts_31 : decode cX8_findCosts 31 = .ok (.aload_n 0, 1) := by decide +kernel
theorem dX8_findCosts_32 : decode cX8_findCosts 32 = .ok (.getfield 63, 3) := by decide +kernel
theorem dX8_findCosts_35 : decode cX8_findCosts 35 = .ok (.iconst 2, 1) := by decide +kernel
theorem dX8_findCosts_36 : decode cX8_findCosts 36 = .ok (.iload_n 3, 1) := by decide +kernel
theorem dX8_findCosts_37 : decode cX8_findCosts 37 = .ok (.imul, 1) := by decide +kernel
theorem dX8_findCosts_38 : decode cX8_findCosts 38 = .ok (.aload_n 0, 1) := by decide +kernel
theorem dX8_findCosts_39 : decode cX8_findCosts 39 = .ok (.iload_n 1, 1) := by decide +kernel
theorem dX8_findCosts_40 : decode cX8_findCosts 40 = .ok (.invokevirtual 253, 3) := by decide +kernel
theorem dX8_findCosts_43 : decode cX8_findCosts 43 = .ok (.iastore, 1) := by decide +kernel
theorem dX8_findCosts_44 : decode cX8_findCosts 44 = .ok (.aload_n 0, 1) := by decide +kernel
theorem dX8_findCosts_45 : decode cX8_findCosts 45 = .ok (.getfield 63, 3) := by decide +kernel
theorem dX8_findCosts_48 : decode cX8_findCosts 48 = .ok (.iconst 2, 1) := by decide +kernel
theorem dX8_findCosts_49 : decode cX8_findCosts 49 = .ok (.iload_n 3, 1) := by decide +kernel
theorem dX8_findCosts_50 : decode cX8_findCosts 50 = .ok (.imul, 1) := by decide +kernel
theorem dX8_findCosts_51 : decode cX8_findCosts 51 = .ok (.iconst 1, 1) := by decide +kernel
theorem dX8_findCosts_52 : decode cX8_findCosts 52 = .ok (.iadd, 1) := by decide +kernel
theorem dX8_findCosts_53 : decode cX8_findCosts 53 = .ok (.aload_n 0, 1) := by decide +kernel
theorem dX8_findCosts_54 : decode cX8_findCosts 54 = .ok (.iload_n 2, 1) := by decide +kernel
theorem dX8_findCosts_55 : decode cX8_findCosts 55 = .ok (.invokevirtual 253, 3) := by decide +kernel
theorem dX8_findCosts_58 : decode cX8_findCosts 58 = .ok (.iastore, 1) := by decide +kernel
theorem dX8_findCosts_59 : decode cX8_findCosts 59 = .ok (.aload_n 0, 1) := by decide +kernel
theorem dX8_findCosts_60 : decode cX8_findCosts 60 = .ok (.getfield 19, 3) := by decide +kernel
theorem dX8_findCosts_63 : decode cX8_findCosts 63 = .ok (.iload_n 1, 1) := by decide +kernel
theorem dX8_findCosts_64 : decode cX8_findCosts 64 = .ok (.dup2, 1) := by decide +kernel
theorem dX8_findCosts_65 : decode cX8_findCosts 65 = .ok (.iaload, 1) := by decide +kernel
theorem dX8_findCosts_66 : decode cX8_findCosts 66 = .ok (.iload_n 3, 1) := by decide +kernel
theorem dX8_findCosts_67 : decode cX8_findCosts 67 = .ok (.iconst 2, 1) := by decide +kernel
theorem dX8_findCosts_68 : decode cX8_findCosts 68 = .ok (.idiv, 1) := by decide +kernel
theorem dX8_findCosts_69 : decode cX8_findCosts 69 = .ok (.ixor, 1) := by decide +kernel
theorem dX8_findCosts_70 : decode cX8_findCosts 70 = .ok (.iastore, 1) := by decide +kernel
theorem dX8_findCosts_71 : decode cX8_findCosts 71 = .ok (.aload_n 0, 1) := by decide +kernel
theorem dX8_findCosts_72 : decode cX8_findCosts 72 = .ok (.getfield 19, 3) := by decide +kernel
theorem dX8_findCosts_75 : decode cX8_findCosts 75 = .ok (.iload_n 2, 1) := by decide +kernel
theorem dX8_findCosts_76 : decode cX8_findCosts 76 = .ok (.dup2, 1) := by decide +kernel
theorem dX8_findCosts_77 : decode cX8_findCosts 77 = .ok (.iaload, 1) := by decide +kernel
theorem dX8_findCosts_78 : decode cX8_findCosts 78 = .ok (.iload_n 3, 1) := by decide +kernel
theorem dX8_findCosts_79 : decode cX8_findCosts 79 = .ok (.iconst 2, 1) := by decide +kernel
theorem dX8_findCosts_80 : decode cX8_findCosts 80 = .ok (.irem, 1) := by decide +kernel
theorem dX8_findCosts_81 : decode cX8_findCosts 81 = .ok (.ixor, 1) := by decide +kernel
theorem dX8_findCosts_82 : decode cX8_findCosts 82 = .ok (.iastore, 1) := by decide +kernel
theorem dX8_findCosts_83 : decode cX8_findCosts 83 = .ok (.iinc 3 1, 3) := by decide +kernel
theorem dX8_findCosts_86 : decode cX8_findCosts 86 = .ok (.goto (-84), 3) := by decide +kernel
theorem dX8_findCosts_89 : decode cX8_findCosts 89 = .ok (.return_, 1) := by decide +kernel
set_option maxRecDepth 20000 in
theorem ggX8_two_X8_isBride : GoodIn wsX8_two wsX8_isBride := goodIn_r _ [7, 8, 59, 60, 61, 62, 63, 64, 65, 66, 67, 68, 69, 70, 71, 72, 73, 74, 75, 76, 77, 78, 79, 80, 81, 82, 83, 84, 85, 86, 87] (by decide +kernel) (by decide +kernel)
set_option maxRecDepth 20000 in
theorem gX8_two_X8_isBride : GoodIn wsX8_two (wsV RX8 130 RX8 yX8_isBride wsX8_isBride) := goodIn_app (goodIn_of _ (by decide +kernel)) ggX8_two_X8_isBride
set_option maxRecDepth 20000 in
theorem ggX8_two_X8_no : GoodIn wsX8_two wsX8_no := goodIn_r _ [12, 13, 59, 60, 61, 62, 63, 64, 65, 66, 67, 68, 69, 70, 71, 72, 73, 74, 75, 76, 77, 78, 79, 80, 81, 82, 83, 84, 85, 86, 87] (by decide +kernel) (by decide +kernel)
set_option maxRecDepth 20000 in
theorem gX8_two_X8_no : GoodIn wsX8_two (wsV RX8 86 RX8 yX8_no wsX8_no) := goodIn_app (goodIn_of _ (by decide +kernel)) ggX8_two_X8_no
set_option maxRecDepth 20000 in
theorem ggX8_two_X8_findCosts : GoodIn wsX8_two wsX8_findCosts := goodIn_r _ [17, 18, 2, 19, 20, 21, 6, 22, 23, 24, 25, 26, 27, 28, 29, 30, 31, 32, 33, 34, 35, 36, 37, 38, 8, 1, 39, 40, 41, 42, 43, 44, 45, 46, 47, 48, 49, 50, 51, 52, 53, 54, 55, 56, 57, 58, 59, 60, 61, 62, 63, 64, 65, 66, 67, 68, 69, 70, 71, 72, 73, 74, 75, 76, 77, 78, 79, 80, 81, 82, 83, 84, 85, 86, 87] (by decide +kernel) (by decide +kernel)
set_option maxRecDepth 20000 in
theorem gX8_two_X8_findCosts : GoodIn wsX8_two (wsV RX8 256 RX8 yX8_findCosts wsX8_findCosts) := goodIn_app (goodIn_of _ (by decide +kernel)) ggX8_two_X8_findCosts
theorem dX8_two_0 : decode cX8_two 0 = .ok (.aload_n 0, 1) := by decide +kernel
theorem dX8_two_1 : decode cX8_two 1 = .ok (.iload_n 1, 1) := by decide +kernel
theorem dX8_two_2 : decode cX8_two 2 = .ok (.invokevirtual 130, 3) := by decide +kernel
theorem dX8_two_5 : decode cX8_two 5 = .ok (.ifCond .eq 16, 3) := by decide +kernel
theorem dX8_two_8 : decode cX8_two 8 = .ok (.aload_n 0, 1) := by decide +kernel
theorem dX8_two_9 : decode cX8_two 9 = .ok (.iload_n 2, 1) := by decide +kernel
theorem dX8_two_10 : decode cX8_two 10 = .ok (.invokevirtual 130, 3) := by decide +kernel
theorem dX8_two_13 : decode cX8_two 13 = .ok (.ifCond .eq 8, 3) := by decide +kernel
theorem dX8_two_16 : decode cX8_two 16 = .ok (.iload_n 1, 1) := by decide +kernel
theorem dX8_two_17 : decode cX8_two 17 = .ok (.iload_n 2, 1) := by decide +kernel
theorem dX8_two_18 : decode cX8_two 18 = .ok (.if_icmp .ne 7, 3) := by decide +kernel
theorem dX8_two_21 : decode cX8_two 21 = .ok (.iconst (-1), 1) := by decide +kernel
theorem dX8_two_22 : decode cX8_two 22 = .ok (.goto 27, 3) := by decide +kernel
theorem dX8_two_25 : decode cX8_two 25 = .ok (.aload_n 0, 1) := by decide +kernel
theorem dX8_two_26 : decode cX8_two 26 = .ok (.getfield 22, 3) := by decide +kernel
theorem dX8_two_29 : decode cX8_two 29 = .ok (.iload_n 1, 1) := by decide +kernel
theorem dX8_two_30 : decode cX8_two 30 = .ok (.iaload, 1) := by decide +kernel
theorem dX8_two_31 : decode cX8_two 31 = .ok (.ifCond .ne 12, 3) := by decide +kernel
theorem dX8_two_34 : decode cX8_two 34 = .ok (.aload_n 0, 1) := by decide +kernel
theorem dX8_two_35 : decode cX8_two 35 = .ok (.getfield 22, 3) := by decide +kernel
theorem dX8_two_38 : decode cX8_two 38 = .ok (.iload_n 2, 1) := by decide +kernel
theorem dX8_two_39 : decode cX8_two 39 = .ok (.iaload, 1) := by decide +kernel
theorem dX8_two_40 : decode cX8_two 40 = .ok (.ifCond .eq 8, 3) := by decide +kernel
theorem dX8_two_43 : decode cX8_two 43 = .ok (.bipush (-3), 2) := by decide +kernel
theorem dX8_two_45 : decode cX8_two 45 = .ok (.goto 4, 3) := by decide +kernel
theorem dX8_two_48 : decode cX8_two 48 = .ok (.iconst 0, 1) := by decide +kernel
theorem dX8_two_49 : decode cX8_two 49 = .ok (.istore_n 3, 1) := by decide +kernel
theorem dX8_two_50 : decode cX8_two 50 = .ok (.iload_n 3, 1) := by decide +kernel
theorem dX8_two_51 : decode cX8_two 51 = .ok (.ifCond .eq 9, 3) := by decide +kernel
theorem dX8_two_54 : decode cX8_two 54 = .ok (.aload_n 0, 1) := by decide +kernel
theorem dX8_two_55 : decode cX8_two 55 = .ok (.iload_n 3, 1) := by decide +kernel
theorem dX8_two_56 : decode cX8_two 56 = .ok (.invokevirtual 86, 3) := by decide +kernel
theorem dX8_two_59 : decode cX8_two 59 = .ok (.ireturn, 1) := by decide +kernel
theorem dX8_two_60 : decode cX8_two 60 = .ok (.aload_n 0, 1) := by decide +kernel
theorem dX8_two_61 : decode cX8_two 61 = .ok (.iload_n 1, 1) := by decide +kernel
theorem dX8_two_62 : decode cX8_two 62 = .ok (.iload_n 2, 1) := by decide +kernel
theorem dX8_two_63 : decode cX8_two 63 = .ok (.invokevirtual 256, 3) := by decide +kernel
theorem dX8_two_66 : decode cX8_two 66 = .ok (.iconst 0, 1) := by decide +kernel
theorem dX8_two_67 : decode cX8_two 67 = .ok (.istore 4, 2) := by decide +kernel
theorem dX8_two_69 : decode cX8_two 69 = .ok (.iload 4, 2) := by decide +kernel
theorem dX8_two_71 : decode cX8_two 71 = .ok (.iconst 4, 1) := by decide +kernel
theorem dX8_two_72 : decode cX8_two 72 = .ok (.if_icmp .ge 72, 3) := by decide +kernel
theorem dX8_two_75 : decode cX8_two 75 = .ok (.aload_n 0, 1) := by decide +kernel
theorem dX8_two_76 : decode cX8_two 76 = .ok (.getfield 63, 3) := by decide +kernel
theorem dX8_two_79 : decode cX8_two 79 = .ok (.iconst 2, 1) := by decide +kernel
theorem dX8_two_80 : decode cX8_two 80 = .ok (.iload 4, 2) := by decide +kernel
theorem dX8_two_82 : decode cX8_two 82 = .ok (.iconst 2, 1) := by decide +kernel
theorem dX8_two_83 : decode cX8_two 83 = .ok (.ixor, 1) := by decide +kernel
theorem dX8_two_84 : decode cX8_two 84 = .ok (.imul, 1) := by decide +kernel
theorem dX8_two_85 : decode cX8_two 85 = .ok (.iaload, 1) := by decide +kernel
theorem dX8_two_86 : decode cX8_two 86 = .ok (.aload_n 0, 1) := by decide +kernel
theorem dX8_two_87 : decode cX8_two 87 = .ok (.getfield 63, 3) := by decide +kernel
theorem dX8_two_90 : decode cX8_two 90 = .ok (.iconst 2, 1) := by decide +kernel
theorem dX8_two_91 : decode cX8_two 91 = .ok (.iload 4, 2) := by decide +kernel
theorem dX8_two_93 : decode cX8_two 93 = .ok (.imul, 1) := by decide +kernel
theorem dX8_two_94 : decode cX8_two 94 = .ok (.iaload, 1) := by decide +kernel
theorem dX8_two_95 : decode cX8_two 95 = .ok (.if_icmp .lt 43, 3) := by decide +kernel
theorem dX8_two_98 : decode cX8_two 98 = .ok (.aload_n 0, 1) := by decide +kernel
theorem dX8_two_99 : decode cX8_two 99 = .ok (.getfield 63, 3) := by decide +kernel
theorem dX8_two_102 : decode cX8_two 102 = .ok (.iconst 2, 1) := by decide +kernel
theorem dX8_two_103 : decode cX8_two 103 = .ok (.iload 4, 2) := by decide +kernel
theorem dX8_two_105 : decode cX8_two 105 = .ok (.iconst 1, 1) := by decide +kernel
theorem dX8_two_106 : decode cX8_two 106 = .ok (.ixor, 1) := by decide +kernel
theorem dX8_two_107 : decode cX8_two 107 = .ok (.imul, 1) := by decide +kernel
theorem dX8_two_108 : decode cX8_two 108 = .ok (.iconst 1, 1) := by decide +kernel
theorem dX8_two_109 : decode cX8_two 109 = .ok (.iadd, 1) := by decide +kernel
theorem dX8_two_110 : decode cX8_two 110 = .ok (.iaload, 1) := by decide +kernel
theorem dX8_two_111 : decode cX8_two 111 = .ok (.aload_n 0, 1) := by decide +kernel
theorem dX8_two_112 : decode cX8_two 112 = .ok (.getfield 63, 3) := by decide +kernel
theorem dX8_two_115 : decode cX8_two 115 = .ok (.iconst 2, 1) := by decide +kernel
theorem dX8_two_116 : decode cX8_two 116 = .ok (.iload 4, 2) := by decide +kernel
theorem dX8_two_118 : decode cX8_two 118 = .ok (.imul, 1) := by decide +kernel
theorem dX8_two_119 : decode cX8_two 119 = .ok (.iconst 1, 1) := by decide +kernel
theorem dX8_two_120 : decode cX8_two 120 = .ok (.iadd, 1) := by decide +kernel
theorem dX8_two_121 : decode cX8_two 121 = .ok (.iaload, 1) := by decide +kernel
theorem dX8_two_122 : decode cX8_two 122 = .ok (.if_icmp .lt 16, 3) := by decide +kernel
theorem dX8_two_125 : decode cX8_two 125 = .ok (.bipush 10, 2) := by decide +kernel
theorem dX8_two_127 : decode cX8_two 127 = .ok (.iload 4, 2) := by decide +kernel
theorem dX8_two_129 : decode cX8_two 129 = .ok (.iconst 2, 1) := by decide +kernel
theorem dX8_two_130 : decode cX8_two 130 = .ok (.idiv, 1) := by decide +kernel
theorem dX8_two_131 : decode cX8_two 131 = .ok (.imul, 1) := by decide +kernel
theorem dX8_two_132 : decode cX8_two 132 = .ok (.iload 4, 2) := by decide +kernel
theorem dX8_two_134 : decode cX8_two 134 = .ok (.iconst 2, 1) := by decide +kernel
theorem dX8_two_135 : decode cX8_two 135 = .ok (.irem, 1) := by decide +kernel
theorem dX8_two_136 : decode cX8_two 136 = .ok (.iadd, 1) := by decide +kernel
theorem dX8_two_137 : decode cX8_two 137 = .ok (.ireturn, 1) := by decide +kernel
theorem dX8_two_138 : decode cX8_two 138 = .ok (.iinc 4 1, 3) := by decide +kernel
theorem dX8_two_141 : decode cX8_two 141 = .ok (.goto (-72), 3) := by decide +kernel
theorem dX8_two_144 : decode cX8_two 144 = .ok (.bipush (-9), 2) := by decide +kernel
theorem dX8_two_146 : decode cX8_two 146 = .ok (.ireturn, 1) := by decide +kernel
theorem dX8_divisor_0 : decode cX8_divisor 0 = .ok (.lload_n 0, 1) := by decide +kernel
theorem dX8_divisor_1 : decode cX8_divisor 1 = .ok (.lstore 4, 2) := by decide +kernel
theorem dX8_divisor_3 : decode cX8_divisor 3 = .ok (.lload_n 2, 1) := by decide +kernel
theorem dX8_divisor_4 : decode cX8_divisor 4 = .ok (.lstore 6, 2) := by decide +kernel
theorem dX8_divisor_6 : decode cX8_divisor 6 = .ok (.lload 6, 2) := by decide +kernel
theorem dX8_divisor_8 : decode cX8_divisor 8 = .ok (.lconst 0, 1) := by decide +kernel
theorem dX8_divisor_9 : decode cX8_divisor 9 = .ok (.lcmp, 1) := by decide +kernel
theorem dX8_divisor_10 : decode cX8_divisor 10 = .ok (.ifCond .eq 21, 3) := by decide +kernel
theorem dX8_divisor_13 : decode cX8_divisor 13 = .ok (.lload 4, 2) := by decide +kernel
theorem dX8_divisor_15 : decode cX8_divisor 15 = .ok (.lload 6, 2) := by decide +kernel
theorem dX8_divisor_17 : decode cX8_divisor 17 = .ok (.lrem, 1) := by decide +kernel
theorem dX8_divisor_18 : decode cX8_divisor 18 = .ok (.lstore 8, 2) := by decide +kernel
theorem dX8_divisor_20 : decode cX8_divisor 20 = .ok (.lload 6, 2) := by decide +kernel
theorem dX8_divisor_22 : decode cX8_divisor 22 = .ok (.lstore 4, 2) := by decide +kernel
theorem dX8_divisor_24 : decode cX8_divisor 24 = .ok (.lload 8, 2) := by decide +kernel
theorem dX8_divisor_26 : decode cX8_divisor 26 = .ok (.lstore 6, 2) := by decide +kernel
theorem dX8_divisor_28 : decode cX8_divisor 28 = .ok (.goto (-22), 3) := by decide +kernel
theorem dX8_divisor_31 : decode cX8_divisor 31 = .ok (.lload 4, 2) := by decide +kernel
theorem dX8_divisor_33 : decode cX8_divisor 33 = .ok (.lreturn, 1) := by decide +kernel
set_option maxRecDepth 20000 in
theorem ggX8_partOf_X8_divisor : GoodIn wsX8_partOf wsX8_divisor := goodIn_r _ [4] (by decide +kernel) (by decide +kernel)
set_option maxRecDepth 20000 in
theorem gX8_partOf_X8_divisor : GoodIn wsX8_partOf (va_wsS RX8 259 yX8_divisor wsX8_divisor) := goodIn_app (goodIn_of _ (by decide +kernel)) ggX8_partOf_X8_divisor
theorem dX8_partOf_0 : decode cX8_partOf 0 = .ok (.iload 4, 2) := by decide +kernel
theorem dX8_partOf_2 : decode cX8_partOf 2 = .ok (.ifCond .ne 7, 3) := by decide +kernel
theorem dX8_partOf_5 : decode cX8_partOf 5 = .ok (.lload_n 0, 1) := by decide +kernel
theorem dX8_partOf_6 : decode cX8_partOf 6 = .ok (.goto 4, 3) := by decide +kernel
theorem dX8_partOf_9 : decode cX8_partOf 9 = .ok (.lload_n 2, 1) := by decide +kernel
theorem dX8_partOf_10 : decode cX8_partOf 10 = .ok (.lload_n 0, 1) := by decide +kernel
theorem dX8_partOf_11 : decode cX8_partOf 11 = .ok (.lload_n 2, 1) := by decide +kernel
theorem dX8_partOf_12 : decode cX8_partOf 12 = .ok (.invokestatic 259, 3) := by decide +kernel
theorem dX8_partOf_15 : decode cX8_partOf 15 = .ok (.ldiv, 1) := by decide +kernel
theorem dX8_partOf_16 : decode cX8_partOf 16 = .ok (.lreturn, 1) := by decide +kernel
set_option maxRecDepth 20000 in
theorem ggX8_chance_X8_isBride : GoodIn wsX8_chance wsX8_isBride := goodIn_r _ [7, 8, 60, 61, 62, 63, 64, 65, 66, 67, 68, 69, 70, 71, 72, 73, 74, 75, 76, 77, 78, 79, 80, 81, 82, 83, 84, 85, 86, 87, 88] (by decide +kernel) (by decide +kernel)
set_option maxRecDepth 20000 in
theorem gX8_chance_X8_isBride : GoodIn wsX8_chance (wsV RX8 130 RX8 yX8_isBride wsX8_isBride) := goodIn_app (goodIn_of _ (by decide +kernel)) ggX8_chance_X8_isBride
set_option maxRecDepth 20000 in
theorem ggX8_chance_X8_bound : GoodIn wsX8_chance wsX8_bound := goodIn_r _ [11] (by decide +kernel) (by decide +kernel)
set_option maxRecDepth 20000 in
theorem gX8_chance_X8_bound : GoodIn wsX8_chance (va_wsS RX8 79 yX8_bound wsX8_bound) := goodIn_app (goodIn_of _ (by decide +kernel)) ggX8_chance_X8_bound
set_option maxRecDepth 20000 in
theorem ggX8_chance_X8_isIn : GoodIn wsX8_chance wsX8_isIn := goodIn_r _ [14] (by decide +kernel) (by decide +kernel)
set_option maxRecDepth 20000 in
theorem gX8_chance_X8_isIn : GoodIn wsX8_chance (va_wsS RX8 97 yX8_isIn wsX8_isIn) := goodIn_app (goodIn_of _ (by decide +kernel)) ggX8_chance_X8_isIn
set_option maxRecDepth 20000 in
theorem ggX8_chance_X8_lowestOf : GoodIn wsX8_chance wsX8_lowestOf := goodIn_r _ [18, 19, 20, 60, 61, 62, 63, 64, 65, 66, 67, 68, 69, 70, 71, 72, 73, 74, 75, 76, 77, 78, 79, 80, 81, 82, 83, 84, 85, 86, 87, 88] (by decide +kernel) (by decide +kernel)
set_option maxRecDepth 20000 in
theorem gX8_chance_X8_lowestOf : GoodIn wsX8_chance (wsV RX8 263 RX8 yX8_lowestOf wsX8_lowestOf) := goodIn_app (goodIn_of _ (by decide +kernel)) ggX8_chance_X8_lowestOf
set_option maxRecDepth 20000 in
theorem ggX8_chance_X8_here : GoodIn wsX8_chance wsX8_here := goodIn_r _ [24, 8, 25, 60, 61, 62, 63, 64, 65, 66, 67, 68, 69, 70, 71, 72, 73, 74, 75, 76, 77, 78, 79, 80, 81, 82, 83, 84, 85, 86, 87, 88] (by decide +kernel) (by decide +kernel)
set_option maxRecDepth 20000 in
theorem gX8_chance_X8_here : GoodIn wsX8_chance (wsV RX8 192 RX8 yX8_here wsX8_here) := goodIn_app (goodIn_of _ (by decide +kernel)) ggX8_chance_X8_here
set_option maxRecDepth 20000 in
theorem ggX8_chance_X8_guesses : GoodIn wsX8_chance wsX8_guesses := goodIn_r _ [29, 30, 31, 32, 33, 34, 6, 35, 8, 25, 36, 37, 38, 39, 40, 41, 42, 43, 44, 45, 46, 47, 60, 61, 62, 63, 64, 65, 66, 67, 68, 69, 70, 71, 72, 73, 74, 75, 76, 77, 78, 79, 80, 81, 82, 83, 84, 85, 86, 87, 88] (by decide +kernel) (by decide +kernel)
set_option maxRecDepth 20000 in
theorem gX8_chance_X8_guesses : GoodIn wsX8_chance (wsV RX8 183 RX8 yX8_guesses wsX8_guesses) := goodIn_app (goodIn_of _ (by decide +kernel)) ggX8_chance_X8_guesses
set_option maxRecDepth 20000 in
theorem ggX8_chance_X8_bits : GoodIn wsX8_chance wsX8_bits := goodIn_r _ [50] (by decide +kernel) (by decide +kernel)
set_option maxRecDepth 20000 in
theorem gX8_chance_X8_bits : GoodIn wsX8_chance (va_wsS RX8 186 yX8_bits wsX8_bits) := goodIn_app (goodIn_of _ (by decide +kernel)) ggX8_chance_X8_bits
set_option maxRecDepth 20000 in
theorem ggX8_chance_X8_has : GoodIn wsX8_chance wsX8_has := goodIn_r _ [53] (by decide +kernel) (by decide +kernel)
set_option maxRecDepth 20000 in
theorem gX8_chance_X8_has : GoodIn wsX8_chance (va_wsS RX8 72 yX8_has wsX8_has) := goodIn_app (goodIn_of _ (by decide +kernel)) ggX8_chance_X8_has
set_option maxRecDepth 20000 in
theorem ggX8_chance_X8_partOf : GoodIn wsX8_chance wsX8_partOf := goodIn_r _ [56, 57, 58, 6, 59] (by decide +kernel) (by decide +kernel)
set_option maxRecDepth 20000 in
theorem gX8_chance_X8_partOf : GoodIn wsX8_chance (va_wsS RX8 267 yX8_partOf wsX8_partOf) := goodIn_app (goodIn_of _ (by decide +kernel)) ggX8_chance_X8_partOf
theorem dX8_chance_0 : decode cX8_chance 0 = .ok (.aload_n 0, 1) := by decide +kernel
theorem dX8_chance_1 : decode cX8_chance 1 = .ok (.iload_n 1, 1) := by decide +kernel
theorem dX8_chance_2 : decode cX8_chance 2 = .ok (.invokevirtual 130, 3) := by decide +kernel
theorem dX8_chance_5 : decode cX8_chance 5 = .ok (.ifCond .ne 7, 3) := by decide +kernel
theorem dX8_chance_8 : decode cX8_chance 8 = .ok (.iconst (-1), 1) := by decide +kernel
theorem dX8_chance_9 : decode cX8_chance 9 = .ok (.goto 9, 3) := by decide +kernel
theorem dX8_chance_12 : decode cX8_chance 12 = .ok (.iload_n 2, 1) := by decide +kernel
theorem dX8_chance_13 : decode cX8_chance 13 = .ok (.iconst 0, 1) := by decide +kernel
theorem dX8_chance_14 : decode cX8_chance 14 = .ok (.iconst 4, 1) := by decide +kernel
theorem dX8_chance_15 : decode cX8_chance 15 = .ok (.invokestatic 79, 3) := by decide +kernel
theorem dX8_chance_18 : decode cX8_chance 18 = .ok (.istore 4, 2) := by decide +kernel
theorem dX8_chance_20 : decode cX8_chance 20 = .ok (.iload 4, 2) := by decide +kernel
theorem dX8_chance_22 : decode cX8_chance 22 = .ok (.ifCond .ne 16, 3) := by decide +kernel
theorem dX8_chance_25 : decode cX8_chance 25 = .ok (.iload_n 3, 1) := by decide +kernel
theorem dX8_chance_26 : decode cX8_chance 26 = .ok (.iconst 0, 1) := by decide +kernel
theorem dX8_chance_27 : decode cX8_chance 27 = .ok (.iconst 1, 1) := by decide +kernel
theorem dX8_chance_28 : decode cX8_chance 28 = .ok (.invokestatic 97, 3) := by decide +kernel
theorem dX8_chance_31 : decode cX8_chance 31 = .ok (.ifCond .ne 7, 3) := by decide +kernel
theorem dX8_chance_34 : decode cX8_chance 34 = .ok (.bipush (-2), 2) := by decide +kernel
theorem dX8_chance_36 : decode cX8_chance 36 = .ok (.istore 4, 2) := by decide +kernel
theorem dX8_chance_38 : decode cX8_chance 38 = .ok (.iload 4, 2) := by decide +kernel
theorem dX8_chance_40 : decode cX8_chance 40 = .ok (.ifCond .eq 10, 3) := by decide +kernel
theorem dX8_chance_43 : decode cX8_chance 43 = .ok (.aload_n 0, 1) := by decide +kernel
theorem dX8_chance_44 : decode cX8_chance 44 = .ok (.iload 4, 2) := by decide +kernel
theorem dX8_chance_46 : decode cX8_chance 46 = .ok (.invokevirtual 263, 3) := by decide +kernel
theorem dX8_chance_49 : decode cX8_chance 49 = .ok (.lreturn, 1) := by decide +kernel
theorem dX8_chance_50 : decode cX8_chance 50 = .ok (.lconst 1, 1) := by decide +kernel
theorem dX8_chance_51 : decode cX8_chance 51 = .ok (.lstore 5, 2) := by decide +kernel
theorem dX8_chance_53 : decode cX8_chance 53 = .ok (.lconst 1, 1) := by decide +kernel
theorem dX8_chance_54 : decode cX8_chance 54 = .ok (.lstore 7, 2) := by decide +kernel
theorem dX8_chance_56 : decode cX8_chance 56 = .ok (.aload_n 0, 1) := by decide +kernel
theorem dX8_chance_57 : decode cX8_chance 57 = .ok (.invokevirtual 192, 3) := by decide +kernel
theorem dX8_chance_60 : decode cX8_chance 60 = .ok (.ifCond .ne 7, 3) := by decide +kernel
theorem dX8_chance_63 : decode cX8_chance 63 = .ok (.iconst 0, 1) := by decide +kernel
theorem dX8_chance_64 : decode cX8_chance 64 = .ok (.goto 4, 3) := by decide +kernel
theorem dX8_chance_67 : decode cX8_chance 67 = .ok (.iload_n 2, 1) := by decide +kernel
theorem dX8_chance_68 : decode cX8_chance 68 = .ok (.istore 9, 2) := by decide +kernel
theorem dX8_chance_70 : decode cX8_chance 70 = .ok (.iconst 0, 1) := by decide +kernel
theorem dX8_chance_71 : decode cX8_chance 71 = .ok (.istore 10, 2) := by decide +kernel
theorem dX8_chance_73 : decode cX8_chance 73 = .ok (.iload 10, 2) := by decide +kernel
theorem dX8_chance_75 : decode cX8_chance 75 = .ok (.aload_n 0, 1) := by decide +kernel
theorem dX8_chance_76 : decode cX8_chance 76 = .ok (.getfield 76, 3) := by decide +kernel
theorem dX8_chance_79 : decode cX8_chance 79 = .ok (.if_icmp .ge 92, 3) := by decide +kernel
theorem dX8_chance_82 : decode cX8_chance 82 = .ok (.iload 9, 2) := by decide +kernel
theorem dX8_chance_84 : decode cX8_chance 84 = .ok (.ifCond .le 87, 3) := by decide +kernel
theorem dX8_chance_87 : decode cX8_chance 87 = .ok (.aload_n 0, 1) := by decide +kernel
theorem dX8_chance_88 : decode cX8_chance 88 = .ok (.getfield 37, 3) := by decide +kernel
theorem dX8_chance_91 : decode cX8_chance 91 = .ok (.iload 10, 2) := by decide +kernel
theorem dX8_chance_93 : decode cX8_chance 93 = .ok (.iaload, 1) := by decide +kernel
theorem dX8_chance_94 : decode cX8_chance 94 = .ok (.iconst 1, 1) := by decide +kernel
theorem dX8_chance_95 : decode cX8_chance 95 = .ok (.if_icmp .ne 6, 3) := by decide +kernel
theorem dX8_chance_98 : decode cX8_chance 98 = .ok (.goto 67, 3) := by decide +kernel
theorem dX8_chance_101 : decode cX8_chance 101 = .ok (.aload_n 0, 1) := by decide +kernel
theorem dX8_chance_102 : decode cX8_chance 102 = .ok (.iload 10, 2) := by decide +kernel
theorem dX8_chance_104 : decode cX8_chance 104 = .ok (.invokevirtual 183, 3) := by decide +kernel
theorem dX8_chance_107 : decode cX8_chance 107 = .ok (.ifCond .ne 10, 3) := by decide +kernel
theorem dX8_chance_110 : decode cX8_chance 110 = .ok (.aload_n 0, 1) := by decide +kernel
theorem dX8_chance_111 : decode cX8_chance 111 = .ok (.invokevirtual 192, 3) := by decide +kernel
theorem dX8_chance_114 : decode cX8_chance 114 = .ok (.goto 9, 3) := by decide +kernel
theorem dX8_chance_117 : decode cX8_chance 117 = .ok (.aload_n 0, 1) := by decide +kernel
theorem dX8_chance_118 : decode cX8_chance 118 = .ok (.iload 10, 2) := by decide +kernel
theorem dX8_chance_120 : decode cX8_chance 120 = .ok (.invokevirtual 183, 3) := by decide +kernel
theorem dX8_chance_123 : decode cX8_chance 123 = .ok (.istore 11, 2) := by decide +kernel
theorem dX8_chance_125 : decode cX8_chance 125 = .ok (.lload 5, 2) := by decide +kernel
theorem dX8_chance_127 : decode cX8_chance 127 = .ok (.iload 11, 2) := by decide +kernel
theorem dX8_chance_129 : decode cX8_chance 129 = .ok (.invokestatic 186, 3) := by decide +kernel
theorem dX8_chance_132 : decode cX8_chance 132 = .ok (.iload 11, 2) := by decide +kernel
theorem dX8_chance_134 : decode cX8_chance 134 = .ok (.iload_n 1, 1) := by decide +kernel
theorem dX8_chance_135 : decode cX8_chance 135 = .ok (.invokestatic 72, 3) := by decide +kernel
theorem dX8_chance_138 : decode cX8_chance 138 = .ok (.ifCond .eq 7, 3) := by decide +kernel
theorem dX8_chance_141 : decode cX8_chance 141 = .ok (.iconst 1, 1) := by decide +kernel
theorem dX8_chance_142 : decode cX8_chance 142 = .ok (.goto 4, 3) := by decide +kernel
theorem dX8_chance_145 : decode cX8_chance 145 = .ok (.iconst 0, 1) := by decide +kernel
theorem dX8_chance_146 : decode cX8_chance 146 = .ok (.isub, 1) := by decide +kernel
theorem dX8_chance_147 : decode cX8_chance 147 = .ok (.i2l, 1) := by decide +kernel
theorem dX8_chance_148 : decode cX8_chance 148 = .ok (.lmul, 1) := by decide +kernel
theorem dX8_chance_149 : decode cX8_chance 149 = .ok (.lstore 5, 2) := by decide +kernel
theorem dX8_chance_151 : decode cX8_chance 151 = .ok (.lload 7, 2) := by decide +kernel
theorem dX8_chance_153 : decode cX8_chance 153 = .ok (.iload 11, 2) := by decide +kernel
theorem dX8_chance_155 : decode cX8_chance 155 = .ok (.invokestatic 186, 3) := by decide +kernel
theorem dX8_chance_158 : decode cX8_chance 158 = .ok (.i2l, 1) := by decide +kernel
theorem dX8_chance_159 : decode cX8_chance 159 = .ok (.lmul, 1) := by decide +kernel
theorem dX8_chance_160 : decode cX8_chance 160 = .ok (.lstore 7, 2) := by decide +kernel
theorem dX8_chance_162 : decode cX8_chance 162 = .ok (.iinc 9 (-1), 3) := by decide +kernel
theorem dX8_chance_165 : decode cX8_chance 165 = .ok (.iinc 10 1, 3) := by decide +kernel
theorem dX8_chance_168 : decode cX8_chance 168 = .ok (.goto (-95), 3) := by decide +kernel
theorem dX8_chance_171 : decode cX8_chance 171 = .ok (.lload 7, 2) := by decide +kernel
theorem dX8_chance_173 : decode cX8_chance 173 = .ok (.lload 5, 2) := by decide +kernel
theorem dX8_chance_175 : decode cX8_chance 175 = .ok (.lsub, 1) := by decide +kernel
theorem dX8_chance_176 : decode cX8_chance 176 = .ok (.lload 7, 2) := by decide +kernel
theorem dX8_chance_178 : decode cX8_chance 178 = .ok (.iload_n 3, 1) := by decide +kernel
theorem dX8_chance_179 : decode cX8_chance 179 = .ok (.invokestatic 267, 3) := by decide +kernel
theorem dX8_chance_182 : decode cX8_chance 182 = .ok (.lreturn, 1) := by decide +kernel
set_option maxRecDepth 20000 in
theorem ggX8_mean_X8_isIn : GoodIn wsX8_mean wsX8_isIn := goodIn_r _ [6] (by decide +kernel) (by decide +kernel)
set_option maxRecDepth 20000 in
theorem gX8_mean_X8_isIn : GoodIn wsX8_mean (va_wsS RX8 97 yX8_isIn wsX8_isIn) := goodIn_app (goodIn_of _ (by decide +kernel)) ggX8_mean_X8_isIn
set_option maxRecDepth 20000 in
theorem ggX8_mean_X8_lowestOf : GoodIn wsX8_mean wsX8_lowestOf := goodIn_r _ [10, 11, 12, 22, 23, 24, 25, 26, 27, 28, 29, 30, 31, 32, 33, 34, 35, 36, 37, 38, 39, 40, 41, 42, 43, 44, 45, 46, 47, 48, 49, 50] (by decide +kernel) (by decide +kernel)
set_option maxRecDepth 20000 in
theorem gX8_mean_X8_lowestOf : GoodIn wsX8_mean (wsV RX8 263 RX8 yX8_lowestOf wsX8_lowestOf) := goodIn_app (goodIn_of _ (by decide +kernel)) ggX8_mean_X8_lowestOf
set_option maxRecDepth 20000 in
theorem ggX8_mean_X8_bits : GoodIn wsX8_mean wsX8_bits := goodIn_r _ [15] (by decide +kernel) (by decide +kernel)
set_option maxRecDepth 20000 in
theorem gX8_mean_X8_bits : GoodIn wsX8_mean (va_wsS RX8 186 yX8_bits wsX8_bits) := goodIn_app (goodIn_of _ (by decide +kernel)) ggX8_mean_X8_bits
set_option maxRecDepth 20000 in
theorem ggX8_mean_X8_partOf : GoodIn wsX8_mean wsX8_partOf := goodIn_r _ [18, 19, 20, 5, 21] (by decide +kernel) (by decide +kernel)
set_option maxRecDepth 20000 in
theorem gX8_mean_X8_partOf : GoodIn wsX8_mean (va_wsS RX8 267 yX8_partOf wsX8_partOf) := goodIn_app (goodIn_of _ (by decide +kernel)) ggX8_mean_X8_partOf
theorem dX8_mean_0 : decode cX8_mean 0 = .ok (.iload_n 1, 1) := by decide +kernel
theorem dX8_mean_1 : decode cX8_mean 1 = .ok (.iconst 0, 1) := by decide +kernel
theorem dX8_mean_2 : decode cX8_mean 2 = .ok (.iconst 1, 1) := by decide +kernel
theorem dX8_mean_3 : decode cX8_mean 3 = .ok (.invokestatic 97, 3) := by decide +kernel
theorem dX8_mean_6 : decode cX8_mean 6 = .ok (.ifCond .ne 10, 3) := by decide +kernel
theorem dX8_mean_9 : decode cX8_mean 9 = .ok (.aload_n 0, 1) := by decide +kernel
theorem dX8_mean_10 : decode cX8_mean 10 = .ok (.bipush (-2), 2) := by decide +kernel
theorem dX8_mean_12 : decode cX8_mean 12 = .ok (.invokevirtual 263, 3) := by decide +kernel
theorem dX8_mean_15 : decode cX8_mean 15 = .ok (.lreturn, 1) := by decide +kernel
theorem dX8_mean_16 : decode cX8_mean 16 = .ok (.lconst 0, 1) := by decide +kernel
theorem dX8_mean_17 : decode cX8_mean 17 = .ok (.lstore_n 2, 1) := by decide +kernel
theorem dX8_mean_18 : decode cX8_mean 18 = .ok (.iconst 0, 1) := by decide +kernel
theorem dX8_mean_19 : decode cX8_mean 19 = .ok (.istore 4, 2) := by decide +kernel
theorem dX8_mean_21 : decode cX8_mean 21 = .ok (.iload 4, 2) := by decide +kernel
theorem dX8_mean_23 : decode cX8_mean 23 = .ok (.aload_n 0, 1) := by decide +kernel
theorem dX8_mean_24 : decode cX8_mean 24 = .ok (.getfield 66, 3) := by decide +kernel
theorem dX8_mean_27 : decode cX8_mean 27 = .ok (.if_icmp .ge 23, 3) := by decide +kernel
theorem dX8_mean_30 : decode cX8_mean 30 = .ok (.lload_n 2, 1) := by decide +kernel
theorem dX8_mean_31 : decode cX8_mean 31 = .ok (.aload_n 0, 1) := by decide +kernel
theorem dX8_mean_32 : decode cX8_mean 32 = .ok (.getfield 19, 3) := by decide +kernel
theorem dX8_mean_35 : decode cX8_mean 35 = .ok (.iload 4, 2) := by decide +kernel
theorem dX8_mean_37 : decode cX8_mean 37 = .ok (.iaload, 1) := by decide +kernel
theorem dX8_mean_38 : decode cX8_mean 38 = .ok (.invokestatic 186, 3) := by decide +kernel
theorem dX8_mean_41 : decode cX8_mean 41 = .ok (.i2l, 1) := by decide +kernel
theorem dX8_mean_42 : decode cX8_mean 42 = .ok (.ladd, 1) := by decide +kernel
theorem dX8_mean_43 : decode cX8_mean 43 = .ok (.lstore_n 2, 1) := by decide +kernel
theorem dX8_mean_44 : decode cX8_mean 44 = .ok (.iinc 4 1, 3) := by decide +kernel
theorem dX8_mean_47 : decode cX8_mean 47 = .ok (.goto (-26), 3) := by decide +kernel
theorem dX8_mean_50 : decode cX8_mean 50 = .ok (.aload_n 0, 1) := by decide +kernel
theorem dX8_mean_51 : decode cX8_mean 51 = .ok (.getfield 66, 3) := by decide +kernel
theorem dX8_mean_54 : decode cX8_mean 54 = .ok (.ifCond .ne 8, 3) := by decide +kernel
theorem dX8_mean_57 : decode cX8_mean 57 = .ok (.iload_n 1, 1) := by decide +kernel
theorem dX8_mean_58 : decode cX8_mean 58 = .ok (.i2l, 1) := by decide +kernel
theorem dX8_mean_59 : decode cX8_mean 59 = .ok (.goto 13, 3) := by decide +kernel
theorem dX8_mean_62 : decode cX8_mean 62 = .ok (.lload_n 2, 1) := by decide +kernel
theorem dX8_mean_63 : decode cX8_mean 63 = .ok (.aload_n 0, 1) := by decide +kernel
theorem dX8_mean_64 : decode cX8_mean 64 = .ok (.getfield 66, 3) := by decide +kernel
theorem dX8_mean_67 : decode cX8_mean 67 = .ok (.i2l, 1) := by decide +kernel
theorem dX8_mean_68 : decode cX8_mean 68 = .ok (.iload_n 1, 1) := by decide +kernel
theorem dX8_mean_69 : decode cX8_mean 69 = .ok (.invokestatic 267, 3) := by decide +kernel
theorem dX8_mean_72 : decode cX8_mean 72 = .ok (.lreturn, 1) := by decide +kernel
set_option maxRecDepth 20000 in
theorem ggX8_isSo_X8_thinks : GoodIn wsX8_isSo wsX8_thinks := goodIn_r _ [7, 8, 9, 10, 6, 11, 12, 13, 14, 15, 16, 17, 18, 19, 20, 21, 22, 23, 24, 25, 26, 27, 28, 29, 30, 31, 32, 33, 34, 51, 52, 53, 54, 55, 56, 57, 58, 59, 60, 61, 62, 63, 64, 65, 66, 67, 68, 69, 70, 71, 72, 73, 74, 75, 76, 77, 78, 79] (by decide +kernel) (by decide +kernel)
set_option maxRecDepth 20000 in
theorem gX8_isSo_X8_thinks : GoodIn wsX8_isSo (wsV RX8 208 RX8 yX8_thinks wsX8_thinks) := goodIn_app (goodIn_of _ (by decide +kernel)) ggX8_isSo_X8_thinks
set_option maxRecDepth 20000 in
theorem ggX8_isSo_X8_showsOf : GoodIn wsX8_isSo wsX8_showsOf := goodIn_r _ [38, 16, 15, 25, 14, 39, 40, 41, 6, 42, 51, 52, 53, 54, 55, 56, 57, 58, 59, 60, 61, 62, 63, 64, 65, 66, 67, 68, 69, 70, 71, 72, 73, 74, 75, 76, 77, 78, 79] (by decide +kernel) (by decide +kernel)
set_option maxRecDepth 20000 in
theorem gX8_isSo_X8_showsOf : GoodIn wsX8_isSo (wsV RX8 176 RX8 yX8_showsOf wsX8_showsOf) := goodIn_app (goodIn_of _ (by decide +kernel)) ggX8_isSo_X8_showsOf
set_option maxRecDepth 20000 in
theorem ggX8_isSo_X8_goesYear : GoodIn wsX8_isSo wsX8_goesYear := goodIn_r _ [46, 25, 23, 17, 18, 24, 21, 51, 52, 53, 54, 55, 56, 57, 58, 59, 60, 61, 62, 63, 64, 65, 66, 67, 68, 69, 70, 71, 72, 73, 74, 75, 76, 77, 78, 79] (by decide +kernel) (by decide +kernel)
set_option maxRecDepth 20000 in
theorem gX8_isSo_X8_goesYear : GoodIn wsX8_isSo (wsV RX8 205 RX8 yX8_goesYear wsX8_goesYear) := goodIn_app (goodIn_of _ (by decide +kernel)) ggX8_isSo_X8_goesYear
set_option maxRecDepth 20000 in
theorem ggX8_isSo_X8_forgets : GoodIn wsX8_isSo wsX8_forgets := goodIn_r _ [50, 8, 9, 10, 6, 11, 12, 13, 14, 15, 16, 17, 18, 19, 20, 21, 22, 23, 24, 25, 26, 27, 28, 29, 30, 31, 32, 33, 34, 51, 52, 53, 54, 55, 56, 57, 58, 59, 60, 61, 62, 63, 64, 65, 66, 67, 68, 69, 70, 71, 72, 73, 74, 75, 76, 77, 78, 79] (by decide +kernel) (by decide +kernel)
set_option maxRecDepth 20000 in
theorem gX8_isSo_X8_forgets : GoodIn wsX8_isSo (wsV RX8 211 RX8 yX8_forgets wsX8_forgets) := goodIn_app (goodIn_of _ (by decide +kernel)) ggX8_isSo_X8_forgets
theorem dX8_isSo_0 : decode cX8_isSo 0 = .ok (.aload_n 0, 1) := by decide +kernel
theorem dX8_isSo_1 : decode cX8_isSo 1 = .ok (.invokevirtual 208, 3) := by decide +kernel
theorem dX8_isSo_4 : decode cX8_isSo 4 = .ok (.iconst 1, 1) := by decide +kernel
theorem dX8_isSo_5 : decode cX8_isSo 5 = .ok (.istore_n 2, 1) := by decide +kernel
theorem dX8_isSo_6 : decode cX8_isSo 6 = .ok (.iconst 0, 1) := by decide +kernel
theorem dX8_isSo_7 : decode cX8_isSo 7 = .ok (.istore_n 3, 1) := by decide +kernel
theorem dX8_isSo_8 : decode cX8_isSo 8 = .ok (.iload_n 3, 1) := by decide +kernel
theorem dX8_isSo_9 : decode cX8_isSo 9 = .ok (.aload_n 0, 1) := by decide +kernel
theorem dX8_isSo_10 : decode cX8_isSo 10 = .ok (.getfield 250, 3) := by decide +kernel
theorem dX8_isSo_13 : decode cX8_isSo 13 = .ok (.if_icmp .ge 37, 3) := by decide +kernel
theorem dX8_isSo_16 : decode cX8_isSo 16 = .ok (.iload_n 2, 1) := by decide +kernel
theorem dX8_isSo_17 : decode cX8_isSo 17 = .ok (.ifCond .eq 33, 3) := by decide +kernel
theorem dX8_isSo_20 : decode cX8_isSo 20 = .ok (.aload_n 0, 1) := by decide +kernel
theorem dX8_isSo_21 : decode cX8_isSo 21 = .ok (.iload_n 1, 1) := by decide +kernel
theorem dX8_isSo_22 : decode cX8_isSo 22 = .ok (.invokevirtual 176, 3) := by decide +kernel
theorem dX8_isSo_25 : decode cX8_isSo 25 = .ok (.aload_n 0, 1) := by decide +kernel
theorem dX8_isSo_26 : decode cX8_isSo 26 = .ok (.getfield 60, 3) := by decide +kernel
theorem dX8_isSo_29 : decode cX8_isSo 29 = .ok (.iload_n 3, 1) := by decide +kernel
theorem dX8_isSo_30 : decode cX8_isSo 30 = .ok (.iaload, 1) := by decide +kernel
theorem dX8_isSo_31 : decode cX8_isSo 31 = .ok (.if_icmp .ne 7, 3) := by decide +kernel
theorem dX8_isSo_34 : decode cX8_isSo 34 = .ok (.iconst 1, 1) := by decide +kernel
theorem dX8_isSo_35 : decode cX8_isSo 35 = .ok (.goto 4, 3) := by decide +kernel
theorem dX8_isSo_38 : decode cX8_isSo 38 = .ok (.iconst 0, 1) := by decide +kernel
theorem dX8_isSo_39 : decode cX8_isSo 39 = .ok (.istore_n 2, 1) := by decide +kernel
theorem dX8_isSo_40 : decode cX8_isSo 40 = .ok (.aload_n 0, 1) := by decide +kernel
theorem dX8_isSo_41 : decode cX8_isSo 41 = .ok (.invokevirtual 205, 3) := by decide +kernel
theorem dX8_isSo_44 : decode cX8_isSo 44 = .ok (.iinc 3 1, 3) := by decide +kernel
theorem dX8_isSo_47 : decode cX8_isSo 47 = .ok (.goto (-39), 3) := by decide +kernel
theorem dX8_isSo_50 : decode cX8_isSo 50 = .ok (.aload_n 0, 1) := by decide +kernel
theorem dX8_isSo_51 : decode cX8_isSo 51 = .ok (.invokevirtual 211, 3) := by decide +kernel
theorem dX8_isSo_54 : decode cX8_isSo 54 = .ok (.iload_n 2, 1) := by decide +kernel
theorem dX8_isSo_55 : decode cX8_isSo 55 = .ok (.ireturn, 1) := by decide +kernel
set_option maxRecDepth 20000 in
theorem ggX8_bitsFor_X8_isSo : GoodIn wsX8_bitsFor wsX8_isSo := goodIn_r _ [5, 6, 7, 8, 9, 10, 4, 11, 12, 13, 14, 15, 16, 17, 18, 19, 20, 21, 22, 23, 24, 25, 26, 27, 28, 29, 30, 31, 32, 33, 34, 35, 36, 37, 38, 39, 40, 41, 42, 43, 44, 45, 46, 47, 48, 49, 50, 51, 52, 53, 54, 55, 56, 57, 58, 59, 60, 61, 62, 63, 64, 65, 66, 67, 68, 69, 70, 71, 72, 73, 74, 75, 76, 77, 78, 79, 80, 81, 82, 83] (by decide +kernel) (by decide +kernel)
set_option maxRecDepth 20000 in
theorem gX8_bitsFor_X8_isSo : GoodIn wsX8_bitsFor (wsV RX8 271 RX8 yX8_isSo wsX8_isSo) := goodIn_app (goodIn_of _ (by decide +kernel)) ggX8_bitsFor_X8_isSo
theorem dX8_bitsFor_0 : decode cX8_bitsFor 0 = .ok (.aload_n 1, 1) := by decide +kernel
theorem dX8_bitsFor_1 : decode cX8_bitsFor 1 = .ok (.iload_n 2, 1) := by decide +kernel
theorem dX8_bitsFor_2 : decode cX8_bitsFor 2 = .ok (.iaload, 1) := by decide +kernel
theorem dX8_bitsFor_3 : decode cX8_bitsFor 3 = .ok (.istore 4, 2) := by decide +kernel
theorem dX8_bitsFor_5 : decode cX8_bitsFor 5 = .ok (.iconst 0, 1) := by decide +kernel
theorem dX8_bitsFor_6 : decode cX8_bitsFor 6 = .ok (.istore 5, 2) := by decide +kernel
theorem dX8_bitsFor_8 : decode cX8_bitsFor 8 = .ok (.iconst 0, 1) := by decide +kernel
theorem dX8_bitsFor_9 : decode cX8_bitsFor 9 = .ok (.istore 6, 2) := by decide +kernel
theorem dX8_bitsFor_11 : decode cX8_bitsFor 11 = .ok (.iload 6, 2) := by decide +kernel
theorem dX8_bitsFor_13 : decode cX8_bitsFor 13 = .ok (.iload_n 3, 1) := by decide +kernel
theorem dX8_bitsFor_14 : decode cX8_bitsFor 14 = .ok (.if_icmp .ge 35, 3) := by decide +kernel
theorem dX8_bitsFor_17 : decode cX8_bitsFor 17 = .ok (.aload_n 1, 1) := by decide +kernel
theorem dX8_bitsFor_18 : decode cX8_bitsFor 18 = .ok (.iload_n 2, 1) := by decide +kernel
theorem dX8_bitsFor_19 : decode cX8_bitsFor 19 = .ok (.iload 6, 2) := by decide +kernel
theorem dX8_bitsFor_21 : decode cX8_bitsFor 21 = .ok (.iastore, 1) := by decide +kernel
theorem dX8_bitsFor_22 : decode cX8_bitsFor 22 = .ok (.iload 5, 2) := by decide +kernel
theorem dX8_bitsFor_24 : decode cX8_bitsFor 24 = .ok (.aload_n 0, 1) := by decide +kernel
theorem dX8_bitsFor_25 : decode cX8_bitsFor 25 = .ok (.iload_n 2, 1) := by decide +kernel
theorem dX8_bitsFor_26 : decode cX8_bitsFor 26 = .ok (.invokevirtual 271, 3) := by decide +kernel
theorem dX8_bitsFor_29 : decode cX8_bitsFor 29 = .ok (.ifCond .eq 10, 3) := by decide +kernel
theorem dX8_bitsFor_32 : decode cX8_bitsFor 32 = .ok (.iconst 1, 1) := by decide +kernel
theorem dX8_bitsFor_33 : decode cX8_bitsFor 33 = .ok (.iload 6, 2) := by decide +kernel
theorem dX8_bitsFor_35 : decode cX8_bitsFor 35 = .ok (.ishl, 1) := by decide +kernel
theorem dX8_bitsFor_36 : decode cX8_bitsFor 36 = .ok (.goto 4, 3) := by decide +kernel
theorem dX8_bitsFor_39 : decode cX8_bitsFor 39 = .ok (.iconst 0, 1) := by decide +kernel
theorem dX8_bitsFor_40 : decode cX8_bitsFor 40 = .ok (.ior, 1) := by decide +kernel
theorem dX8_bitsFor_41 : decode cX8_bitsFor 41 = .ok (.istore 5, 2) := by decide +kernel
theorem dX8_bitsFor_43 : decode cX8_bitsFor 43 = .ok (.iinc 6 1, 3) := by decide +kernel
theorem dX8_bitsFor_46 : decode cX8_bitsFor 46 = .ok (.goto (-35), 3) := by decide +kernel
theorem dX8_bitsFor_49 : decode cX8_bitsFor 49 = .ok (.aload_n 1, 1) := by decide +kernel
theorem dX8_bitsFor_50 : decode cX8_bitsFor 50 = .ok (.iload_n 2, 1) := by decide +kernel
theorem dX8_bitsFor_51 : decode cX8_bitsFor 51 = .ok (.iload 4, 2) := by decide +kernel
theorem dX8_bitsFor_53 : decode cX8_bitsFor 53 = .ok (.iastore, 1) := by decide +kernel
theorem dX8_bitsFor_54 : decode cX8_bitsFor 54 = .ok (.iload 5, 2) := by decide +kernel
theorem dX8_bitsFor_56 : decode cX8_bitsFor 56 = .ok (.ireturn, 1) := by decide +kernel
set_option maxRecDepth 20000 in
theorem ggX8_whatIs_X8_isBride : GoodIn wsX8_whatIs wsX8_isBride := goodIn_r _ [7, 8, 71, 72, 73, 74, 75, 76, 77, 78, 79, 80, 81, 82, 83, 84, 85, 86, 87, 88, 89, 90, 91, 92, 93, 94, 95, 96, 97, 98, 99] (by decide +kernel) (by decide +kernel)
set_option maxRecDepth 20000 in
theorem gX8_whatIs_X8_isBride : GoodIn wsX8_whatIs (wsV RX8 130 RX8 yX8_isBride wsX8_isBride) := goodIn_app (goodIn_of _ (by decide +kernel)) ggX8_whatIs_X8_isBride
set_option maxRecDepth 20000 in
theorem ggX8_whatIs_X8_isIn : GoodIn wsX8_whatIs wsX8_isIn := goodIn_r _ [11] (by decide +kernel) (by decide +kernel)
set_option maxRecDepth 20000 in
theorem gX8_whatIs_X8_isIn : GoodIn wsX8_whatIs (va_wsS RX8 97 yX8_isIn wsX8_isIn) := goodIn_app (goodIn_of _ (by decide +kernel)) ggX8_whatIs_X8_isIn
set_option maxRecDepth 20000 in
theorem ggX8_whatIs_X8_no : GoodIn wsX8_whatIs wsX8_no := goodIn_r _ [15, 16, 71, 72, 73, 74, 75, 76, 77, 78, 79, 80, 81, 82, 83, 84, 85, 86, 87, 88, 89, 90, 91, 92, 93, 94, 95, 96, 97, 98, 99] (by decide +kernel) (by decide +kernel)
set_option maxRecDepth 20000 in
theorem gX8_whatIs_X8_no : GoodIn wsX8_whatIs (wsV RX8 86 RX8 yX8_no wsX8_no) := goodIn_app (goodIn_of _ (by decide +kernel)) ggX8_whatIs_X8_no
set_option maxRecDepth 20000 in
theorem ggX8_whatIs_X8_bitsFor : GoodIn wsX8_whatIs wsX8_bitsFor := goodIn_r _ [20, 21, 22, 23, 6, 24, 25, 26, 27, 28, 29, 30, 31, 32, 33, 34, 35, 36, 1, 2, 37, 38, 39, 40, 41, 42, 43, 8, 44, 45, 46, 47, 48, 49, 50, 51, 52, 53, 54, 55, 56, 57, 58, 59, 60, 61, 62, 63, 64, 65, 66, 67, 68, 69, 70, 71, 72, 73, 74, 75, 76, 77, 78, 79, 80, 81, 82, 83, 84, 85, 86, 87, 88, 89, 90, 91, 92, 93, 94, 95, 96, 97, 98, 99] (by decide +kernel) (by decide +kernel)
set_option maxRecDepth 20000 in
theorem gX8_whatIs_X8_bitsFor : GoodIn wsX8_whatIs (wsV RX8 274 RX8 yX8_bitsFor wsX8_bitsFor) := goodIn_app (goodIn_of _ (by decide +kernel)) ggX8_whatIs_X8_bitsFor
theorem dX8_whatIs_0 : decode cX8_whatIs 0 = .ok (.aload_n 0, 1) := by decide +kernel
theorem dX8_whatIs_1 : decode cX8_whatIs 1 = .ok (.iload_n 1, 1) := by decide +kernel
theorem dX8_whatIs_2 : decode cX8_whatIs 2 = .ok (.invokevirtual 130, 3) := by decide +kernel
theorem dX8_whatIs_5 : decode cX8_whatIs 5 = .ok (.ifCond .ne 7, 3) := by decide +kernel
theorem dX8_whatIs_8 : decode cX8_whatIs 8 = .ok (.iconst (-1), 1) := by decide +kernel
theorem dX8_whatIs_9 : decode cX8_whatIs 9 = .ok (.goto 18, 3) := by decide +kernel
theorem dX8_whatIs_12 : decode cX8_whatIs 12 = .ok (.iload_n 2, 1) := by decide +kernel
theorem dX8_whatIs_13 : decode cX8_whatIs 13 = .ok (.iconst 0, 1) := by decide +kernel
theorem dX8_whatIs_14 : decode cX8_whatIs 14 = .ok (.iconst 1, 1) := by decide +kernel
theorem dX8_whatIs_15 : decode cX8_whatIs 15 = .ok (.invokestatic 97, 3) := by decide +kernel
theorem dX8_whatIs_18 : decode cX8_whatIs 18 = .ok (.ifCond .ne 8, 3) := by decide +kernel
theorem dX8_whatIs_21 : decode cX8_whatIs 21 = .ok (.bipush (-2), 2) := by decide +kernel
theorem dX8_whatIs_23 : decode cX8_whatIs 23 = .ok (.goto 4, 3) := by decide +kernel
theorem dX8_whatIs_26 : decode cX8_whatIs 26 = .ok (.iconst 0, 1) := by decide +kernel
theorem dX8_whatIs_27 : decode cX8_whatIs 27 = .ok (.istore_n 3, 1) := by decide +kernel
theorem dX8_whatIs_28 : decode cX8_whatIs 28 = .ok (.iload_n 3, 1) := by decide +kernel
theorem dX8_whatIs_29 : decode cX8_whatIs 29 = .ok (.ifCond .eq 9, 3) := by decide +kernel
theorem dX8_whatIs_32 : decode cX8_whatIs 32 = .ok (.aload_n 0, 1) := by decide +kernel
theorem dX8_whatIs_33 : decode cX8_whatIs 33 = .ok (.iload_n 3, 1) := by decide +kernel
theorem dX8_whatIs_34 : decode cX8_whatIs 34 = .ok (.invokevirtual 86, 3) := by decide +kernel
theorem dX8_whatIs_37 : decode cX8_whatIs 37 = .ok (.ireturn, 1) := by decide +kernel
theorem dX8_whatIs_38 : decode cX8_whatIs 38 = .ok (.iload_n 2, 1) := by decide +kernel
theorem dX8_whatIs_39 : decode cX8_whatIs 39 = .ok (.ifCond .ne 17, 3) := by decide +kernel
theorem dX8_whatIs_42 : decode cX8_whatIs 42 = .ok (.aload_n 0, 1) := by decide +kernel
theorem dX8_whatIs_43 : decode cX8_whatIs 43 = .ok (.aload_n 0, 1) := by decide +kernel
theorem dX8_whatIs_44 : decode cX8_whatIs 44 = .ok (.getfield 13, 3) := by decide +kernel
theorem dX8_whatIs_47 : decode cX8_whatIs 47 = .ok (.iload_n 1, 1) := by decide +kernel
theorem dX8_whatIs_48 : decode cX8_whatIs 48 = .ok (.bipush 6, 2) := by decide +kernel
theorem dX8_whatIs_50 : decode cX8_whatIs 50 = .ok (.invokevirtual 274, 3) := by decide +kernel
theorem dX8_whatIs_53 : decode cX8_whatIs 53 = .ok (.goto 14, 3) := by decide +kernel
theorem dX8_whatIs_56 : decode cX8_whatIs 56 = .ok (.aload_n 0, 1) := by decide +kernel
theorem dX8_whatIs_57 : decode cX8_whatIs 57 = .ok (.aload_n 0, 1) := by decide +kernel
theorem dX8_whatIs_58 : decode cX8_whatIs 58 = .ok (.getfield 16, 3) := by decide +kernel
theorem dX8_whatIs_61 : decode cX8_whatIs 61 = .ok (.iload_n 1, 1) := by decide +kernel
theorem dX8_whatIs_62 : decode cX8_whatIs 62 = .ok (.bipush 10, 2) := by decide +kernel
theorem dX8_whatIs_64 : decode cX8_whatIs 64 = .ok (.invokevirtual 274, 3) := by decide +kernel
theorem dX8_whatIs_67 : decode cX8_whatIs 67 = .ok (.ireturn, 1) := by decide +kernel
theorem dX8_draw_0 : decode cX8_draw 0 = .ok (.aload_n 0, 1) := by decide +kernel
theorem dX8_draw_1 : decode cX8_draw 1 = .ok (.aload_n 0, 1) := by decide +kernel
theorem dX8_draw_2 : decode cX8_draw 2 = .ok (.getfield 278, 3) := by decide +kernel
theorem dX8_draw_5 : decode cX8_draw 5 = .ok (.ldc_w 281, 3) := by decide +kernel
theorem dX8_draw_8 : decode cX8_draw 8 = .ok (.imul, 1) := by decide +kernel
theorem dX8_draw_9 : decode cX8_draw 9 = .ok (.ldc_w 282, 3) := by decide +kernel
theorem dX8_draw_12 : decode cX8_draw 12 = .ok (.iadd, 1) := by decide +kernel
theorem dX8_draw_13 : decode cX8_draw 13 = .ok (.putfield 278, 3) := by decide +kernel
theorem dX8_draw_16 : decode cX8_draw 16 = .ok (.aload_n 0, 1) := by decide +kernel
theorem dX8_draw_17 : decode cX8_draw 17 = .ok (.getfield 278, 3) := by decide +kernel
theorem dX8_draw_20 : decode cX8_draw 20 = .ok (.ldc_w 283, 3) := by decide +kernel
theorem dX8_draw_23 : decode cX8_draw 23 = .ok (.iand, 1) := by decide +kernel
theorem dX8_draw_24 : decode cX8_draw 24 = .ok (.sipush 256, 3) := by decide +kernel
theorem dX8_draw_27 : decode cX8_draw 27 = .ok (.idiv, 1) := by decide +kernel
theorem dX8_draw_28 : decode cX8_draw 28 = .ok (.iload_n 1, 1) := by decide +kernel
theorem dX8_draw_29 : decode cX8_draw 29 = .ok (.irem, 1) := by decide +kernel
theorem dX8_draw_30 : decode cX8_draw 30 = .ok (.ireturn, 1) := by decide +kernel
set_option maxRecDepth 20000 in
theorem ggX8_lots_X8_bound : GoodIn wsX8_lots wsX8_bound := goodIn_r _ [9] (by decide +kernel) (by decide +kernel)
set_option maxRecDepth 20000 in
theorem gX8_lots_X8_bound : GoodIn wsX8_lots (va_wsS RX8 79 yX8_bound wsX8_bound) := goodIn_app (goodIn_of _ (by decide +kernel)) ggX8_lots_X8_bound
set_option maxRecDepth 20000 in
theorem ggX8_lots_X8_isIn : GoodIn wsX8_lots wsX8_isIn := goodIn_r _ [12] (by decide +kernel) (by decide +kernel)
set_option maxRecDepth 20000 in
theorem gX8_lots_X8_isIn : GoodIn wsX8_lots (va_wsS RX8 97 yX8_isIn wsX8_isIn) := goodIn_app (goodIn_of _ (by decide +kernel)) ggX8_lots_X8_isIn
set_option maxRecDepth 20000 in
theorem ggX8_lots_X8_no : GoodIn wsX8_lots wsX8_no := goodIn_r _ [16, 17, 109, 110, 111, 112, 113, 114, 115, 116, 117, 118, 119, 120, 121, 122, 123, 124, 125, 126, 127, 128, 129, 130, 131, 132, 133, 134, 135, 136, 137] (by decide +kernel) (by decide +kernel)
set_option maxRecDepth 20000 in
theorem gX8_lots_X8_no : GoodIn wsX8_lots (wsV RX8 86 RX8 yX8_no wsX8_no) := goodIn_app (goodIn_of _ (by decide +kernel)) ggX8_lots_X8_no
set_option maxRecDepth 20000 in
theorem ggX8_lots_X8_thinks : GoodIn wsX8_lots wsX8_thinks := goodIn_r _ [21, 22, 23, 24, 8, 25, 26, 27, 28, 29, 3, 30, 31, 32, 5, 33, 34, 2, 4, 35, 36, 37, 38, 39, 40, 41, 42, 43, 44, 109, 110, 111, 112, 113, 114, 115, 116, 117, 118, 119, 120, 121, 122, 123, 124, 125, 126, 127, 128, 129, 130, 131, 132, 133, 134, 135, 136, 137] (by decide +kernel) (by decide +kernel)
set_option maxRecDepth 20000 in
theorem gX8_lots_X8_thinks : GoodIn wsX8_lots (wsV RX8 208 RX8 yX8_thinks wsX8_thinks) := goodIn_app (goodIn_of _ (by decide +kernel)) ggX8_lots_X8_thinks
set_option maxRecDepth 20000 in
theorem ggX8_lots_X8_draw : GoodIn wsX8_lots wsX8_draw := goodIn_r _ [48, 1, 49, 50, 51, 109, 110, 111, 112, 113, 114, 115, 116, 117, 118, 119, 120, 121, 122, 123, 124, 125, 126, 127, 128, 129, 130, 131, 132, 133, 134, 135, 136, 137] (by decide +kernel) (by decide +kernel)
set_option maxRecDepth 20000 in
theorem gX8_lots_X8_draw : GoodIn wsX8_lots (wsV RX8 284 RX8 yX8_draw wsX8_draw) := goodIn_app (goodIn_of _ (by decide +kernel)) ggX8_lots_X8_draw
set_option maxRecDepth 20000 in
theorem ggX8_lots_X8_wedsAll : GoodIn wsX8_lots wsX8_wedsAll := goodIn_r _ [55, 4, 56, 57, 58, 8, 59, 34, 60, 61, 62, 63, 2, 30, 64, 65, 66, 67, 33, 68, 69, 70, 71, 72, 73, 74, 75, 32, 5, 76, 77, 78, 79, 80, 81, 82, 83, 3, 29, 35, 28, 84, 85, 86, 87, 88, 89, 90, 91, 92, 93, 94, 95, 96, 97, 98, 99, 100, 31, 101, 102, 103, 104, 109, 110, 111, 112, 113, 114, 115, 116, 117, 118, 119, 120, 121, 122, 123, 124, 125, 126, 127, 128, 129, 130, 131, 132, 133, 134, 135, 136, 137] (by decide +kernel) (by decide +kernel)
set_option maxRecDepth 20000 in
theorem gX8_lots_X8_wedsAll : GoodIn wsX8_lots (wsV RX8 247 RX8 yX8_wedsAll wsX8_wedsAll) := goodIn_app (goodIn_of _ (by decide +kernel)) ggX8_lots_X8_wedsAll
set_option maxRecDepth 20000 in
theorem ggX8_lots_X8_forgets : GoodIn wsX8_lots wsX8_forgets := goodIn_r _ [108, 22, 23, 24, 8, 25, 26, 27, 28, 29, 3, 30, 31, 32, 5, 33, 34, 2, 4, 35, 36, 37, 38, 39, 40, 41, 42, 43, 44, 109, 110, 111, 112, 113, 114, 115, 116, 117, 118, 119, 120, 121, 122, 123, 124, 125, 126, 127, 128, 129, 130, 131, 132, 133, 134, 135, 136, 137] (by decide +kernel) (by decide +kernel)
set_option maxRecDepth 20000 in
theorem gX8_lots_X8_forgets : GoodIn wsX8_lots (wsV RX8 211 RX8 yX8_forgets wsX8_forgets) := goodIn_app (goodIn_of _ (by decide +kernel)) ggX8_lots_X8_forgets
theorem dX8_lots_0 : decode cX8_lots 0 = .ok (.iload_n 1, 1) := by decide +kernel
theorem dX8_lots_1 : decode cX8_lots 1 = .ok (.iconst 1, 1) := by decide +kernel
theorem dX8_lots_2 : decode cX8_lots 2 = .ok (.bipush 20, 2) := by decide +kernel
theorem dX8_lots_4 : decode cX8_lots 4 = .ok (.invokestatic 79, 3) := by decide +kernel
theorem dX8_lots_7 : decode cX8_lots 7 = .ok (.istore 4, 2) := by decide +kernel
theorem dX8_lots_9 : decode cX8_lots 9 = .ok (.iload 4, 2) := by decide +kernel
theorem dX8_lots_11 : decode cX8_lots 11 = .ok (.ifCond .ne 16, 3) := by decide +kernel
theorem dX8_lots_14 : decode cX8_lots 14 = .ok (.iload_n 3, 1) := by decide +kernel
theorem dX8_lots_15 : decode cX8_lots 15 = .ok (.iconst 0, 1) := by decide +kernel
theorem dX8_lots_16 : decode cX8_lots 16 = .ok (.iconst 1, 1) := by decide +kernel
theorem dX8_lots_17 : decode cX8_lots 17 = .ok (.invokestatic 97, 3) := by decide +kernel
theorem dX8_lots_20 : decode cX8_lots 20 = .ok (.ifCond .ne 7, 3) := by decide +kernel
theorem dX8_lots_23 : decode cX8_lots 23 = .ok (.bipush (-2), 2) := by decide +kernel
theorem dX8_lots_25 : decode cX8_lots 25 = .ok (.istore 4, 2) := by decide +kernel
theorem dX8_lots_27 : decode cX8_lots 27 = .ok (.iload 4, 2) := by decide +kernel
theorem dX8_lots_29 : decode cX8_lots 29 = .ok (.ifCond .eq 10, 3) := by decide +kernel
theorem dX8_lots_32 : decode cX8_lots 32 = .ok (.aload_n 0, 1) := by decide +kernel
theorem dX8_lots_33 : decode cX8_lots 33 = .ok (.iload 4, 2) := by decide +kernel
theorem dX8_lots_35 : decode cX8_lots 35 = .ok (.invokevirtual 86, 3) := by decide +kernel
theorem dX8_lots_38 : decode cX8_lots 38 = .ok (.ireturn, 1) := by decide +kernel
theorem dX8_lots_39 : decode cX8_lots 39 = .ok (.aload_n 0, 1) := by decide +kernel
theorem dX8_lots_40 : decode cX8_lots 40 = .ok (.iload_n 2, 1) := by decide +kernel
theorem dX8_lots_41 : decode cX8_lots 41 = .ok (.putfield 278, 3) := by decide +kernel
theorem dX8_lots_44 : decode cX8_lots 44 = .ok (.iconst 0, 1) := by decide +kernel
theorem dX8_lots_45 : decode cX8_lots 45 = .ok (.istore 5, 2) := by decide +kernel
theorem dX8_lots_47 : decode cX8_lots 47 = .ok (.iconst 0, 1) := by decide +kernel
theorem dX8_lots_48 : decode cX8_lots 48 = .ok (.istore 6, 2) := by decide +kernel
theorem dX8_lots_50 : decode cX8_lots 50 = .ok (.iload 6, 2) := by decide +kernel
theorem dX8_lots_52 : decode cX8_lots 52 = .ok (.iload_n 1, 1) := by decide +kernel
theorem dX8_lots_53 : decode cX8_lots 53 = .ok (.if_icmp .ge 107, 3) := by decide +kernel
theorem dX8_lots_56 : decode cX8_lots 56 = .ok (.aload_n 0, 1) := by decide +kernel
theorem dX8_lots_57 : decode cX8_lots 57 = .ok (.invokevirtual 208, 3) := by decide +kernel
theorem dX8_lots_60 : decode cX8_lots 60 = .ok (.iconst 0, 1) := by decide +kernel
theorem dX8_lots_61 : decode cX8_lots 61 = .ok (.istore 7, 2) := by decide +kernel
theorem dX8_lots_63 : decode cX8_lots 63 = .ok (.iload 7, 2) := by decide +kernel
theorem dX8_lots_65 : decode cX8_lots 65 = .ok (.aload_n 0, 1) := by decide +kernel
theorem dX8_lots_66 : decode cX8_lots 66 = .ok (.getfield 66, 3) := by decide +kernel
theorem dX8_lots_69 : decode cX8_lots 69 = .ok (.if_icmp .ge 22, 3) := by decide +kernel
theorem dX8_lots_72 : decode cX8_lots 72 = .ok (.aload_n 0, 1) := by decide +kernel
theorem dX8_lots_73 : decode cX8_lots 73 = .ok (.getfield 19, 3) := by decide +kernel
theorem dX8_lots_76 : decode cX8_lots 76 = .ok (.iload 7, 2) := by decide +kernel
theorem dX8_lots_78 : decode cX8_lots 78 = .ok (.aload_n 0, 1) := by decide +kernel
theorem dX8_lots_79 : decode cX8_lots 79 = .ok (.bipush 64, 2) := by decide +kernel
theorem dX8_lots_81 : decode cX8_lots 81 = .ok (.invokevirtual 284, 3) := by decide +kernel
theorem dX8_lots_84 : decode cX8_lots 84 = .ok (.iastore, 1) := by decide +kernel
theorem dX8_lots_85 : decode cX8_lots 85 = .ok (.iinc 7 1, 3) := by decide +kernel
theorem dX8_lots_88 : decode cX8_lots 88 = .ok (.goto (-25), 3) := by decide +kernel
theorem dX8_lots_91 : decode cX8_lots 91 = .ok (.iconst 0, 1) := by decide +kernel
theorem dX8_lots_92 : decode cX8_lots 92 = .ok (.istore 7, 2) := by decide +kernel
theorem dX8_lots_94 : decode cX8_lots 94 = .ok (.iload 7, 2) := by decide +kernel
theorem dX8_lots_96 : decode cX8_lots 96 = .ok (.aload_n 0, 1) := by decide +kernel
theorem dX8_lots_97 : decode cX8_lots 97 = .ok (.getfield 76, 3) := by decide +kernel
theorem dX8_lots_100 : decode cX8_lots 100 = .ok (.if_icmp .ge 22, 3) := by decide +kernel
theorem dX8_lots_103 : decode cX8_lots 103 = .ok (.aload_n 0, 1) := by decide +kernel
theorem dX8_lots_104 : decode cX8_lots 104 = .ok (.getfield 31, 3) := by decide +kernel
theorem dX8_lots_107 : decode cX8_lots 107 = .ok (.iload 7, 2) := by decide +kernel
theorem dX8_lots_109 : decode cX8_lots 109 = .ok (.aload_n 0, 1) := by decide +kernel
theorem dX8_lots_110 : decode cX8_lots 110 = .ok (.bipush 64, 2) := by decide +kernel
theorem dX8_lots_112 : decode cX8_lots 112 = .ok (.invokevirtual 284, 3) := by decide +kernel
theorem dX8_lots_115 : decode cX8_lots 115 = .ok (.iastore, 1) := by decide +kernel
theorem dX8_lots_116 : decode cX8_lots 116 = .ok (.iinc 7 1, 3) := by decide +kernel
theorem dX8_lots_119 : decode cX8_lots 119 = .ok (.goto (-25), 3) := by decide +kernel
theorem dX8_lots_122 : decode cX8_lots 122 = .ok (.aload_n 0, 1) := by decide +kernel
theorem dX8_lots_123 : decode cX8_lots 123 = .ok (.invokevirtual 247, 3) := by decide +kernel
theorem dX8_lots_126 : decode cX8_lots 126 = .ok (.istore 7, 2) := by decide +kernel
theorem dX8_lots_128 : decode cX8_lots 128 = .ok (.iload 5, 2) := by decide +kernel
theorem dX8_lots_130 : decode cX8_lots 130 = .ok (.iload_n 3, 1) := by decide +kernel
theorem dX8_lots_131 : decode cX8_lots 131 = .ok (.ifCond .ne 11, 3) := by decide +kernel
theorem dX8_lots_134 : decode cX8_lots 134 = .ok (.iload 7, 2) := by decide +kernel
theorem dX8_lots_136 : decode cX8_lots 136 = .ok (.bipush 100, 2) := by decide +kernel
theorem dX8_lots_138 : decode cX8_lots 138 = .ok (.idiv, 1) := by decide +kernel
theorem dX8_lots_139 : decode cX8_lots 139 = .ok (.goto 8, 3) := by decide +kernel
theorem dX8_lots_142 : decode cX8_lots 142 = .ok (.iload 7, 2) := by decide +kernel
theorem dX8_lots_144 : decode cX8_lots 144 = .ok (.bipush 100, 2) := by decide +kernel
theorem dX8_lots_146 : decode cX8_lots 146 = .ok (.irem, 1) := by decide +kernel
theorem dX8_lots_147 : decode cX8_lots 147 = .ok (.iadd, 1) := by decide +kernel
theorem dX8_lots_148 : decode cX8_lots 148 = .ok (.istore 5, 2) := by decide +kernel
theorem dX8_lots_150 : decode cX8_lots 150 = .ok (.aload_n 0, 1) := by decide +kernel
theorem dX8_lots_151 : decode cX8_lots 151 = .ok (.invokevirtual 211, 3) := by decide +kernel
theorem dX8_lots_154 : decode cX8_lots 154 = .ok (.iinc 6 1, 3) := by decide +kernel
theorem dX8_lots_157 : decode cX8_lots 157 = .ok (.goto (-107), 3) := by decide +kernel
theorem dX8_lots_160 : decode cX8_lots 160 = .ok (.iload 5, 2) := by decide +kernel
theorem dX8_lots_162 : decode cX8_lots 162 = .ok (.ireturn, 1) := by decide +kernel
theorem dX8_marriedOnes_0 : decode cX8_marriedOnes 0 = .ok (.iconst 0, 1) := by decide +kernel
theorem dX8_marriedOnes_1 : decode cX8_marriedOnes 1 = .ok (.istore_n 1, 1) := by decide +kernel
theorem dX8_marriedOnes_2 : decode cX8_marriedOnes 2 = .ok (.iconst 0, 1) := by decide +kernel
theorem dX8_marriedOnes_3 : decode cX8_marriedOnes 3 = .ok (.istore_n 2, 1) := by decide +kernel
theorem dX8_marriedOnes_4 : decode cX8_marriedOnes 4 = .ok (.iload_n 2, 1) := by decide +kernel
theorem dX8_marriedOnes_5 : decode cX8_marriedOnes 5 = .ok (.aload_n 0, 1) := by decide +kernel
theorem dX8_marriedOnes_6 : decode cX8_marriedOnes 6 = .ok (.getfield 76, 3) := by decide +kernel
theorem dX8_marriedOnes_9 : decode cX8_marriedOnes 9 = .ok (.if_icmp .ge 20, 3) := by decide +kernel
theorem dX8_marriedOnes_12 : decode cX8_marriedOnes 12 = .ok (.iload_n 1, 1) := by decide +kernel
theorem dX8_marriedOnes_13 : decode cX8_marriedOnes 13 = .ok (.aload_n 0, 1) := by decide +kernel
theorem dX8_marriedOnes_14 : decode cX8_marriedOnes 14 = .ok (.getfield 37, 3) := by decide +kernel
theorem dX8_marriedOnes_17 : decode cX8_marriedOnes 17 = .ok (.iload_n 2, 1) := by decide +kernel
theorem dX8_marriedOnes_18 : decode cX8_marriedOnes 18 = .ok (.iaload, 1) := by decide +kernel
theorem dX8_marriedOnes_19 : decode cX8_marriedOnes 19 = .ok (.iload_n 2, 1) := by decide +kernel
theorem dX8_marriedOnes_20 : decode cX8_marriedOnes 20 = .ok (.ishl, 1) := by decide +kernel
theorem dX8_marriedOnes_21 : decode cX8_marriedOnes 21 = .ok (.ior, 1) := by decide +kernel
theorem dX8_marriedOnes_22 : decode cX8_marriedOnes 22 = .ok (.istore_n 1, 1) := by decide +kernel
theorem dX8_marriedOnes_23 : decode cX8_marriedOnes 23 = .ok (.iinc 2 1, 3) := by decide +kernel
theorem dX8_marriedOnes_26 : decode cX8_marriedOnes 26 = .ok (.goto (-22), 3) := by decide +kernel
theorem dX8_marriedOnes_29 : decode cX8_marriedOnes 29 = .ok (.iload_n 1, 1) := by decide +kernel
theorem dX8_marriedOnes_30 : decode cX8_marriedOnes 30 = .ok (.ireturn, 1) := by decide +kernel
set_option maxRecDepth 20000 in
theorem ggX8_count_X8_isIn : GoodIn wsX8_count wsX8_isIn := goodIn_r _ [11] (by decide +kernel) (by decide +kernel)
set_option maxRecDepth 20000 in
theorem gX8_count_X8_isIn : GoodIn wsX8_count (va_wsS RX8 97 yX8_isIn wsX8_isIn) := goodIn_app (goodIn_of _ (by decide +kernel)) ggX8_count_X8_isIn
set_option maxRecDepth 20000 in
theorem ggX8_count_X8_here : GoodIn wsX8_count wsX8_here := goodIn_r _ [15, 2, 16, 22, 23, 24, 25, 26, 27, 28, 29, 30, 31, 32, 33, 34, 35, 36, 37, 38, 39, 40, 41, 42, 43, 44, 45, 46, 47, 48, 49, 50] (by decide +kernel) (by decide +kernel)
set_option maxRecDepth 20000 in
theorem gX8_count_X8_here : GoodIn wsX8_count (wsV RX8 192 RX8 yX8_here wsX8_here) := goodIn_app (goodIn_of _ (by decide +kernel)) ggX8_count_X8_here
set_option maxRecDepth 20000 in
theorem ggX8_count_X8_marriedOnes : GoodIn wsX8_count wsX8_marriedOnes := goodIn_r _ [20, 3, 21, 22, 23, 24, 25, 26, 27, 28, 29, 30, 31, 32, 33, 34, 35, 36, 37, 38, 39, 40, 41, 42, 43, 44, 45, 46, 47, 48, 49, 50] (by decide +kernel) (by decide +kernel)
set_option maxRecDepth 20000 in
theorem gX8_count_X8_marriedOnes : GoodIn wsX8_count (wsV RX8 287 RX8 yX8_marriedOnes wsX8_marriedOnes) := goodIn_app (goodIn_of _ (by decide +kernel)) ggX8_count_X8_marriedOnes
theorem dX8_count_0 : decode cX8_count 0 = .ok (.iload_n 1, 1) := by decide +kernel
theorem dX8_count_1 : decode cX8_count 1 = .ok (.bipush 11, 2) := by decide +kernel
theorem dX8_count_3 : decode cX8_count 3 = .ok (.bipush 16, 2) := by decide +kernel
theorem dX8_count_5 : decode cX8_count 5 = .ok (.invokestatic 97, 3) := by decide +kernel
theorem dX8_count_8 : decode cX8_count 8 = .ok (.ifCond .eq 13, 3) := by decide +kernel
theorem dX8_count_11 : decode cX8_count 11 = .ok (.aload_n 0, 1) := by decide +kernel
theorem dX8_count_12 : decode cX8_count 12 = .ok (.getfield 7, 3) := by decide +kernel
theorem dX8_count_15 : decode cX8_count 15 = .ok (.iload_n 1, 1) := by decide +kernel
theorem dX8_count_16 : decode cX8_count 16 = .ok (.bipush 10, 2) := by decide +kernel
theorem dX8_count_18 : decode cX8_count 18 = .ok (.isub, 1) := by decide +kernel
theorem dX8_count_19 : decode cX8_count 19 = .ok (.iaload, 1) := by decide +kernel
theorem dX8_count_20 : decode cX8_count 20 = .ok (.ireturn, 1) := by decide +kernel
theorem dX8_count_21 : decode cX8_count 21 = .ok (.iconst 0, 1) := by decide +kernel
theorem dX8_count_22 : decode cX8_count 22 = .ok (.istore_n 2, 1) := by decide +kernel
theorem dX8_count_23 : decode cX8_count 23 = .ok (.iload_n 1, 1) := by decide +kernel
theorem dX8_count_24 : decode cX8_count 24 = .ok (.tableswitch 110 0 7 #[48, 53, 58, 63, 68, 73, 100, 105], 48) := by decide +kernel
theorem dX8_count_72 : decode cX8_count 72 = .ok (.aload_n 0, 1) := by decide +kernel
theorem dX8_count_73 : decode cX8_count 73 = .ok (.getfield 66, 3) := by decide +kernel
theorem dX8_count_76 : decode cX8_count 76 = .ok (.ireturn, 1) := by decide +kernel
theorem dX8_count_77 : decode cX8_count 77 = .ok (.aload_n 0, 1) := by decide +kernel
theorem dX8_count_78 : decode cX8_count 78 = .ok (.getfield 76, 3) := by decide +kernel
theorem dX8_count_81 : decode cX8_count 81 = .ok (.ireturn, 1) := by decide +kernel
theorem dX8_count_82 : decode cX8_count 82 = .ok (.aload_n 0, 1) := by decide +kernel
theorem dX8_count_83 : decode cX8_count 83 = .ok (.getfield 117, 3) := by decide +kernel
theorem dX8_count_86 : decode cX8_count 86 = .ok (.ireturn, 1) := by decide +kernel
theorem dX8_count_87 : decode cX8_count 87 = .ok (.aload_n 0, 1) := by decide +kernel
theorem dX8_count_88 : decode cX8_count 88 = .ok (.invokevirtual 192, 3) := by decide +kernel
theorem dX8_count_91 : decode cX8_count 91 = .ok (.ireturn, 1) := by decide +kernel
theorem dX8_count_92 : decode cX8_count 92 = .ok (.aload_n 0, 1) := by decide +kernel
theorem dX8_count_93 : decode cX8_count 93 = .ok (.invokevirtual 287, 3) := by decide +kernel
theorem dX8_count_96 : decode cX8_count 96 = .ok (.ireturn, 1) := by decide +kernel
theorem dX8_count_97 : decode cX8_count 97 = .ok (.iconst 0, 1) := by decide +kernel
theorem dX8_count_98 : decode cX8_count 98 = .ok (.istore_n 3, 1) := by decide +kernel
theorem dX8_count_99 : decode cX8_count 99 = .ok (.iload_n 3, 1) := by decide +kernel
theorem dX8_count_100 : decode cX8_count 100 = .ok (.aload_n 0, 1) := by decide +kernel
theorem dX8_count_101 : decode cX8_count 101 = .ok (.getfield 76, 3) := by decide +kernel
theorem dX8_count_104 : decode cX8_count 104 = .ok (.if_icmp .ge 18, 3) := by decide +kernel
theorem dX8_count_107 : decode cX8_count 107 = .ok (.iload_n 2, 1) := by decide +kernel
theorem dX8_count_108 : decode cX8_count 108 = .ok (.aload_n 0, 1) := by decide +kernel
theorem dX8_count_109 : decode cX8_count 109 = .ok (.getfield 34, 3) := by decide +kernel
theorem dX8_count_112 : decode cX8_count 112 = .ok (.iload_n 3, 1) := by decide +kernel
theorem dX8_count_113 : decode cX8_count 113 = .ok (.iaload, 1) := by decide +kernel
theorem dX8_count_114 : decode cX8_count 114 = .ok (.iadd, 1) := by decide +kernel
theorem dX8_count_115 : decode cX8_count 115 = .ok (.istore_n 2, 1) := by decide +kernel
theorem dX8_count_116 : decode cX8_count 116 = .ok (.iinc 3 1, 3) := by decide +kernel
theorem dX8_count_119 : decode cX8_count 119 = .ok (.goto (-20), 3) := by decide +kernel
theorem dX8_count_122 : decode cX8_count 122 = .ok (.iload_n 2, 1) := by decide +kernel
theorem dX8_count_123 : decode cX8_count 123 = .ok (.ireturn, 1) := by decide +kernel
theorem dX8_count_124 : decode cX8_count 124 = .ok (.aload_n 0, 1) := by decide +kernel
theorem dX8_count_125 : decode cX8_count 125 = .ok (.getfield 250, 3) := by decide +kernel
theorem dX8_count_128 : decode cX8_count 128 = .ok (.ireturn, 1) := by decide +kernel
theorem dX8_count_129 : decode cX8_count 129 = .ok (.aload_n 0, 1) := by decide +kernel
theorem dX8_count_130 : decode cX8_count 130 = .ok (.getfield 83, 3) := by decide +kernel
theorem dX8_count_133 : decode cX8_count 133 = .ok (.ireturn, 1) := by decide +kernel
theorem dX8_count_134 : decode cX8_count 134 = .ok (.bipush (-9), 2) := by decide +kernel
theorem dX8_count_136 : decode cX8_count 136 = .ok (.ireturn, 1) := by decide +kernel
theorem dJ11_isValidCodePoint_9a6ad_0 : decode cJ11_isValidCodePoint_9a6ad 0 = .ok (.iload_n 0, 1) := by decide +kernel
theorem dJ11_isValidCodePoint_9a6ad_1 : decode cJ11_isValidCodePoint_9a6ad 1 = .ok (.bipush 16, 2) := by decide +kernel
theorem dJ11_isValidCodePoint_9a6ad_3 : decode cJ11_isValidCodePoint_9a6ad 3 = .ok (.iushr, 1) := by decide +kernel
theorem dJ11_isValidCodePoint_9a6ad_4 : decode cJ11_isValidCodePoint_9a6ad 4 = .ok (.istore_n 1, 1) := by decide +kernel
theorem dJ11_isValidCodePoint_9a6ad_5 : decode cJ11_isValidCodePoint_9a6ad 5 = .ok (.iload_n 1, 1) := by decide +kernel
theorem dJ11_isValidCodePoint_9a6ad_6 : decode cJ11_isValidCodePoint_9a6ad 6 = .ok (.bipush 17, 2) := by decide +kernel
theorem dJ11_isValidCodePoint_9a6ad_8 : decode cJ11_isValidCodePoint_9a6ad 8 = .ok (.if_icmp .ge 7, 3) := by decide +kernel
theorem dJ11_isValidCodePoint_9a6ad_11 : decode cJ11_isValidCodePoint_9a6ad 11 = .ok (.iconst 1, 1) := by decide +kernel
theorem dJ11_isValidCodePoint_9a6ad_12 : decode cJ11_isValidCodePoint_9a6ad 12 = .ok (.goto 4, 3) := by decide +kernel
theorem dJ11_isValidCodePoint_9a6ad_15 : decode cJ11_isValidCodePoint_9a6ad 15 = .ok (.iconst 0, 1) := by decide +kernel
theorem dJ11_isValidCodePoint_9a6ad_16 : decode cJ11_isValidCodePoint_9a6ad 16 = .ok (.ireturn, 1) := by decide +kernel
theorem dJ11_highSurrogate_5068e_0 : decode cJ11_highSurrogate_5068e 0 = .ok (.iload_n 0, 1) := by decide +kernel
theorem dJ11_highSurrogate_5068e_1 : decode cJ11_highSurrogate_5068e 1 = .ok (.bipush 10, 2) := by decide +kernel
theorem dJ11_highSurrogate_5068e_3 : decode cJ11_highSurrogate_5068e 3 = .ok (.iushr, 1) := by decide +kernel
theorem dJ11_highSurrogate_5068e_4 : decode cJ11_highSurrogate_5068e 4 = .ok (.ldc 110, 2) := by decide +kernel
theorem dJ11_highSurrogate_5068e_6 : decode cJ11_highSurrogate_5068e 6 = .ok (.iadd, 1) := by decide +kernel
theorem dJ11_highSurrogate_5068e_7 : decode cJ11_highSurrogate_5068e 7 = .ok (.i2c, 1) := by decide +kernel
theorem dJ11_highSurrogate_5068e_8 : decode cJ11_highSurrogate_5068e 8 = .ok (.ireturn, 1) := by decide +kernel
theorem dJ11_lowSurrogate_5068e_0 : decode cJ11_lowSurrogate_5068e 0 = .ok (.iload_n 0, 1) := by decide +kernel
theorem dJ11_lowSurrogate_5068e_1 : decode cJ11_lowSurrogate_5068e 1 = .ok (.sipush 1023, 3) := by decide +kernel
theorem dJ11_lowSurrogate_5068e_4 : decode cJ11_lowSurrogate_5068e 4 = .ok (.iand, 1) := by decide +kernel
theorem dJ11_lowSurrogate_5068e_5 : decode cJ11_lowSurrogate_5068e 5 = .ok (.ldc 76, 2) := by decide +kernel
theorem dJ11_lowSurrogate_5068e_7 : decode cJ11_lowSurrogate_5068e 7 = .ok (.iadd, 1) := by decide +kernel
theorem dJ11_lowSurrogate_5068e_8 : decode cJ11_lowSurrogate_5068e 8 = .ok (.i2c, 1) := by decide +kernel
theorem dJ11_lowSurrogate_5068e_9 : decode cJ11_lowSurrogate_5068e 9 = .ok (.ireturn, 1) := by decide +kernel
theorem dJ6_bitCount_0f7a4_0 : decode cJ6_bitCount_0f7a4 0 = .ok (.iload_n 0, 1) := by decide +kernel
theorem dJ6_bitCount_0f7a4_1 : decode cJ6_bitCount_0f7a4 1 = .ok (.iload_n 0, 1) := by decide +kernel
theorem dJ6_bitCount_0f7a4_2 : decode cJ6_bitCount_0f7a4 2 = .ok (.iconst 1, 1) := by decide +kernel
theorem dJ6_bitCount_0f7a4_3 : decode cJ6_bitCount_0f7a4 3 = .ok (.iushr, 1) := by decide +kernel
theorem dJ6_bitCount_0f7a4_4 : decode cJ6_bitCount_0f7a4 4 = .ok (.ldc_w 265, 3) := by decide +kernel
theorem dJ6_bitCount_0f7a4_7 : decode cJ6_bitCount_0f7a4 7 = .ok (.iand, 1) := by decide +kernel
theorem dJ6_bitCount_0f7a4_8 : decode cJ6_bitCount_0f7a4 8 = .ok (.isub, 1) := by decide +kernel
theorem dJ6_bitCount_0f7a4_9 : decode cJ6_bitCount_0f7a4 9 = .ok (.istore_n 0, 1) := by decide +kernel
theorem dJ6_bitCount_0f7a4_10 : decode cJ6_bitCount_0f7a4 10 = .ok (.iload_n 0, 1) := by decide +kernel
theorem dJ6_bitCount_0f7a4_11 : decode cJ6_bitCount_0f7a4 11 = .ok (.ldc_w 266, 3) := by decide +kernel
theorem dJ6_bitCount_0f7a4_14 : decode cJ6_bitCount_0f7a4 14 = .ok (.iand, 1) := by decide +kernel
theorem dJ6_bitCount_0f7a4_15 : decode cJ6_bitCount_0f7a4 15 = .ok (.iload_n 0, 1) := by decide +kernel
theorem dJ6_bitCount_0f7a4_16 : decode cJ6_bitCount_0f7a4 16 = .ok (.iconst 2, 1) := by decide +kernel
theorem dJ6_bitCount_0f7a4_17 : decode cJ6_bitCount_0f7a4 17 = .ok (.iushr, 1) := by decide +kernel
theorem dJ6_bitCount_0f7a4_18 : decode cJ6_bitCount_0f7a4 18 = .ok (.ldc_w 266, 3) := by decide +kernel
theorem dJ6_bitCount_0f7a4_21 : decode cJ6_bitCount_0f7a4 21 = .ok (.iand, 1) := by decide +kernel
theorem dJ6_bitCount_0f7a4_22 : decode cJ6_bitCount_0f7a4 22 = .ok (.iadd, 1) := by decide +kernel
theorem dJ6_bitCount_0f7a4_23 : decode cJ6_bitCount_0f7a4 23 = .ok (.istore_n 0, 1) := by decide +kernel
theorem dJ6_bitCount_0f7a4_24 : decode cJ6_bitCount_0f7a4 24 = .ok (.iload_n 0, 1) := by decide +kernel
theorem dJ6_bitCount_0f7a4_25 : decode cJ6_bitCount_0f7a4 25 = .ok (.iload_n 0, 1) := by decide +kernel
theorem dJ6_bitCount_0f7a4_26 : decode cJ6_bitCount_0f7a4 26 = .ok (.iconst 4, 1) := by decide +kernel
theorem dJ6_bitCount_0f7a4_27 : decode cJ6_bitCount_0f7a4 27 = .ok (.iushr, 1) := by decide +kernel
theorem dJ6_bitCount_0f7a4_28 : decode cJ6_bitCount_0f7a4 28 = .ok (.iadd, 1) := by decide +kernel
theorem dJ6_bitCount_0f7a4_29 : decode cJ6_bitCount_0f7a4 29 = .ok (.ldc_w 267, 3) := by decide +kernel
theorem dJ6_bitCount_0f7a4_32 : decode cJ6_bitCount_0f7a4 32 = .ok (.iand, 1) := by decide +kernel
theorem dJ6_bitCount_0f7a4_33 : decode cJ6_bitCount_0f7a4 33 = .ok (.istore_n 0, 1) := by decide +kernel
theorem dJ6_bitCount_0f7a4_34 : decode cJ6_bitCount_0f7a4 34 = .ok (.iload_n 0, 1) := by decide +kernel
theorem dJ6_bitCount_0f7a4_35 : decode cJ6_bitCount_0f7a4 35 = .ok (.iload_n 0, 1) := by decide +kernel
theorem dJ6_bitCount_0f7a4_36 : decode cJ6_bitCount_0f7a4 36 = .ok (.bipush 8, 2) := by decide +kernel
theorem dJ6_bitCount_0f7a4_38 : decode cJ6_bitCount_0f7a4 38 = .ok (.iushr, 1) := by decide +kernel
theorem dJ6_bitCount_0f7a4_39 : decode cJ6_bitCount_0f7a4 39 = .ok (.iadd, 1) := by decide +kernel
theorem dJ6_bitCount_0f7a4_40 : decode cJ6_bitCount_0f7a4 40 = .ok (.istore_n 0, 1) := by decide +kernel
theorem dJ6_bitCount_0f7a4_41 : decode cJ6_bitCount_0f7a4 41 = .ok (.iload_n 0, 1) := by decide +kernel
theorem dJ6_bitCount_0f7a4_42 : decode cJ6_bitCount_0f7a4 42 = .ok (.iload_n 0, 1) := by decide +kernel
theorem dJ6_bitCount_0f7a4_43 : decode cJ6_bitCount_0f7a4 43 = .ok (.bipush 16, 2) := by decide +kernel
theorem dJ6_bitCount_0f7a4_45 : decode cJ6_bitCount_0f7a4 45 = .ok (.iushr, 1) := by decide +kernel
theorem dJ6_bitCount_0f7a4_46 : decode cJ6_bitCount_0f7a4 46 = .ok (.iadd, 1) := by decide +kernel
theorem dJ6_bitCount_0f7a4_47 : decode cJ6_bitCount_0f7a4 47 = .ok (.istore_n 0, 1) := by decide +kernel
theorem dJ6_bitCount_0f7a4_48 : decode cJ6_bitCount_0f7a4 48 = .ok (.iload_n 0, 1) := by decide +kernel
theorem dJ6_bitCount_0f7a4_49 : decode cJ6_bitCount_0f7a4 49 = .ok (.bipush 63, 2) := by decide +kernel
theorem dJ6_bitCount_0f7a4_51 : decode cJ6_bitCount_0f7a4 51 = .ok (.iand, 1) := by decide +kernel
theorem dJ6_bitCount_0f7a4_52 : decode cJ6_bitCount_0f7a4 52 = .ok (.ireturn, 1) := by decide +kernel
theorem dJ9_abs_0f7a4_0 : decode cJ9_abs_0f7a4 0 = .ok (.iload_n 0, 1) := by decide +kernel
theorem dJ9_abs_0f7a4_1 : decode cJ9_abs_0f7a4 1 = .ok (.ifCond .ge 8, 3) := by decide +kernel
theorem dJ9_abs_0f7a4_4 : decode cJ9_abs_0f7a4 4 = .ok (.iload_n 0, 1) := by decide +kernel
theorem dJ9_abs_0f7a4_5 : decode cJ9_abs_0f7a4 5 = .ok (.ineg, 1) := by decide +kernel
theorem dJ9_abs_0f7a4_6 : decode cJ9_abs_0f7a4 6 = .ok (.goto 4, 3) := by decide +kernel
theorem dJ9_abs_0f7a4_9 : decode cJ9_abs_0f7a4 9 = .ok (.iload_n 0, 1) := by decide +kernel
theorem dJ9_abs_0f7a4_10 : decode cJ9_abs_0f7a4 10 = .ok (.ireturn, 1) := by decide +kernel
theorem dJ9_max_7cf53_0 : decode cJ9_max_7cf53 0 = .ok (.iload_n 0, 1) := by decide +kernel
theorem dJ9_max_7cf53_1 : decode cJ9_max_7cf53 1 = .ok (.iload_n 1, 1) := by decide +kernel
theorem dJ9_max_7cf53_2 : decode cJ9_max_7cf53 2 = .ok (.if_icmp .lt 7, 3) := by decide +kernel
theorem dJ9_max_7cf53_5 : decode cJ9_max_7cf53 5 = .ok (.iload_n 0, 1) := by decide +kernel
theorem dJ9_max_7cf53_6 : decode cJ9_max_7cf53 6 = .ok (.goto 4, 3) := by decide +kernel
theorem dJ9_max_7cf53_9 : decode cJ9_max_7cf53 9 = .ok (.iload_n 1, 1) := by decide +kernel
theorem dJ9_max_7cf53_10 : decode cJ9_max_7cf53 10 = .ok (.ireturn, 1) := by decide +kernel
theorem dJ9_min_7cf53_0 : decode cJ9_min_7cf53 0 = .ok (.iload_n 0, 1) := by decide +kernel
theorem dJ9_min_7cf53_1 : decode cJ9_min_7cf53 1 = .ok (.iload_n 1, 1) := by decide +kernel
theorem dJ9_min_7cf53_2 : decode cJ9_min_7cf53 2 = .ok (.if_icmp .gt 7, 3) := by decide +kernel
theorem dJ9_min_7cf53_5 : decode cJ9_min_7cf53 5 = .ok (.iload_n 0, 1) := by decide +kernel
theorem dJ9_min_7cf53_6 : decode cJ9_min_7cf53 6 = .ok (.goto 4, 3) := by decide +kernel
theorem dJ9_min_7cf53_9 : decode cJ9_min_7cf53 9 = .ok (.iload_n 1, 1) := by decide +kernel
theorem dJ9_min_7cf53_10 : decode cJ9_min_7cf53 10 = .ok (.ireturn, 1) := by decide +kernel
set_option maxRecDepth 20000 in
theorem ggJ0_length_8abf5_J0_coder_7d493 : GoodIn wsJ0_length_8abf5 wsJ0_coder_7d493 := goodIn_r _ [6, 7, 8] (by decide +kernel) (by decide +kernel)
set_option maxRecDepth 20000 in
theorem gJ0_length_8abf5_J0_coder_7d493 : GoodIn wsJ0_length_8abf5 (wsV RJ0 335 RJ0 yJ0_coder_7d493 wsJ0_coder_7d493) := goodIn_app (goodIn_of _ (by decide +kernel)) ggJ0_length_8abf5_J0_coder_7d493
theorem dJ0_length_8abf5_0 : decode cJ0_length_8abf5 0 = .ok (.aload_n 0, 1) := by decide +kernel
theorem dJ0_length_8abf5_1 : decode cJ0_length_8abf5 1 = .ok (.getfield 9, 3) := by decide +kernel
theorem dJ0_length_8abf5_4 : decode cJ0_length_8abf5 4 = .ok (.arraylength, 1) := by decide +kernel
theorem dJ0_length_8abf5_5 : decode cJ0_length_8abf5 5 = .ok (.aload_n 0, 1) := by decide +kernel
theorem dJ0_length_8abf5_6 : decode cJ0_length_8abf5 6 = .ok (.invokevirtual 335, 3) := by decide +kernel
theorem dJ0_length_8abf5_9 : decode cJ0_length_8abf5 9 = .ok (.ishr, 1) := by decide +kernel
theorem dJ0_length_8abf5_10 : decode cJ0_length_8abf5 10 = .ok (.ireturn, 1) := by decide +kernel
theorem dJ0_isEmpty_aae02_0 : decode cJ0_isEmpty_aae02 0 = .ok (.aload_n 0, 1) := by decide +kernel
theorem dJ0_isEmpty_aae02_1 : decode cJ0_isEmpty_aae02 1 = .ok (.getfield 9, 3) := by decide +kernel
theorem dJ0_isEmpty_aae02_4 : decode cJ0_isEmpty_aae02 4 = .ok (.arraylength, 1) := by decide +kernel
theorem dJ0_isEmpty_aae02_5 : decode cJ0_isEmpty_aae02 5 = .ok (.ifCond .ne 7, 3) := by decide +kernel
theorem dJ0_isEmpty_aae02_8 : decode cJ0_isEmpty_aae02 8 = .ok (.iconst 1, 1) := by decide +kernel
theorem dJ0_isEmpty_aae02_9 : decode cJ0_isEmpty_aae02 9 = .ok (.goto 4, 3) := by decide +kernel
theorem dJ0_isEmpty_aae02_12 : decode cJ0_isEmpty_aae02 12 = .ok (.iconst 0, 1) := by decide +kernel
theorem dJ0_isEmpty_aae02_13 : decode cJ0_isEmpty_aae02 13 = .ok (.ireturn, 1) := by decide +kernel
set_option maxRecDepth 20000 in
theorem ggJ0_charAt_5068e_J0_isLatin1_aae02 : GoodIn wsJ0_charAt_5068e wsJ0_isLatin1_aae02 := goodIn_r _ [6, 7, 8] (by decide +kernel) (by decide +kernel)
set_option maxRecDepth 20000 in
theorem gJ0_charAt_5068e_J0_isLatin1_aae02 : GoodIn wsJ0_charAt_5068e (wsV RJ0 492 RJ0 yJ0_isLatin1_aae02 wsJ0_isLatin1_aae02) := goodIn_app (goodIn_of _ (by decide +kernel)) ggJ0_charAt_5068e_J0_isLatin1_aae02
set_option maxRecDepth 20000 in
theorem ggJ0_charAt_5068e_J1_charAt_3b067 : GoodIn wsJ0_charAt_5068e wsJ1_charAt_3b067 := goodIn_r _ [12, 13, 14, 5, 15, 16, 17, 18, 19, 20] (by decide +kernel) (by decide +kernel)
set_option maxRecDepth 20000 in
theorem gJ0_charAt_5068e_J1_charAt_3b067 : GoodIn wsJ0_charAt_5068e (va_wsS RJ0 495 yJ1_charAt_3b067 wsJ1_charAt_3b067) := goodIn_app (goodIn_of _ (by decide +kernel)) ggJ0_charAt_5068e_J1_charAt_3b067
set_option maxRecDepth 20000 in
theorem ggJ0_charAt_5068e_J2_charAt_3b067 : GoodIn wsJ0_charAt_5068e wsJ2_charAt_3b067 := goodIn_r _ [24, 25, 26, 23, 27, 28, 29, 30, 31, 14, 5, 15, 16, 17, 18, 19, 20, 32, 33, 34, 35, 36, 37] (by decide +kernel) (by decide +kernel)
set_option maxRecDepth 20000 in
theorem gJ0_charAt_5068e_J2_charAt_3b067 : GoodIn wsJ0_charAt_5068e (va_wsS RJ0 498 yJ2_charAt_3b067 wsJ2_charAt_3b067) := goodIn_app (goodIn_of _ (by decide +kernel)) ggJ0_charAt_5068e_J2_charAt_3b067
theorem dJ0_charAt_5068e_0 : decode cJ0_charAt_5068e 0 = .ok (.aload_n 0, 1) := by decide +kernel
theorem dJ0_charAt_5068e_1 : decode cJ0_charAt_5068e 1 = .ok (.invokevirtual 492, 3) := by decide +kernel
theorem dJ0_charAt_5068e_4 : decode cJ0_charAt_5068e 4 = .ok (.ifCond .eq 12, 3) := by decide +kernel
theorem dJ0_charAt_5068e_7 : decode cJ0_charAt_5068e 7 = .ok (.aload_n 0, 1) := by decide +kernel
theorem dJ0_charAt_5068e_8 : decode cJ0_charAt_5068e 8 = .ok (.getfield 9, 3) := by decide +kernel
theorem dJ0_charAt_5068e_11 : decode cJ0_charAt_5068e 11 = .ok (.iload_n 1, 1) := by decide +kernel
theorem dJ0_charAt_5068e_12 : decode cJ0_charAt_5068e 12 = .ok (.invokestatic 495, 3) := by decide +kernel
theorem dJ0_charAt_5068e_15 : decode cJ0_charAt_5068e 15 = .ok (.ireturn, 1) := by decide +kernel
theorem dJ0_charAt_5068e_16 : decode cJ0_charAt_5068e 16 = .ok (.aload_n 0, 1) := by decide +kernel
theorem dJ0_charAt_5068e_17 : decode cJ0_charAt_5068e 17 = .ok (.getfield 9, 3) := by decide +kernel
theorem dJ0_charAt_5068e_20 : decode cJ0_charAt_5068e 20 = .ok (.iload_n 1, 1) := by decide +kernel
theorem dJ0_charAt_5068e_21 : decode cJ0_charAt_5068e 21 = .ok (.invokestatic 498, 3) := by decide +kernel
theorem dJ0_charAt_5068e_24 : decode cJ0_charAt_5068e 24 = .ok (.ireturn, 1) := by decide +kernel
set_option maxRecDepth 20000 in
theorem ggJ0_indexOf_0f7a4_J0_indexOf_7cf53 : GoodIn wsJ0_indexOf_0f7a4 wsJ0_indexOf_7cf53 := goodIn_r _ [5, 6, 7, 8, 9, 4, 10, 11, 12, 13, 14, 15, 16, 17, 18, 19, 20, 21, 22, 23, 24, 25, 26, 27, 28, 29, 30, 31, 32, 33, 34, 35, 36, 37, 38, 39, 40, 41, 42, 43, 44, 45, 46, 47, 48, 49, 50, 51, 52, 53, 54, 55, 56, 57, 58, 59, 60, 61, 62, 63, 64, 65, 66, 67, 68, 69, 70, 71, 72, 73, 74, 75, 76, 77, 78, 79, 80, 81, 82, 83, 84, 85] (by decide +kernel) (by decide +kernel)
set_option maxRecDepth 20000 in
theorem gJ0_indexOf_0f7a4_J0_indexOf_7cf53 : GoodIn wsJ0_indexOf_0f7a4 (wsV RJ0 633 RJ0 yJ0_indexOf_7cf53 wsJ0_indexOf_7cf53) := goodIn_app (goodIn_of _ (by decide +kernel)) ggJ0_indexOf_0f7a4_J0_indexOf_7cf53
theorem dJ0_indexOf_0f7a4_0 : decode cJ0_indexOf_0f7a4 0 = .ok (.aload_n 0, 1) := by decide +kernel
theorem dJ0_indexOf_0f7a4_1 : decode cJ0_indexOf_0f7a4 1 = .ok (.iload_n 1, 1) := by decide +kernel
theorem dJ0_indexOf_0f7a4_2 : decode cJ0_indexOf_0f7a4 2 = .ok (.iconst 0, 1) := by decide +kernel
theorem dJ0_indexOf_0f7a4_3 : decode cJ0_indexOf_0f7a4 3 = .ok (.invokevirtual 633, 3) := by decide +kernel
theorem dJ0_indexOf_0f7a4_6 : decode cJ0_indexOf_0f7a4 6 = .ok (.ireturn, 1) := by decide +kernel
set_option maxRecDepth 20000 in
theorem ggJ0_indexOf_7cf53_J0_isLatin1_aae02 : GoodIn wsJ0_indexOf_7cf53 wsJ0_isLatin1_aae02 := goodIn_r _ [6, 7, 8] (by decide +kernel) (by decide +kernel)
set_option maxRecDepth 20000 in
theorem gJ0_indexOf_7cf53_J0_isLatin1_aae02 : GoodIn wsJ0_indexOf_7cf53 (wsV RJ0 492 RJ0 yJ0_isLatin1_aae02 wsJ0_isLatin1_aae02) := goodIn_app (goodIn_of _ (by decide +kernel)) ggJ0_indexOf_7cf53_J0_isLatin1_aae02
set_option maxRecDepth 20000 in
theorem ggJ0_indexOf_7cf53_J0_length_8abf5 : GoodIn wsJ0_indexOf_7cf53 wsJ0_length_8abf5 := goodIn_r _ [12, 1, 13, 14, 15, 5, 16, 7, 8] (by decide +kernel) (by decide +kernel)
set_option maxRecDepth 20000 in
theorem gJ0_indexOf_7cf53_J0_length_8abf5 : GoodIn wsJ0_indexOf_7cf53 (wsV RJ0 505 RJ0 yJ0_length_8abf5 wsJ0_length_8abf5) := goodIn_app (goodIn_of _ (by decide +kernel)) ggJ0_indexOf_7cf53_J0_length_8abf5
set_option maxRecDepth 20000 in
theorem ggJ0_indexOf_7cf53_J1_indexOf_4cfef : GoodIn wsJ0_indexOf_7cf53 wsJ1_indexOf_4cfef := goodIn_r _ [20, 21, 22, 23, 24, 25, 26, 27, 28, 29, 19, 30, 31, 32, 33] (by decide +kernel) (by decide +kernel)
set_option maxRecDepth 20000 in
theorem gJ0_indexOf_7cf53_J1_indexOf_4cfef : GoodIn wsJ0_indexOf_7cf53 (va_wsS RJ0 637 yJ1_indexOf_4cfef wsJ1_indexOf_4cfef) := goodIn_app (goodIn_of _ (by decide +kernel)) ggJ0_indexOf_7cf53_J1_indexOf_4cfef
set_option maxRecDepth 20000 in
theorem ggJ0_indexOf_7cf53_J2_indexOf_4cfef : GoodIn wsJ0_indexOf_7cf53 wsJ2_indexOf_4cfef := goodIn_r _ [37, 38, 22, 23, 24, 39, 26, 27, 40, 41, 42, 36, 43, 44, 45, 46, 47, 48, 49, 50, 51, 5, 52, 53, 54, 55, 56, 57, 58, 59, 60, 61, 62, 63, 64, 65, 66, 67, 68, 69, 70, 71, 72, 73, 74, 75, 76, 77, 78, 79, 80, 81] (by decide +kernel) (by decide +kernel)
set_option maxRecDepth 20000 in
theorem gJ0_indexOf_7cf53_J2_indexOf_4cfef : GoodIn wsJ0_indexOf_7cf53 (va_wsS RJ0 640 yJ2_indexOf_4cfef wsJ2_indexOf_4cfef) := goodIn_app (goodIn_of _ (by decide +kernel)) ggJ0_indexOf_7cf53_J2_indexOf_4cfef
theorem dJ0_indexOf_7cf53_0 : decode cJ0_indexOf_7cf53 0 = .ok (.aload_n 0, 1) := by decide +kernel
theorem dJ0_indexOf_7cf53_1 : decode cJ0_indexOf_7cf53 1 = .ok (.invokevirtual 492, 3) := by decide +kernel
theorem dJ0_indexOf_7cf53_4 : decode cJ0_indexOf_7cf53 4 = .ok (.ifCond .eq 19, 3) := by decide +kernel
theorem dJ0_indexOf_7cf53_7 : decode cJ0_indexOf_7cf53 7 = .ok (.aload_n 0, 1) := by decide +kernel
theorem dJ0_indexOf_7cf53_8 : decode cJ0_indexOf_7cf53 8 = .ok (.getfield 9, 3) := by decide +kernel
theorem dJ0_indexOf_7cf53_11 : decode cJ0_indexOf_7cf53 11 = .ok (.iload_n 1, 1) := by decide +kernel
theorem dJ0_indexOf_7cf53_12 : decode cJ0_indexOf_7cf53 12 = .ok (.iload_n 2, 1) := by decide +kernel
theorem dJ0_indexOf_7cf53_13 : decode cJ0_indexOf_7cf53 13 = .ok (.aload_n 0, 1) := by decide +kernel
theorem dJ0_indexOf_7cf53_14 : decode cJ0_indexOf_7cf53 14 = .ok (.invokevirtual 505, 3) := by decide +kernel
theorem dJ0_indexOf_7cf53_17 : decode cJ0_indexOf_7cf53 17 = .ok (.invokestatic 637, 3) := by decide +kernel
theorem dJ0_indexOf_7cf53_20 : decode cJ0_indexOf_7cf53 20 = .ok (.goto 16, 3) := by decide +kernel
theorem dJ0_indexOf_7cf53_23 : decode cJ0_indexOf_7cf53 23 = .ok (.aload_n 0, 1) := by decide +kernel
theorem dJ0_indexOf_7cf53_24 : decode cJ0_indexOf_7cf53 24 = .ok (.getfield 9, 3) := by decide +kernel
theorem dJ0_indexOf_7cf53_27 : decode cJ0_indexOf_7cf53 27 = .ok (.iload_n 1, 1) := by decide +kernel
theorem dJ0_indexOf_7cf53_28 : decode cJ0_indexOf_7cf53 28 = .ok (.iload_n 2, 1) := by decide +kernel
theorem dJ0_indexOf_7cf53_29 : decode cJ0_indexOf_7cf53 29 = .ok (.aload_n 0, 1) := by decide +kernel
theorem dJ0_indexOf_7cf53_30 : decode cJ0_indexOf_7cf53 30 = .ok (.invokevirtual 505, 3) := by decide +kernel
theorem dJ0_indexOf_7cf53_33 : decode cJ0_indexOf_7cf53 33 = .ok (.invokestatic 640, 3) := by decide +kernel
theorem dJ0_indexOf_7cf53_36 : decode cJ0_indexOf_7cf53 36 = .ok (.ireturn, 1) := by decide +kernel
theorem dJ0_coder_7d493_0 : decode cJ0_coder_7d493 0 = .ok (.getstatic 38, 3) := by decide +kernel
theorem dJ0_coder_7d493_3 : decode cJ0_coder_7d493 3 = .ok (.ifCond .eq 10, 3) := by decide +kernel
theorem dJ0_coder_7d493_6 : decode cJ0_coder_7d493 6 = .ok (.aload_n 0, 1) := by decide +kernel
theorem dJ0_coder_7d493_7 : decode cJ0_coder_7d493 7 = .ok (.getfield 15, 3) := by decide +kernel
theorem dJ0_coder_7d493_10 : decode cJ0_coder_7d493 10 = .ok (.goto 4, 3) := by decide +kernel
theorem dJ0_coder_7d493_13 : decode cJ0_coder_7d493 13 = .ok (.iconst 1, 1) := by decide +kernel
theorem dJ0_coder_7d493_14 : decode cJ0_coder_7d493 14 = .ok (.ireturn, 1) := by decide +kernel
theorem dJ0_isLatin1_aae02_0 : decode cJ0_isLatin1_aae02 0 = .ok (.getstatic 38, 3) := by decide +kernel
theorem dJ0_isLatin1_aae02_3 : decode cJ0_isLatin1_aae02 3 = .ok (.ifCond .eq 14, 3) := by decide +kernel
theorem dJ0_isLatin1_aae02_6 : decode cJ0_isLatin1_aae02 6 = .ok (.aload_n 0, 1) := by decide +kernel
theorem dJ0_isLatin1_aae02_7 : decode cJ0_isLatin1_aae02 7 = .ok (.getfield 15, 3) := by decide +kernel
theorem dJ0_isLatin1_aae02_10 : decode cJ0_isLatin1_aae02 10 = .ok (.ifCond .ne 7, 3) := by decide +kernel
theorem dJ0_isLatin1_aae02_13 : decode cJ0_isLatin1_aae02 13 = .ok (.iconst 1, 1) := by decide +kernel
theorem dJ0_isLatin1_aae02_14 : decode cJ0_isLatin1_aae02 14 = .ok (.goto 4, 3) := by decide +kernel
theorem dJ0_isLatin1_aae02_17 : decode cJ0_isLatin1_aae02 17 = .ok (.iconst 0, 1) := by decide +kernel
theorem dJ0_isLatin1_aae02_18 : decode cJ0_isLatin1_aae02 18 = .ok (.ireturn, 1) := by decide +kernel
set_option maxRecDepth 20000 in
theorem ggJ0_checkIndex_df160_J3_checkIndex_8e157 : GoodIn wsJ0_checkIndex_df160 wsJ3_checkIndex_8e157 := goodIn_r _ [5] (by decide +kernel) (by decide +kernel)
set_option maxRecDepth 20000 in
theorem gJ0_checkIndex_df160_J3_checkIndex_8e157 : GoodIn wsJ0_checkIndex_df160 (va_wsS RJ0 1059 yJ3_checkIndex_8e157 wsJ3_checkIndex_8e157) := goodIn_app (goodIn_of _ (by decide +kernel)) ggJ0_checkIndex_df160_J3_checkIndex_8e157
theorem dJ0_checkIndex_df160_0 : decode cJ0_checkIndex_df160 0 = .ok (.iload_n 0, 1) := by decide +kernel
theorem dJ0_checkIndex_df160_1 : decode cJ0_checkIndex_df160 1 = .ok (.iload_n 1, 1) := by decide +kernel
theorem dJ0_checkIndex_df160_2 : decode cJ0_checkIndex_df160 2 = .ok (.getstatic 1053, 3) := by decide +kernel
theorem dJ0_checkIndex_df160_5 : decode cJ0_checkIndex_df160 5 = .ok (.invokestatic 1059, 3) := by decide +kernel
theorem dJ0_checkIndex_df160_8 : decode cJ0_checkIndex_df160 8 = .ok (.pop, 1) := by decide +kernel
theorem dJ0_checkIndex_df160_9 : decode cJ0_checkIndex_df160 9 = .ok (.return_, 1) := by decide +kernel
set_option maxRecDepth 20000 in
theorem ggJ0_checkBoundsBeginEnd_23922_J3_checkFromToIndex_8c36e : GoodIn wsJ0_checkBoundsBeginEnd_23922 wsJ3_checkFromToIndex_8c36e := goodIn_r _ [5] (by decide +kernel) (by decide +kernel)
set_option maxRecDepth 20000 in
theorem gJ0_checkBoundsBeginEnd_23922_J3_checkFromToIndex_8c36e : GoodIn wsJ0_checkBoundsBeginEnd_23922 (va_wsS RJ0 1062 yJ3_checkFromToIndex_8c36e wsJ3_checkFromToIndex_8c36e) := goodIn_app (goodIn_of _ (by decide +kernel)) ggJ0_checkBoundsBeginEnd_23922_J3_checkFromToIndex_8c36e
theorem dJ0_checkBoundsBeginEnd_23922_0 : decode cJ0_checkBoundsBeginEnd_23922 0 = .ok (.iload_n 0, 1) := by decide +kernel
theorem dJ0_checkBoundsBeginEnd_23922_1 : decode cJ0_checkBoundsBeginEnd_23922 1 = .ok (.iload_n 1, 1) := by decide +kernel
theorem dJ0_checkBoundsBeginEnd_23922_2 : decode cJ0_checkBoundsBeginEnd_23922 2 = .ok (.iload_n 2, 1) := by decide +kernel
theorem dJ0_checkBoundsBeginEnd_23922_3 : decode cJ0_checkBoundsBeginEnd_23922 3 = .ok (.getstatic 1053, 3) := by decide +kernel
theorem dJ0_checkBoundsBeginEnd_23922_6 : decode cJ0_checkBoundsBeginEnd_23922 6 = .ok (.invokestatic 1062, 3) := by decide +kernel
theorem dJ0_checkBoundsBeginEnd_23922_9 : decode cJ0_checkBoundsBeginEnd_23922 9 = .ok (.pop, 1) := by decide +kernel
theorem dJ0_checkBoundsBeginEnd_23922_10 : decode cJ0_checkBoundsBeginEnd_23922 10 = .ok (.return_, 1) := by decide +kernel
set_option maxRecDepth 20000 in
theorem ggJ1_charAt_3b067_J0_checkIndex_df160 : GoodIn wsJ1_charAt_3b067 wsJ0_checkIndex_df160 := goodIn_r _ [4, 5, 6, 7, 8, 9] (by decide +kernel) (by decide +kernel)
set_option maxRecDepth 20000 in
theorem gJ1_charAt_3b067_J0_checkIndex_df160 : GoodIn wsJ1_charAt_3b067 (va_wsS RJ1 9 yJ0_checkIndex_df160 wsJ0_checkIndex_df160) := goodIn_app (goodIn_of _ (by decide +kernel)) ggJ1_charAt_3b067_J0_checkIndex_df160
theorem dJ1_charAt_3b067_0 : decode cJ1_charAt_3b067 0 = .ok (.iload_n 1, 1) := by decide +kernel
theorem dJ1_charAt_3b067_1 : decode cJ1_charAt_3b067 1 = .ok (.aload_n 0, 1) := by decide +kernel
theorem dJ1_charAt_3b067_2 : decode cJ1_charAt_3b067 2 = .ok (.arraylength, 1) := by decide +kernel
theorem dJ1_charAt_3b067_3 : decode cJ1_charAt_3b067 3 = .ok (.invokestatic 9, 3) := by decide +kernel
theorem dJ1_charAt_3b067_6 : decode cJ1_charAt_3b067 6 = .ok (.aload_n 0, 1) := by decide +kernel
theorem dJ1_charAt_3b067_7 : decode cJ1_charAt_3b067 7 = .ok (.iload_n 1, 1) := by decide +kernel
theorem dJ1_charAt_3b067_8 : decode cJ1_charAt_3b067 8 = .ok (.baload, 1) := by decide +kernel
theorem dJ1_charAt_3b067_9 : decode cJ1_charAt_3b067 9 = .ok (.sipush 255, 3) := by decide +kernel
theorem dJ1_charAt_3b067_12 : decode cJ1_charAt_3b067 12 = .ok (.iand, 1) := by decide +kernel
theorem dJ1_charAt_3b067_13 : decode cJ1_charAt_3b067 13 = .ok (.i2c, 1) := by decide +kernel
theorem dJ1_charAt_3b067_14 : decode cJ1_charAt_3b067 14 = .ok (.ireturn, 1) := by decide +kernel
theorem dJ1_canEncode_9a6ad_0 : decode cJ1_canEncode_9a6ad 0 = .ok (.iload_n 0, 1) := by decide +kernel
theorem dJ1_canEncode_9a6ad_1 : decode cJ1_canEncode_9a6ad 1 = .ok (.ifCond .lt 14, 3) := by decide +kernel
theorem dJ1_canEncode_9a6ad_4 : decode cJ1_canEncode_9a6ad 4 = .ok (.iload_n 0, 1) := by decide +kernel
theorem dJ1_canEncode_9a6ad_5 : decode cJ1_canEncode_9a6ad 5 = .ok (.sipush 255, 3) := by decide +kernel
theorem dJ1_canEncode_9a6ad_8 : decode cJ1_canEncode_9a6ad 8 = .ok (.if_icmp .gt 7, 3) := by decide +kernel
theorem dJ1_canEncode_9a6ad_11 : decode cJ1_canEncode_9a6ad 11 = .ok (.iconst 1, 1) := by decide +kernel
theorem dJ1_canEncode_9a6ad_12 : decode cJ1_canEncode_9a6ad 12 = .ok (.goto 4, 3) := by decide +kernel
theorem dJ1_canEncode_9a6ad_15 : decode cJ1_canEncode_9a6ad 15 = .ok (.iconst 0, 1) := by decide +kernel
theorem dJ1_canEncode_9a6ad_16 : decode cJ1_canEncode_9a6ad 16 = .ok (.ireturn, 1) := by decide +kernel
set_option maxRecDepth 20000 in
theorem ggJ1_indexOf_4cfef_J1_canEncode_9a6ad : GoodIn wsJ1_indexOf_4cfef wsJ1_canEncode_9a6ad := goodIn_r _ [11] (by decide +kernel) (by decide +kernel)
set_option maxRecDepth 20000 in
theorem gJ1_indexOf_4cfef_J1_canEncode_9a6ad : GoodIn wsJ1_indexOf_4cfef (va_wsS RJ1 88 yJ1_canEncode_9a6ad wsJ1_canEncode_9a6ad) := goodIn_app (goodIn_of _ (by decide +kernel)) ggJ1_indexOf_4cfef_J1_canEncode_9a6ad
set_option maxRecDepth 20000 in
theorem ggJ1_indexOf_4cfef_J1_indexOfChar_4cfef : GoodIn wsJ1_indexOf_4cfef wsJ1_indexOfChar_4cfef := goodIn_r _ [14] (by decide +kernel) (by decide +kernel)
set_option maxRecDepth 20000 in
theorem gJ1_indexOf_4cfef_J1_indexOfChar_4cfef : GoodIn wsJ1_indexOf_4cfef (va_wsS RJ1 95 yJ1_indexOfChar_4cfef wsJ1_indexOfChar_4cfef) := goodIn_app (goodIn_of _ (by decide +kernel)) ggJ1_indexOf_4cfef_J1_indexOfChar_4cfef
theorem dJ1_indexOf_4cfef_0 : decode cJ1_indexOf_4cfef 0 = .ok (.iload_n 1, 1) := by decide +kernel
theorem dJ1_indexOf_4cfef_1 : decode cJ1_indexOf_4cfef 1 = .ok (.invokestatic 88, 3) := by decide +kernel
theorem dJ1_indexOf_4cfef_4 : decode cJ1_indexOf_4cfef 4 = .ok (.ifCond .ne 5, 3) := by decide +kernel
theorem dJ1_indexOf_4cfef_7 : decode cJ1_indexOf_4cfef 7 = .ok (.iconst (-1), 1) := by decide +kernel
theorem dJ1_indexOf_4cfef_8 : decode cJ1_indexOf_4cfef 8 = .ok (.ireturn, 1) := by decide +kernel
theorem dJ1_indexOf_4cfef_9 : decode cJ1_indexOf_4cfef 9 = .ok (.iload_n 2, 1) := by decide +kernel
theorem dJ1_indexOf_4cfef_10 : decode cJ1_indexOf_4cfef 10 = .ok (.iconst 0, 1) := by decide +kernel
theorem dJ1_indexOf_4cfef_11 : decode cJ1_indexOf_4cfef 11 = .ok (.invokestatic 92, 3) := by decide +kernel
theorem dJ1_indexOf_4cfef_14 : decode cJ1_indexOf_4cfef 14 = .ok (.istore_n 2, 1) := by decide +kernel
theorem dJ1_indexOf_4cfef_15 : decode cJ1_indexOf_4cfef 15 = .ok (.iload_n 3, 1) := by decide +kernel
theorem dJ1_indexOf_4cfef_16 : decode cJ1_indexOf_4cfef 16 = .ok (.aload_n 0, 1) := by decide +kernel
theorem dJ1_indexOf_4cfef_17 : decode cJ1_indexOf_4cfef 17 = .ok (.arraylength, 1) := by decide +kernel
theorem dJ1_indexOf_4cfef_18 : decode cJ1_indexOf_4cfef 18 = .ok (.invokestatic 38, 3) := by decide +kernel
theorem dJ1_indexOf_4cfef_21 : decode cJ1_indexOf_4cfef 21 = .ok (.istore_n 3, 1) := by decide +kernel
theorem dJ1_indexOf_4cfef_22 : decode cJ1_indexOf_4cfef 22 = .ok (.iload_n 2, 1) := by decide +kernel
theorem dJ1_indexOf_4cfef_23 : decode cJ1_indexOf_4cfef 23 = .ok (.iload_n 3, 1) := by decide +kernel
theorem dJ1_indexOf_4cfef_24 : decode cJ1_indexOf_4cfef 24 = .ok (.if_icmp .lt 5, 3) := by decide +kernel
theorem dJ1_indexOf_4cfef_27 : decode cJ1_indexOf_4cfef 27 = .ok (.iconst (-1), 1) := by decide +kernel
theorem dJ1_indexOf_4cfef_28 : decode cJ1_indexOf_4cfef 28 = .ok (.ireturn, 1) := by decide +kernel
theorem dJ1_indexOf_4cfef_29 : decode cJ1_indexOf_4cfef 29 = .ok (.aload_n 0, 1) := by decide +kernel
theorem dJ1_indexOf_4cfef_30 : decode cJ1_indexOf_4cfef 30 = .ok (.iload_n 1, 1) := by decide +kernel
theorem dJ1_indexOf_4cfef_31 : decode cJ1_indexOf_4cfef 31 = .ok (.iload_n 2, 1) := by decide +kernel
theorem dJ1_indexOf_4cfef_32 : decode cJ1_indexOf_4cfef 32 = .ok (.iload_n 3, 1) := by decide +kernel
theorem dJ1_indexOf_4cfef_33 : decode cJ1_indexOf_4cfef 33 = .ok (.invokestatic 95, 3) := by decide +kernel
theorem dJ1_indexOf_4cfef_36 : decode cJ1_indexOf_4cfef 36 = .ok (.ireturn, 1) := by decide +kernel
theorem dJ1_indexOfChar_4cfef_0 : decode cJ1_indexOfChar_4cfef 0 = .ok (.iload_n 1, 1) := by decide +kernel
theorem dJ1_indexOfChar_4cfef_1 : decode cJ1_indexOfChar_4cfef 1 = .ok (.i2b, 1) := by decide +kernel
theorem dJ1_indexOfChar_4cfef_2 : decode cJ1_indexOfChar_4cfef 2 = .ok (.istore 4, 2) := by decide +kernel
theorem dJ1_indexOfChar_4cfef_4 : decode cJ1_indexOfChar_4cfef 4 = .ok (.iload_n 2, 1) := by decide +kernel
theorem dJ1_indexOfChar_4cfef_5 : decode cJ1_indexOfChar_4cfef 5 = .ok (.istore 5, 2) := by decide +kernel
theorem dJ1_indexOfChar_4cfef_7 : decode cJ1_indexOfChar_4cfef 7 = .ok (.iload 5, 2) := by decide +kernel
theorem dJ1_indexOfChar_4cfef_9 : decode cJ1_indexOfChar_4cfef 9 = .ok (.iload_n 3, 1) := by decide +kernel
theorem dJ1_indexOfChar_4cfef_10 : decode cJ1_indexOfChar_4cfef 10 = .ok (.if_icmp .ge 21, 3) := by decide +kernel
theorem dJ1_indexOfChar_4cfef_13 : decode cJ1_indexOfChar_4cfef 13 = .ok (.aload_n 0, 1) := by decide +kernel
theorem dJ1_indexOfChar_4cfef_14 : decode cJ1_indexOfChar_4cfef 14 = .ok (.iload 5, 2) := by decide +kernel
theorem dJ1_indexOfChar_4cfef_16 : decode cJ1_indexOfChar_4cfef 16 = .ok (.baload, 1) := by decide +kernel
theorem dJ1_indexOfChar_4cfef_17 : decode cJ1_indexOfChar_4cfef 17 = .ok (.iload 4, 2) := by decide +kernel
theorem dJ1_indexOfChar_4cfef_19 : decode cJ1_indexOfChar_4cfef 19 = .ok (.if_icmp .ne 6, 3) := by decide +kernel
theorem dJ1_indexOfChar_4cfef_22 : decode cJ1_indexOfChar_4cfef 22 = .ok (.iload 5, 2) := by decide +kernel
theorem dJ1_indexOfChar_4cfef_24 : decode cJ1_indexOfChar_4cfef 24 = .ok (.ireturn, 1) := by decide +kernel
theorem dJ1_indexOfChar_4cfef_25 : decode cJ1_indexOfChar_4cfef 25 = .ok (.iinc 5 1, 3) := by decide +kernel
theorem dJ1_indexOfChar_4cfef_28 : decode cJ1_indexOfChar_4cfef 28 = .ok (.goto (-21), 3) := by decide +kernel
theorem dJ1_indexOfChar_4cfef_31 : decode cJ1_indexOfChar_4cfef 31 = .ok (.iconst (-1), 1) := by decide +kernel
theorem dJ1_indexOfChar_4cfef_32 : decode cJ1_indexOfChar_4cfef 32 = .ok (.ireturn, 1) := by decide +kernel
set_option maxRecDepth 20000 in
theorem ggJ2_getChar_3b067_J2_length_9d52b : GoodIn wsJ2_getChar_3b067 wsJ2_length_9d52b := goodIn_r _ [7] (by decide +kernel) (by decide +kernel)
set_option maxRecDepth 20000 in
theorem gJ2_getChar_3b067_J2_length_9d52b : GoodIn wsJ2_getChar_3b067 (va_wsS RJ2 48 yJ2_length_9d52b wsJ2_length_9d52b) := goodIn_app (goodIn_of _ (by decide +kernel)) ggJ2_getChar_3b067_J2_length_9d52b
theorem dJ2_getChar_3b067_0 : decode cJ2_getChar_3b067 0 = .ok (.getstatic 44, 3) := by decide +kernel
theorem dJ2_getChar_3b067_3 : decode cJ2_getChar_3b067 3 = .ok (.ifCond .ne 25, 3) := by decide +kernel
theorem dJ2_getChar_3b067_6 : decode cJ2_getChar_3b067 6 = .ok (.iload_n 1, 1) := by decide +kernel
theorem dJ2_getChar_3b067_7 : decode cJ2_getChar_3b067 7 = .ok (.ifCond .lt 11, 3) := by decide +kernel
theorem dJ2_getChar_3b067_10 : decode cJ2_getChar_3b067 10 = .ok (.iload_n 1, 1) := by decide +kernel
theorem dJ2_getChar_3b067_11 : decode cJ2_getChar_3b067 11 = .ok (.aload_n 0, 1) := by decide +kernel
theorem dJ2_getChar_3b067_12 : decode cJ2_getChar_3b067 12 = .ok (.invokestatic 48, 3) := by decide +kernel
theorem dJ2_getChar_3b067_15 : decode cJ2_getChar_3b067 15 = .ok (.if_icmp .lt 13, 3) := by decide +kernel
theorem dJ2_getChar_3b067_18 : decode cJ2_getChar_3b067 18 = .ok (.new 52, 3) := by decide +kernel
theorem dJ2_getChar_3b067_21 : decode cJ2_getChar_3b067 21 = .ok (.dup, 1) := by decide +kernel
theorem dJ2_getChar_3b067_22 : decode cJ2_getChar_3b067 22 = .ok (.ldc 54, 2) := by decide +kernel
theorem dJ2_getChar_3b067_24 : decode cJ2_getChar_3b067 24 = .ok (.invokespecial 56, 3) := by decide +kernel
theorem dJ2_getChar_3b067_27 : decode cJ2_getChar_3b067 27 = .ok (.athrow, 1) := by decide +kernel
theorem dJ2_getChar_3b067_28 : decode cJ2_getChar_3b067 28 = .ok (.iload_n 1, 1) := by decide +kernel
theorem dJ2_getChar_3b067_29 : decode cJ2_getChar_3b067 29 = .ok (.iconst 1, 1) := by decide +kernel
theorem dJ2_getChar_3b067_30 : decode cJ2_getChar_3b067 30 = .ok (.ishl, 1) := by decide +kernel
theorem dJ2_getChar_3b067_31 : decode cJ2_getChar_3b067 31 = .ok (.istore_n 1, 1) := by decide +kernel
theorem dJ2_getChar_3b067_32 : decode cJ2_getChar_3b067 32 = .ok (.aload_n 0, 1) := by decide +kernel
theorem dJ2_getChar_3b067_33 : decode cJ2_getChar_3b067 33 = .ok (.iload_n 1, 1) := by decide +kernel
theorem dJ2_getChar_3b067_34 : decode cJ2_getChar_3b067 34 = .ok (.iinc 1 1, 3) := by decide +kernel
theorem dJ2_getChar_3b067_37 : decode cJ2_getChar_3b067 37 = .ok (.baload, 1) := by decide +kernel
theorem dJ2_getChar_3b067_38 : decode cJ2_getChar_3b067 38 = .ok (.sipush 255, 3) := by decide +kernel
theorem dJ2_getChar_3b067_41 : decode cJ2_getChar_3b067 41 = .ok (.iand, 1) := by decide +kernel
theorem dJ2_getChar_3b067_42 : decode cJ2_getChar_3b067 42 = .ok (.getstatic 59, 3) := by decide +kernel
theorem dJ2_getChar_3b067_45 : decode cJ2_getChar_3b067 45 = .ok (.ishl, 1) := by decide +kernel
theorem dJ2_getChar_3b067_46 : decode cJ2_getChar_3b067 46 = .ok (.aload_n 0, 1) := by decide +kernel
theorem dJ2_getChar_3b067_47 : decode cJ2_getChar_3b067 47 = .ok (.iload_n 1, 1) := by decide +kernel
theorem dJ2_getChar_3b067_48 : decode cJ2_getChar_3b067 48 = .ok (.baload, 1) := by decide +kernel
theorem dJ2_getChar_3b067_49 : decode cJ2_getChar_3b067 49 = .ok (.sipush 255, 3) := by decide +kernel
theorem dJ2_getChar_3b067_52 : decode cJ2_getChar_3b067 52 = .ok (.iand, 1) := by decide +kernel
theorem dJ2_getChar_3b067_53 : decode cJ2_getChar_3b067 53 = .ok (.getstatic 63, 3) := by decide +kernel
theorem dJ2_getChar_3b067_56 : decode cJ2_getChar_3b067 56 = .ok (.ishl, 1) := by decide +kernel
theorem dJ2_getChar_3b067_57 : decode cJ2_getChar_3b067 57 = .ok (.ior, 1) := by decide +kernel
theorem dJ2_getChar_3b067_58 : decode cJ2_getChar_3b067 58 = .ok (.i2c, 1) := by decide +kernel
theorem dJ2_getChar_3b067_59 : decode cJ2_getChar_3b067 59 = .ok (.ireturn, 1) := by decide +kernel
theorem dJ2_length_9d52b_0 : decode cJ2_length_9d52b 0 = .ok (.aload_n 0, 1) := by decide +kernel
theorem dJ2_length_9d52b_1 : decode cJ2_length_9d52b 1 = .ok (.arraylength, 1) := by decide +kernel
theorem dJ2_length_9d52b_2 : decode cJ2_length_9d52b 2 = .ok (.iconst 1, 1) := by decide +kernel
theorem dJ2_length_9d52b_3 : decode cJ2_length_9d52b 3 = .ok (.ishr, 1) := by decide +kernel
theorem dJ2_length_9d52b_4 : decode cJ2_length_9d52b 4 = .ok (.ireturn, 1) := by decide +kernel
set_option maxRecDepth 20000 in
theorem ggJ2_indexOf_4cfef_J2_indexOfChar_4cfef : GoodIn wsJ2_indexOf_4cfef wsJ2_indexOfChar_4cfef := goodIn_r _ [12, 13, 14, 11, 15, 16, 17, 18, 19, 20, 21, 22, 23, 24, 25, 26, 27, 28, 29, 30, 31, 32, 33, 34, 35, 36] (by decide +kernel) (by decide +kernel)
set_option maxRecDepth 20000 in
theorem gJ2_indexOf_4cfef_J2_indexOfChar_4cfef : GoodIn wsJ2_indexOf_4cfef (va_wsS RJ2 228 yJ2_indexOfChar_4cfef wsJ2_indexOfChar_4cfef) := goodIn_app (goodIn_of _ (by decide +kernel)) ggJ2_indexOf_4cfef_J2_indexOfChar_4cfef
set_option maxRecDepth 20000 in
theorem ggJ2_indexOf_4cfef_J2_indexOfSupplementary_4cfef : GoodIn wsJ2_indexOf_4cfef wsJ2_indexOfSupplementary_4cfef := goodIn_r _ [39, 40, 41, 42, 43, 44, 45, 46, 47, 48, 49, 50, 51, 13, 14, 11, 15, 16, 17, 18, 19, 20, 21, 22, 23, 24, 25, 26, 27, 31, 32, 33, 34, 35, 36] (by decide +kernel) (by decide +kernel)
set_option maxRecDepth 20000 in
theorem gJ2_indexOf_4cfef_J2_indexOfSupplementary_4cfef : GoodIn wsJ2_indexOf_4cfef (va_wsS RJ2 232 yJ2_indexOfSupplementary_4cfef wsJ2_indexOfSupplementary_4cfef) := goodIn_app (goodIn_of _ (by decide +kernel)) ggJ2_indexOf_4cfef_J2_indexOfSupplementary_4cfef
theorem dJ2_indexOf_4cfef_0 : decode cJ2_indexOf_4cfef 0 = .ok (.iload_n 2, 1) := by decide +kernel
theorem dJ2_indexOf_4cfef_1 : decode cJ2_indexOf_4cfef 1 = .ok (.iconst 0, 1) := by decide +kernel
theorem dJ2_indexOf_4cfef_2 : decode cJ2_indexOf_4cfef 2 = .ok (.invokestatic 224, 3) := by decide +kernel
theorem dJ2_indexOf_4cfef_5 : decode cJ2_indexOf_4cfef 5 = .ok (.istore_n 2, 1) := by decide +kernel
theorem dJ2_indexOf_4cfef_6 : decode cJ2_indexOf_4cfef 6 = .ok (.iload_n 3, 1) := by decide +kernel
theorem dJ2_indexOf_4cfef_7 : decode cJ2_indexOf_4cfef 7 = .ok (.aload_n 0, 1) := by decide +kernel
theorem dJ2_indexOf_4cfef_8 : decode cJ2_indexOf_4cfef 8 = .ok (.arraylength, 1) := by decide +kernel
theorem dJ2_indexOf_4cfef_9 : decode cJ2_indexOf_4cfef 9 = .ok (.iconst 1, 1) := by decide +kernel
theorem dJ2_indexOf_4cfef_10 : decode cJ2_indexOf_4cfef 10 = .ok (.ishr, 1) := by decide +kernel
theorem dJ2_indexOf_4cfef_11 : decode cJ2_indexOf_4cfef 11 = .ok (.invokestatic 183, 3) := by decide +kernel
theorem dJ2_indexOf_4cfef_14 : decode cJ2_indexOf_4cfef 14 = .ok (.istore_n 3, 1) := by decide +kernel
theorem dJ2_indexOf_4cfef_15 : decode cJ2_indexOf_4cfef 15 = .ok (.iload_n 2, 1) := by decide +kernel
theorem dJ2_indexOf_4cfef_16 : decode cJ2_indexOf_4cfef 16 = .ok (.iload_n 3, 1) := by decide +kernel
theorem dJ2_indexOf_4cfef_17 : decode cJ2_indexOf_4cfef 17 = .ok (.if_icmp .lt 5, 3) := by decide +kernel
theorem dJ2_indexOf_4cfef_20 : decode cJ2_indexOf_4cfef 20 = .ok (.iconst (-1), 1) := by decide +kernel
theorem dJ2_indexOf_4cfef_21 : decode cJ2_indexOf_4cfef 21 = .ok (.ireturn, 1) := by decide +kernel
theorem dJ2_indexOf_4cfef_22 : decode cJ2_indexOf_4cfef 22 = .ok (.iload_n 1, 1) := by decide +kernel
theorem dJ2_indexOf_4cfef_23 : decode cJ2_indexOf_4cfef 23 = .ok (.ldc 227, 2) := by decide +kernel
theorem dJ2_indexOf_4cfef_25 : decode cJ2_indexOf_4cfef 25 = .ok (.if_icmp .ge 11, 3) := by decide +kernel
theorem dJ2_indexOf_4cfef_28 : decode cJ2_indexOf_4cfef 28 = .ok (.aload_n 0, 1) := by decide +kernel
theorem dJ2_indexOf_4cfef_29 : decode cJ2_indexOf_4cfef 29 = .ok (.iload_n 1, 1) := by decide +kernel
theorem dJ2_indexOf_4cfef_30 : decode cJ2_indexOf_4cfef 30 = .ok (.iload_n 2, 1) := by decide +kernel
theorem dJ2_indexOf_4cfef_31 : decode cJ2_indexOf_4cfef 31 = .ok (.iload_n 3, 1) := by decide +kernel
theorem dJ2_indexOf_4cfef_32 : decode cJ2_indexOf_4cfef 32 = .ok (.invokestatic 228, 3) := by decide +kernel
theorem dJ2_indexOf_4cfef_35 : decode cJ2_indexOf_4cfef 35 = .ok (.ireturn, 1) := by decide +kernel
theorem dJ2_indexOf_4cfef_36 : decode cJ2_indexOf_4cfef 36 = .ok (.aload_n 0, 1) := by decide +kernel
theorem dJ2_indexOf_4cfef_37 : decode cJ2_indexOf_4cfef 37 = .ok (.iload_n 1, 1) := by decide +kernel
theorem dJ2_indexOf_4cfef_38 : decode cJ2_indexOf_4cfef 38 = .ok (.iload_n 2, 1) := by decide +kernel
theorem dJ2_indexOf_4cfef_39 : decode cJ2_indexOf_4cfef 39 = .ok (.iload_n 3, 1) := by decide +kernel
theorem dJ2_indexOf_4cfef_40 : decode cJ2_indexOf_4cfef 40 = .ok (.invokestatic 232, 3) := by decide +kernel
theorem dJ2_indexOf_4cfef_43 : decode cJ2_indexOf_4cfef 43 = .ok (.ireturn, 1) := by decide +kernel
set_option maxRecDepth 20000 in
theorem ggJ2_indexOfChar_4cfef_J2_checkBoundsBeginEnd_d044e : GoodIn wsJ2_indexOfChar_4cfef wsJ2_checkBoundsBeginEnd_d044e := goodIn_r _ [4, 5, 6, 3, 7, 8, 9, 10, 11, 12, 13, 14, 15, 16] (by decide +kernel) (by decide +kernel)
set_option maxRecDepth 20000 in
theorem gJ2_indexOfChar_4cfef_J2_checkBoundsBeginEnd_d044e : GoodIn wsJ2_indexOfChar_4cfef (va_wsS RJ2 96 yJ2_checkBoundsBeginEnd_d044e wsJ2_checkBoundsBeginEnd_d044e) := goodIn_app (goodIn_of _ (by decide +kernel)) ggJ2_indexOfChar_4cfef_J2_checkBoundsBeginEnd_d044e
set_option maxRecDepth 20000 in
theorem ggJ2_indexOfChar_4cfef_J2_indexOfCharUnsafe_4cfef : GoodIn wsJ2_indexOfChar_4cfef wsJ2_indexOfCharUnsafe_4cfef := goodIn_r _ [19, 20, 21, 3, 22, 23, 24, 25, 5, 6, 7] (by decide +kernel) (by decide +kernel)
set_option maxRecDepth 20000 in
theorem gJ2_indexOfChar_4cfef_J2_indexOfCharUnsafe_4cfef : GoodIn wsJ2_indexOfChar_4cfef (va_wsS RJ2 244 yJ2_indexOfCharUnsafe_4cfef wsJ2_indexOfCharUnsafe_4cfef) := goodIn_app (goodIn_of _ (by decide +kernel)) ggJ2_indexOfChar_4cfef_J2_indexOfCharUnsafe_4cfef
theorem dJ2_indexOfChar_4cfef_0 : decode cJ2_indexOfChar_4cfef 0 = .ok (.iload_n 2, 1) := by decide +kernel
theorem dJ2_indexOfChar_4cfef_1 : decode cJ2_indexOfChar_4cfef 1 = .ok (.iload_n 3, 1) := by decide +kernel
theorem dJ2_indexOfChar_4cfef_2 : decode cJ2_indexOfChar_4cfef 2 = .ok (.aload_n 0, 1) := by decide +kernel
theorem dJ2_indexOfChar_4cfef_3 : decode cJ2_indexOfChar_4cfef 3 = .ok (.invokestatic 96, 3) := by decide +kernel
theorem dJ2_indexOfChar_4cfef_6 : decode cJ2_indexOfChar_4cfef 6 = .ok (.aload_n 0, 1) := by decide +kernel
theorem dJ2_indexOfChar_4cfef_7 : decode cJ2_indexOfChar_4cfef 7 = .ok (.iload_n 1, 1) := by decide +kernel
theorem dJ2_indexOfChar_4cfef_8 : decode cJ2_indexOfChar_4cfef 8 = .ok (.iload_n 2, 1) := by decide +kernel
theorem dJ2_indexOfChar_4cfef_9 : decode cJ2_indexOfChar_4cfef 9 = .ok (.iload_n 3, 1) := by decide +kernel
theorem dJ2_indexOfChar_4cfef_10 : decode cJ2_indexOfChar_4cfef 10 = .ok (.invokestatic 244, 3) := by decide +kernel
theorem dJ2_indexOfChar_4cfef_13 : decode cJ2_indexOfChar_4cfef 13 = .ok (.ireturn, 1) := by decide +kernel
set_option maxRecDepth 20000 in
theorem ggJ2_indexOfCharUnsafe_4cfef_J2_getChar_3b067 : GoodIn wsJ2_indexOfCharUnsafe_4cfef wsJ2_getChar_3b067 := goodIn_r _ [4, 5, 6, 7, 8, 9, 3, 10] (by decide +kernel) (by decide +kernel)
set_option maxRecDepth 20000 in
theorem gJ2_indexOfCharUnsafe_4cfef_J2_getChar_3b067 : GoodIn wsJ2_indexOfCharUnsafe_4cfef (va_wsS RJ2 71 yJ2_getChar_3b067 wsJ2_getChar_3b067) := goodIn_app (goodIn_of _ (by decide +kernel)) ggJ2_indexOfCharUnsafe_4cfef_J2_getChar_3b067
theorem dJ2_indexOfCharUnsafe_4cfef_0 : decode cJ2_indexOfCharUnsafe_4cfef 0 = .ok (.iload_n 2, 1) := by decide +kernel
theorem dJ2_indexOfCharUnsafe_4cfef_1 : decode cJ2_indexOfCharUnsafe_4cfef 1 = .ok (.istore 4, 2) := by decide +kernel
theorem dJ2_indexOfCharUnsafe_4cfef_3 : decode cJ2_indexOfCharUnsafe_4cfef 3 = .ok (.iload 4, 2) := by decide +kernel
theorem dJ2_indexOfCharUnsafe_4cfef_5 : decode cJ2_indexOfCharUnsafe_4cfef 5 = .ok (.iload_n 3, 1) := by decide +kernel
theorem dJ2_indexOfCharUnsafe_4cfef_6 : decode cJ2_indexOfCharUnsafe_4cfef 6 = .ok (.if_icmp .ge 22, 3) := by decide +kernel
theorem dJ2_indexOfCharUnsafe_4cfef_9 : decode cJ2_indexOfCharUnsafe_4cfef 9 = .ok (.aload_n 0, 1) := by decide +kernel
theorem dJ2_indexOfCharUnsafe_4cfef_10 : decode cJ2_indexOfCharUnsafe_4cfef 10 = .ok (.iload 4, 2) := by decide +kernel
theorem dJ2_indexOfCharUnsafe_4cfef_12 : decode cJ2_indexOfCharUnsafe_4cfef 12 = .ok (.invokestatic 71, 3) := by decide +kernel
theorem dJ2_indexOfCharUnsafe_4cfef_15 : decode cJ2_indexOfCharUnsafe_4cfef 15 = .ok (.iload_n 1, 1) := by decide +kernel
theorem dJ2_indexOfCharUnsafe_4cfef_16 : decode cJ2_indexOfCharUnsafe_4cfef 16 = .ok (.if_icmp .ne 6, 3) := by decide +kernel
theorem dJ2_indexOfCharUnsafe_4cfef_19 : decode cJ2_indexOfCharUnsafe_4cfef 19 = .ok (.iload 4, 2) := by decide +kernel
theorem dJ2_indexOfCharUnsafe_4cfef_21 : decode cJ2_indexOfCharUnsafe_4cfef 21 = .ok (.ireturn, 1) := by decide +kernel
theorem dJ2_indexOfCharUnsafe_4cfef_22 : decode cJ2_indexOfCharUnsafe_4cfef 22 = .ok (.iinc 4 1, 3) := by decide +kernel
theorem dJ2_indexOfCharUnsafe_4cfef_25 : decode cJ2_indexOfCharUnsafe_4cfef 25 = .ok (.goto (-22), 3) := by decide +kernel
theorem dJ2_indexOfCharUnsafe_4cfef_28 : decode cJ2_indexOfCharUnsafe_4cfef 28 = .ok (.iconst (-1), 1) := by decide +kernel
theorem dJ2_indexOfCharUnsafe_4cfef_29 : decode cJ2_indexOfCharUnsafe_4cfef 29 = .ok (.ireturn, 1) := by decide +kernel
set_option maxRecDepth 20000 in
theorem ggJ2_indexOfSupplementary_4cfef_J11_isValidCodePoint_9a6ad : GoodIn wsJ2_indexOfSupplementary_4cfef wsJ11_isValidCodePoint_9a6ad := goodIn_r _ [4] (by decide +kernel) (by decide +kernel)
set_option maxRecDepth 20000 in
theorem gJ2_indexOfSupplementary_4cfef_J11_isValidCodePoint_9a6ad : GoodIn wsJ2_indexOfSupplementary_4cfef (va_wsS RJ2 164 yJ11_isValidCodePoint_9a6ad wsJ11_isValidCodePoint_9a6ad) := goodIn_app (goodIn_of _ (by decide +kernel)) ggJ2_indexOfSupplementary_4cfef_J11_isValidCodePoint_9a6ad
set_option maxRecDepth 20000 in
theorem ggJ2_indexOfSupplementary_4cfef_J11_highSurrogate_5068e : GoodIn wsJ2_indexOfSupplementary_4cfef wsJ11_highSurrogate_5068e := goodIn_r _ [7, 8] (by decide +kernel) (by decide +kernel)
set_option maxRecDepth 20000 in
theorem gJ2_indexOfSupplementary_4cfef_J11_highSurrogate_5068e : GoodIn wsJ2_indexOfSupplementary_4cfef (va_wsS RJ2 157 yJ11_highSurrogate_5068e wsJ11_highSurrogate_5068e) := goodIn_app (goodIn_of _ (by decide +kernel)) ggJ2_indexOfSupplementary_4cfef_J11_highSurrogate_5068e
set_option maxRecDepth 20000 in
theorem ggJ2_indexOfSupplementary_4cfef_J11_lowSurrogate_5068e : GoodIn wsJ2_indexOfSupplementary_4cfef wsJ11_lowSurrogate_5068e := goodIn_r _ [11, 12] (by decide +kernel) (by decide +kernel)
set_option maxRecDepth 20000 in
theorem gJ2_indexOfSupplementary_4cfef_J11_lowSurrogate_5068e : GoodIn wsJ2_indexOfSupplementary_4cfef (va_wsS RJ2 161 yJ11_lowSurrogate_5068e wsJ11_lowSurrogate_5068e) := goodIn_app (goodIn_of _ (by decide +kernel)) ggJ2_indexOfSupplementary_4cfef_J11_lowSurrogate_5068e
set_option maxRecDepth 20000 in
theorem ggJ2_indexOfSupplementary_4cfef_J2_checkBoundsBeginEnd_d044e : GoodIn wsJ2_indexOfSupplementary_4cfef wsJ2_checkBoundsBeginEnd_d044e := goodIn_r _ [16, 17, 18, 15, 19, 20, 21, 22, 23, 24, 25, 26, 27, 28] (by decide +kernel) (by decide +kernel)
set_option maxRecDepth 20000 in
theorem gJ2_indexOfSupplementary_4cfef_J2_checkBoundsBeginEnd_d044e : GoodIn wsJ2_indexOfSupplementary_4cfef (va_wsS RJ2 96 yJ2_checkBoundsBeginEnd_d044e wsJ2_checkBoundsBeginEnd_d044e) := goodIn_app (goodIn_of _ (by decide +kernel)) ggJ2_indexOfSupplementary_4cfef_J2_checkBoundsBeginEnd_d044e
set_option maxRecDepth 20000 in
theorem ggJ2_indexOfSupplementary_4cfef_J2_getChar_3b067 : GoodIn wsJ2_indexOfSupplementary_4cfef wsJ2_getChar_3b067 := goodIn_r _ [31, 32, 33, 34, 17, 18, 15, 19] (by decide +kernel) (by decide +kernel)
set_option maxRecDepth 20000 in
theorem gJ2_indexOfSupplementary_4cfef_J2_getChar_3b067 : GoodIn wsJ2_indexOfSupplementary_4cfef (va_wsS RJ2 71 yJ2_getChar_3b067 wsJ2_getChar_3b067) := goodIn_app (goodIn_of _ (by decide +kernel)) ggJ2_indexOfSupplementary_4cfef_J2_getChar_3b067
theorem dJ2_indexOfSupplementary_4cfef_0 : decode cJ2_indexOfSupplementary_4cfef 0 = .ok (.iload_n 1, 1) := by decide +kernel
theorem dJ2_indexOfSupplementary_4cfef_1 : decode cJ2_indexOfSupplementary_4cfef 1 = .ok (.invokestatic 164, 3) := by decide +kernel
theorem dJ2_indexOfSupplementary_4cfef_4 : decode cJ2_indexOfSupplementary_4cfef 4 = .ok (.ifCond .eq 65, 3) := by decide +kernel
theorem dJ2_indexOfSupplementary_4cfef_7 : decode cJ2_indexOfSupplementary_4cfef 7 = .ok (.iload_n 1, 1) := by decide +kernel
theorem dJ2_indexOfSupplementary_4cfef_8 : decode cJ2_indexOfSupplementary_4cfef 8 = .ok (.invokestatic 157, 3) := by decide +kernel
theorem dJ2_indexOfSupplementary_4cfef_11 : decode cJ2_indexOfSupplementary_4cfef 11 = .ok (.istore 4, 2) := by decide +kernel
theorem dJ2_indexOfSupplementary_4cfef_13 : decode cJ2_indexOfSupplementary_4cfef 13 = .ok (.iload_n 1, 1) := by decide +kernel
theorem dJ2_indexOfSupplementary_4cfef_14 : decode cJ2_indexOfSupplementary_4cfef 14 = .ok (.invokestatic 161, 3) := by decide +kernel
theorem dJ2_indexOfSupplementary_4cfef_17 : decode cJ2_indexOfSupplementary_4cfef 17 = .ok (.istore 5, 2) := by decide +kernel
theorem dJ2_indexOfSupplementary_4cfef_19 : decode cJ2_indexOfSupplementary_4cfef 19 = .ok (.iload_n 2, 1) := by decide +kernel
theorem dJ2_indexOfSupplementary_4cfef_20 : decode cJ2_indexOfSupplementary_4cfef 20 = .ok (.iload_n 3, 1) := by decide +kernel
theorem dJ2_indexOfSupplementary_4cfef_21 : decode cJ2_indexOfSupplementary_4cfef 21 = .ok (.aload_n 0, 1) := by decide +kernel
theorem dJ2_indexOfSupplementary_4cfef_22 : decode cJ2_indexOfSupplementary_4cfef 22 = .ok (.invokestatic 96, 3) := by decide +kernel
theorem dJ2_indexOfSupplementary_4cfef_25 : decode cJ2_indexOfSupplementary_4cfef 25 = .ok (.iload_n 2, 1) := by decide +kernel
theorem dJ2_indexOfSupplementary_4cfef_26 : decode cJ2_indexOfSupplementary_4cfef 26 = .ok (.istore 6, 2) := by decide +kernel
theorem dJ2_indexOfSupplementary_4cfef_28 : decode cJ2_indexOfSupplementary_4cfef 28 = .ok (.iload 6, 2) := by decide +kernel
theorem dJ2_indexOfSupplementary_4cfef_30 : decode cJ2_indexOfSupplementary_4cfef 30 = .ok (.iload_n 3, 1) := by decide +kernel
theorem dJ2_indexOfSupplementary_4cfef_31 : decode cJ2_indexOfSupplementary_4cfef 31 = .ok (.iconst 1, 1) := by decide +kernel
theorem dJ2_indexOfSupplementary_4cfef_32 : decode cJ2_indexOfSupplementary_4cfef 32 = .ok (.isub, 1) := by decide +kernel
theorem dJ2_indexOfSupplementary_4cfef_33 : decode cJ2_indexOfSupplementary_4cfef 33 = .ok (.if_icmp .ge 36, 3) := by decide +kernel
theorem dJ2_indexOfSupplementary_4cfef_36 : decode cJ2_indexOfSupplementary_4cfef 36 = .ok (.aload_n 0, 1) := by decide +kernel
theorem dJ2_indexOfSupplementary_4cfef_37 : decode cJ2_indexOfSupplementary_4cfef 37 = .ok (.iload 6, 2) := by decide +kernel
theorem dJ2_indexOfSupplementary_4cfef_39 : decode cJ2_indexOfSupplementary_4cfef 39 = .ok (.invokestatic 71, 3) := by decide +kernel
theorem dJ2_indexOfSupplementary_4cfef_42 : decode cJ2_indexOfSupplementary_4cfef 42 = .ok (.iload 4, 2) := by decide +kernel
theorem dJ2_indexOfSupplementary_4cfef_44 : decode cJ2_indexOfSupplementary_4cfef 44 = .ok (.if_icmp .ne 19, 3) := by decide +kernel
theorem dJ2_indexOfSupplementary_4cfef_47 : decode cJ2_indexOfSupplementary_4cfef 47 = .ok (.aload_n 0, 1) := by decide +kernel
theorem dJ2_indexOfSupplementary_4cfef_48 : decode cJ2_indexOfSupplementary_4cfef 48 = .ok (.iload 6, 2) := by decide +kernel
theorem dJ2_indexOfSupplementary_4cfef_50 : decode cJ2_indexOfSupplementary_4cfef 50 = .ok (.iconst 1, 1) := by decide +kernel
theorem dJ2_indexOfSupplementary_4cfef_51 : decode cJ2_indexOfSupplementary_4cfef 51 = .ok (.iadd, 1) := by decide +kernel
theorem dJ2_indexOfSupplementary_4cfef_52 : decode cJ2_indexOfSupplementary_4cfef 52 = .ok (.invokestatic 71, 3) := by decide +kernel
theorem dJ2_indexOfSupplementary_4cfef_55 : decode cJ2_indexOfSupplementary_4cfef 55 = .ok (.iload 5, 2) := by decide +kernel
theorem dJ2_indexOfSupplementary_4cfef_57 : decode cJ2_indexOfSupplementary_4cfef 57 = .ok (.if_icmp .ne 6, 3) := by decide +kernel
theorem dJ2_indexOfSupplementary_4cfef_60 : decode cJ2_indexOfSupplementary_4cfef 60 = .ok (.iload 6, 2) := by decide +kernel
theorem dJ2_indexOfSupplementary_4cfef_62 : decode cJ2_indexOfSupplementary_4cfef 62 = .ok (.ireturn, 1) := by decide +kernel
theorem dJ2_indexOfSupplementary_4cfef_63 : decode cJ2_indexOfSupplementary_4cfef 63 = .ok (.iinc 6 1, 3) := by decide +kernel
theorem dJ2_indexOfSupplementary_4cfef_66 : decode cJ2_indexOfSupplementary_4cfef 66 = .ok (.goto (-38), 3) := by decide +kernel
theorem dJ2_indexOfSupplementary_4cfef_69 : decode cJ2_indexOfSupplementary_4cfef 69 = .ok (.iconst (-1), 1) := by decide +kernel
theorem dJ2_indexOfSupplementary_4cfef_70 : decode cJ2_indexOfSupplementary_4cfef 70 = .ok (.ireturn, 1) := by decide +kernel
set_option maxRecDepth 20000 in
theorem ggJ2_charAt_3b067_J2_checkIndex_2214a : GoodIn wsJ2_charAt_3b067 wsJ2_checkIndex_2214a := goodIn_r _ [4, 5, 6, 3, 7, 8, 9, 10, 11, 12, 13, 14, 15, 16] (by decide +kernel) (by decide +kernel)
set_option maxRecDepth 20000 in
theorem gJ2_charAt_3b067_J2_checkIndex_2214a : GoodIn wsJ2_charAt_3b067 (va_wsS RJ2 67 yJ2_checkIndex_2214a wsJ2_checkIndex_2214a) := goodIn_app (goodIn_of _ (by decide +kernel)) ggJ2_charAt_3b067_J2_checkIndex_2214a
set_option maxRecDepth 20000 in
theorem ggJ2_charAt_3b067_J2_getChar_3b067 : GoodIn wsJ2_charAt_3b067 wsJ2_getChar_3b067 := goodIn_r _ [19, 20, 21, 22, 5, 6, 3, 7] (by decide +kernel) (by decide +kernel)
set_option maxRecDepth 20000 in
theorem gJ2_charAt_3b067_J2_getChar_3b067 : GoodIn wsJ2_charAt_3b067 (va_wsS RJ2 71 yJ2_getChar_3b067 wsJ2_getChar_3b067) := goodIn_app (goodIn_of _ (by decide +kernel)) ggJ2_charAt_3b067_J2_getChar_3b067
theorem dJ2_charAt_3b067_0 : decode cJ2_charAt_3b067 0 = .ok (.iload_n 1, 1) := by decide +kernel
theorem dJ2_charAt_3b067_1 : decode cJ2_charAt_3b067 1 = .ok (.aload_n 0, 1) := by decide +kernel
theorem dJ2_charAt_3b067_2 : decode cJ2_charAt_3b067 2 = .ok (.invokestatic 67, 3) := by decide +kernel
theorem dJ2_charAt_3b067_5 : decode cJ2_charAt_3b067 5 = .ok (.aload_n 0, 1) := by decide +kernel
theorem dJ2_charAt_3b067_6 : decode cJ2_charAt_3b067 6 = .ok (.iload_n 1, 1) := by decide +kernel
theorem dJ2_charAt_3b067_7 : decode cJ2_charAt_3b067 7 = .ok (.invokestatic 71, 3) := by decide +kernel
theorem dJ2_charAt_3b067_10 : decode cJ2_charAt_3b067 10 = .ok (.ireturn, 1) := by decide +kernel
set_option maxRecDepth 20000 in
theorem ggJ2_checkIndex_2214a_J2_length_9d52b : GoodIn wsJ2_checkIndex_2214a wsJ2_length_9d52b := goodIn_r _ [4] (by decide +kernel) (by decide +kernel)
set_option maxRecDepth 20000 in
theorem gJ2_checkIndex_2214a_J2_length_9d52b : GoodIn wsJ2_checkIndex_2214a (va_wsS RJ2 48 yJ2_length_9d52b wsJ2_length_9d52b) := goodIn_app (goodIn_of _ (by decide +kernel)) ggJ2_checkIndex_2214a_J2_length_9d52b
set_option maxRecDepth 20000 in
theorem ggJ2_checkIndex_2214a_J0_checkIndex_df160 : GoodIn wsJ2_checkIndex_2214a wsJ0_checkIndex_df160 := goodIn_r _ [8, 9, 10, 11, 12, 13] (by decide +kernel) (by decide +kernel)
set_option maxRecDepth 20000 in
theorem gJ2_checkIndex_2214a_J0_checkIndex_df160 : GoodIn wsJ2_checkIndex_2214a (va_wsS RJ2 414 yJ0_checkIndex_df160 wsJ0_checkIndex_df160) := goodIn_app (goodIn_of _ (by decide +kernel)) ggJ2_checkIndex_2214a_J0_checkIndex_df160
theorem dJ2_checkIndex_2214a_0 : decode cJ2_checkIndex_2214a 0 = .ok (.iload_n 0, 1) := by decide +kernel
theorem dJ2_checkIndex_2214a_1 : decode cJ2_checkIndex_2214a 1 = .ok (.aload_n 1, 1) := by decide +kernel
theorem dJ2_checkIndex_2214a_2 : decode cJ2_checkIndex_2214a 2 = .ok (.invokestatic 48, 3) := by decide +kernel
theorem dJ2_checkIndex_2214a_5 : decode cJ2_checkIndex_2214a 5 = .ok (.invokestatic 414, 3) := by decide +kernel
theorem dJ2_checkIndex_2214a_8 : decode cJ2_checkIndex_2214a 8 = .ok (.return_, 1) := by decide +kernel
set_option maxRecDepth 20000 in
theorem ggJ2_checkBoundsBeginEnd_d044e_J2_length_9d52b : GoodIn wsJ2_checkBoundsBeginEnd_d044e wsJ2_length_9d52b := goodIn_r _ [4] (by decide +kernel) (by decide +kernel)
set_option maxRecDepth 20000 in
theorem gJ2_checkBoundsBeginEnd_d044e_J2_length_9d52b : GoodIn wsJ2_checkBoundsBeginEnd_d044e (va_wsS RJ2 48 yJ2_length_9d52b wsJ2_length_9d52b) := goodIn_app (goodIn_of _ (by decide +kernel)) ggJ2_checkBoundsBeginEnd_d044e_J2_length_9d52b
set_option maxRecDepth 20000 in
theorem ggJ2_checkBoundsBeginEnd_d044e_J0_checkBoundsBeginEnd_23922 : GoodIn wsJ2_checkBoundsBeginEnd_d044e wsJ0_checkBoundsBeginEnd_23922 := goodIn_r _ [8, 9, 10, 11, 12, 13] (by decide +kernel) (by decide +kernel)
set_option maxRecDepth 20000 in
theorem gJ2_checkBoundsBeginEnd_d044e_J0_checkBoundsBeginEnd_23922 : GoodIn wsJ2_checkBoundsBeginEnd_d044e (va_wsS RJ2 241 yJ0_checkBoundsBeginEnd_23922 wsJ0_checkBoundsBeginEnd_23922) := goodIn_app (goodIn_of _ (by decide +kernel)) ggJ2_checkBoundsBeginEnd_d044e_J0_checkBoundsBeginEnd_23922
theorem dJ2_checkBoundsBeginEnd_d044e_0 : decode cJ2_checkBoundsBeginEnd_d044e 0 = .ok (.iload_n 0, 1) := by decide +kernel
theorem dJ2_checkBoundsBeginEnd_d044e_1 : decode cJ2_checkBoundsBeginEnd_d044e 1 = .ok (.iload_n 1, 1) := by decide +kernel
theorem dJ2_checkBoundsBeginEnd_d044e_2 : decode cJ2_checkBoundsBeginEnd_d044e 2 = .ok (.aload_n 2, 1) := by decide +kernel
theorem dJ2_checkBoundsBeginEnd_d044e_3 : decode cJ2_checkBoundsBeginEnd_d044e 3 = .ok (.invokestatic 48, 3) := by decide +kernel
theorem dJ2_checkBoundsBeginEnd_d044e_6 : decode cJ2_checkBoundsBeginEnd_d044e 6 = .ok (.invokestatic 241, 3) := by decide +kernel
theorem dJ2_checkBoundsBeginEnd_d044e_9 : decode cJ2_checkBoundsBeginEnd_d044e 9 = .ok (.return_, 1) := by decide +kernel
theorem dJ3_checkIndex_8e157_0 : decode cJ3_checkIndex_8e157 0 = .ok (.iload_n 0, 1) := by decide +kernel
theorem dJ3_checkIndex_8e157_1 : decode cJ3_checkIndex_8e157 1 = .ok (.ifCond .lt 8, 3) := by decide +kernel
theorem dJ3_checkIndex_8e157_4 : decode cJ3_checkIndex_8e157 4 = .ok (.iload_n 0, 1) := by decide +kernel
theorem dJ3_checkIndex_8e157_5 : decode cJ3_checkIndex_8e157 5 = .ok (.iload_n 1, 1) := by decide +kernel
theorem dJ3_checkIndex_8e157_6 : decode cJ3_checkIndex_8e157 6 = .ok (.if_icmp .lt 10, 3) := by decide +kernel
theorem dJ3_checkIndex_8e157_9 : decode cJ3_checkIndex_8e157 9 = .ok (.aload_n 2, 1) := by decide +kernel
theorem dJ3_checkIndex_8e157_10 : decode cJ3_checkIndex_8e157 10 = .ok (.iload_n 0, 1) := by decide +kernel
theorem dJ3_checkIndex_8e157_11 : decode cJ3_checkIndex_8e157 11 = .ok (.iload_n 1, 1) := by decide +kernel
theorem dJ3_checkIndex_8e157_12 : decode cJ3_checkIndex_8e157 12 = .ok (.invokestatic 95, 3) := by decide +kernel
theorem dJ3_checkIndex_8e157_15 : decode cJ3_checkIndex_8e157 15 = .ok (.athrow, 1) := by decide +kernel
theorem dJ3_checkIndex_8e157_16 : decode cJ3_checkIndex_8e157 16 = .ok (.iload_n 0, 1) := by decide +kernel
theorem dJ3_checkIndex_8e157_17 : decode cJ3_checkIndex_8e157 17 = .ok (.ireturn, 1) := by decide +kernel
theorem dJ3_checkFromToIndex_8c36e_0 : decode cJ3_checkFromToIndex_8c36e 0 = .ok (.iload_n 0, 1) := by decide +kernel
theorem dJ3_checkFromToIndex_8c36e_1 : decode cJ3_checkFromToIndex_8c36e 1 = .ok (.ifCond .lt 13, 3) := by decide +kernel
theorem dJ3_checkFromToIndex_8c36e_4 : decode cJ3_checkFromToIndex_8c36e 4 = .ok (.iload_n 0, 1) := by decide +kernel
theorem dJ3_checkFromToIndex_8c36e_5 : decode cJ3_checkFromToIndex_8c36e 5 = .ok (.iload_n 1, 1) := by decide +kernel
theorem dJ3_checkFromToIndex_8c36e_6 : decode cJ3_checkFromToIndex_8c36e 6 = .ok (.if_icmp .gt 8, 3) := by decide +kernel
theorem dJ3_checkFromToIndex_8c36e_9 : decode cJ3_checkFromToIndex_8c36e 9 = .ok (.iload_n 1, 1) := by decide +kernel
theorem dJ3_checkFromToIndex_8c36e_10 : decode cJ3_checkFromToIndex_8c36e 10 = .ok (.iload_n 2, 1) := by decide +kernel
theorem dJ3_checkFromToIndex_8c36e_11 : decode cJ3_checkFromToIndex_8c36e 11 = .ok (.if_icmp .le 11, 3) := by decide +kernel
theorem dJ3_checkFromToIndex_8c36e_14 : decode cJ3_checkFromToIndex_8c36e 14 = .ok (.aload_n 3, 1) := by decide +kernel
theorem dJ3_checkFromToIndex_8c36e_15 : decode cJ3_checkFromToIndex_8c36e 15 = .ok (.iload_n 0, 1) := by decide +kernel
theorem dJ3_checkFromToIndex_8c36e_16 : decode cJ3_checkFromToIndex_8c36e 16 = .ok (.iload_n 1, 1) := by decide +kernel
theorem dJ3_checkFromToIndex_8c36e_17 : decode cJ3_checkFromToIndex_8c36e 17 = .ok (.iload_n 2, 1) := by decide +kernel
theorem dJ3_checkFromToIndex_8c36e_18 : decode cJ3_checkFromToIndex_8c36e 18 = .ok (.invokestatic 99, 3) := by decide +kernel
theorem dJ3_checkFromToIndex_8c36e_21 : decode cJ3_checkFromToIndex_8c36e 21 = .ok (.athrow, 1) := by decide +kernel
theorem dJ3_checkFromToIndex_8c36e_22 : decode cJ3_checkFromToIndex_8c36e 22 = .ok (.iload_n 0, 1) := by decide +kernel
theorem dJ3_checkFromToIndex_8c36e_23 : decode cJ3_checkFromToIndex_8c36e 23 = .ok (.ireturn, 1) := by decide +kernel
