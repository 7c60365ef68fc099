theorem dX8_statement_11 : decode cX8_statement 11 = .ok (.iload_n 1, 1) := by decide +kernel
theorem dX8_statement_12 : decode cX8_statement 12 = .ok (.bipush 103, 2) := by decide +kernel
theorem dX8_statement_14 : decode cX8_statement 14 = .ok (.if_icmp .eq 29, 3) := by decide +kernel
theorem dX8_statement_17 : decode cX8_statement 17 = .ok (.iload_n 1, 1) := by decide +kernel
theorem dX8_statement_18 : decode cX8_statement 18 = .ok (.bipush 116, 2) := by decide +kernel
theorem dX8_statement_20 : decode cX8_statement 20 = .ok (.if_icmp .eq 23, 3) := by decide +kernel
theorem dX8_statement_23 : decode cX8_statement 23 = .ok (.iload_n 1, 1) := by decide +kernel
theorem dX8_statement_24 : decode cX8_statement 24 = .ok (.bipush 108, 2) := by decide +kernel
theorem dX8_statement_26 : decode cX8_statement 26 = .ok (.if_icmp .eq 17, 3) := by decide +kernel
theorem dX8_statement_29 : decode cX8_statement 29 = .ok (.iload_n 1, 1) := by decide +kernel
theorem dX8_statement_30 : decode cX8_statement 30 = .ok (.bipush 119, 2) := by decide +kernel
theorem dX8_statement_32 : decode cX8_statement 32 = .ok (.if_icmp .eq 11, 3) := by decide +kernel
theorem dX8_statement_35 : decode cX8_statement 35 = .ok (.iload_n 1, 1) := by decide +kernel
theorem dX8_statement_36 : decode cX8_statement 36 = .ok (.bipush 121, 2) := by decide +kernel
theorem dX8_statement_38 : decode cX8_statement 38 = .ok (.if_icmp .eq 5, 3) := by decide +kernel
theorem dX8_statement_41 : decode cX8_statement 41 = .ok (.iconst 0, 1) := by decide +kernel
theorem dX8_statement_42 : decode cX8_statement 42 = .ok (.ireturn, 1) := by decide +kernel
theorem dX8_statement_43 : decode cX8_statement 43 = .ok (.aload_n 0, 1) := by decide +kernel
theorem dX8_statement_44 : decode cX8_statement 44 = .ok (.getfield 43, 3) := by decide +kernel
theorem dX8_statement_47 : decode cX8_statement 47 = .ok (.aload_n 0, 1) := by decide +kernel
theorem dX8_statement_48 : decode cX8_statement 48 = .ok (.getfield 111, 3) := by decide +kernel
theorem dX8_statement_51 : decode cX8_statement 51 = .ok (.iload_n 1, 1) := by decide +kernel
theorem dX8_statement_52 : decode cX8_statement 52 = .ok (.iastore, 1) := by decide +kernel
theorem dX8_statement_53 : decode cX8_statement 53 = .ok (.aload_n 0, 1) := by decide +kernel
theorem dX8_statement_54 : decode cX8_statement 54 = .ok (.getfield 46, 3) := by decide +kernel
theorem dX8_statement_57 : decode cX8_statement 57 = .ok (.aload_n 0, 1) := by decide +kernel
theorem dX8_statement_58 : decode cX8_statement 58 = .ok (.getfield 111, 3) := by decide +kernel
theorem dX8_statement_61 : decode cX8_statement 61 = .ok (.aload_n 0, 1) := by decide +kernel
theorem dX8_statement_62 : decode cX8_statement 62 = .ok (.getfield 90, 3) := by decide +kernel
theorem dX8_statement_65 : decode cX8_statement 65 = .ok (.iastore, 1) := by decide +kernel
theorem dX8_statement_66 : decode cX8_statement 66 = .ok (.aload_n 0, 1) := by decide +kernel
theorem dX8_statement_67 : decode cX8_statement 67 = .ok (.dup, 1) := by decide +kernel
theorem dX8_statement_68 : decode cX8_statement 68 = .ok (.getfield 90, 3) := by decide +kernel
theorem dX8_statement_71 : decode cX8_statement 71 = .ok (.iconst 1, 1) := by decide +kernel
theorem dX8_statement_72 : decode cX8_statement 72 = .ok (.iadd, 1) := by decide +kernel
theorem dX8_statement_73 : decode cX8_statement 73 = .ok (.putfield 90, 3) := by decide +kernel
theorem dX8_statement_76 : decode cX8_statement 76 = .ok (.aload_n 0, 1) := by decide +kernel
theorem dX8_statement_77 : decode cX8_statement 77 = .ok (.iload_n 1, 1) := by decide +kernel
theorem dX8_statement_78 : decode cX8_statement 78 = .ok (.iconst 3, 1) := by decide +kernel
theorem dX8_statement_79 : decode cX8_statement 79 = .ok (.aload_n 0, 1) := by decide +kernel
theorem dX8_statement_80 : decode cX8_statement 80 = .ok (.getfield 111, 3) := by decide +kernel
theorem dX8_statement_83 : decode cX8_statement 83 = .ok (.imul, 1) := by decide +kernel
theorem dX8_statement_84 : decode cX8_statement 84 = .ok (.invokevirtual 114, 3) := by decide +kernel
theorem dX8_statement_87 : decode cX8_statement 87 = .ok (.ifCond .eq 12, 3) := by decide +kernel
theorem dX8_statement_90 : decode cX8_statement 90 = .ok (.aload_n 0, 1) := by decide +kernel
theorem dX8_statement_91 : decode cX8_statement 91 = .ok (.invokevirtual 93, 3) := by decide +kernel
theorem dX8_statement_94 : decode cX8_statement 94 = .ok (.bipush 59, 2) := by decide +kernel
theorem dX8_statement_96 : decode cX8_statement 96 = .ok (.if_icmp .eq 5, 3) := by decide +kernel
theorem dX8_statement_99 : decode cX8_statement 99 = .ok (.iconst 0, 1) := by decide +kernel
theorem dX8_statement_100 : decode cX8_statement 100 = .ok (.ireturn, 1) := by decide +kernel
theorem dX8_statement_101 : decode cX8_statement 101 = .ok (.aload_n 0, 1) := by decide +kernel
theorem dX8_statement_102 : decode cX8_statement 102 = .ok (.dup, 1) := by decide +kernel
theorem dX8_statement_103 : decode cX8_statement 103 = .ok (.getfield 90, 3) := by decide +kernel
theorem dX8_statement_106 : decode cX8_statement 106 = .ok (.iconst 1, 1) := by decide +kernel
theorem dX8_statement_107 : decode cX8_statement 107 = .ok (.iadd, 1) := by decide +kernel
theorem dX8_statement_108 : decode cX8_statement 108 = .ok (.putfield 90, 3) := by decide +kernel
theorem dX8_statement_111 : decode cX8_statement 111 = .ok (.iconst 1, 1) := by decide +kernel
theorem dX8_statement_112 : decode cX8_statement 112 = .ok (.ireturn, 1) := by decide +kernel
theorem dX8_comesBride_0 : decode cX8_comesBride 0 = .ok (.iload_n 3, 1) := by decide +kernel
theorem dX8_comesBride_1 : decode cX8_comesBride 1 = .ok (.bipush 63, 2) := by decide +kernel
theorem dX8_comesBride_3 : decode cX8_comesBride 3 = .ok (.if_icmp .gt 12, 3) := by decide +kernel
theorem dX8_comesBride_6 : decode cX8_comesBride 6 = .ok (.aload_n 0, 1) := by decide +kernel
theorem dX8_comesBride_7 : decode cX8_comesBride 7 = .ok (.getfield 66, 3) := by decide +kernel
theorem dX8_comesBride_10 : decode cX8_comesBride 10 = .ok (.bipush 8, 2) := by decide +kernel
theorem dX8_comesBride_12 : decode cX8_comesBride 12 = .ok (.if_icmp .ne 5, 3) := by decide +kernel
theorem dX8_comesBride_15 : decode cX8_comesBride 15 = .ok (.iconst 0, 1) := by decide +kernel
theorem dX8_comesBride_16 : decode cX8_comesBride 16 = .ok (.ireturn, 1) := by decide +kernel
theorem dX8_comesBride_17 : decode cX8_comesBride 17 = .ok (.aload_n 0, 1) := by decide +kernel
theorem dX8_comesBride_18 : decode cX8_comesBride 18 = .ok (.getfield 13, 3) := by decide +kernel
theorem dX8_comesBride_21 : decode cX8_comesBride 21 = .ok (.aload_n 0, 1) := by decide +kernel
theorem dX8_comesBride_22 : decode cX8_comesBride 22 = .ok (.getfield 66, 3) := by decide +kernel
theorem dX8_comesBride_25 : decode cX8_comesBride 25 = .ok (.iload_n 1, 1) := by decide +kernel
theorem dX8_comesBride_26 : decode cX8_comesBride 26 = .ok (.iastore, 1) := by decide +kernel
theorem dX8_comesBride_27 : decode cX8_comesBride 27 = .ok (.aload_n 0, 1) := by decide +kernel
theorem dX8_comesBride_28 : decode cX8_comesBride 28 = .ok (.getfield 16, 3) := by decide +kernel
theorem dX8_comesBride_31 : decode cX8_comesBride 31 = .ok (.aload_n 0, 1) := by decide +kernel
theorem dX8_comesBride_32 : decode cX8_comesBride 32 = .ok (.getfield 66, 3) := by decide +kernel
theorem dX8_comesBride_35 : decode cX8_comesBride 35 = .ok (.iload_n 2, 1) := by decide +kernel
theorem dX8_comesBride_36 : decode cX8_comesBride 36 = .ok (.iastore, 1) := by decide +kernel
theorem dX8_comesBride_37 : decode cX8_comesBride 37 = .ok (.aload_n 0, 1) := by decide +kernel
theorem dX8_comesBride_38 : decode cX8_comesBride 38 = .ok (.getfield 19, 3) := by decide +kernel
theorem dX8_comesBride_41 : decode cX8_comesBride 41 = .ok (.aload_n 0, 1) := by decide +kernel
theorem dX8_comesBride_42 : decode cX8_comesBride 42 = .ok (.getfield 66, 3) := by decide +kernel
theorem dX8_comesBride_45 : decode cX8_comesBride 45 = .ok (.iload_n 3, 1) := by decide +kernel
theorem dX8_comesBride_46 : decode cX8_comesBride 46 = .ok (.iastore, 1) := by decide +kernel
theorem dX8_comesBride_47 : decode cX8_comesBride 47 = .ok (.aload_n 0, 1) := by decide +kernel
theorem dX8_comesBride_48 : decode cX8_comesBride 48 = .ok (.getfield 22, 3) := by decide +kernel
theorem dX8_comesBride_51 : decode cX8_comesBride 51 = .ok (.aload_n 0, 1) := by decide +kernel
theorem dX8_comesBride_52 : decode cX8_comesBride 52 = .ok (.getfield 66, 3) := by decide +kernel
theorem dX8_comesBride_55 : decode cX8_comesBride 55 = .ok (.iconst 0, 1) := by decide +kernel
theorem dX8_comesBride_56 : decode cX8_comesBride 56 = .ok (.iastore, 1) := by decide +kernel
theorem dX8_comesBride_57 : decode cX8_comesBride 57 = .ok (.aload_n 0, 1) := by decide +kernel
theorem dX8_comesBride_58 : decode cX8_comesBride 58 = .ok (.getfield 25, 3) := by decide +kernel
theorem dX8_comesBride_61 : decode cX8_comesBride 61 = .ok (.aload_n 0, 1) := by decide +kernel
theorem dX8_comesBride_62 : decode cX8_comesBride 62 = .ok (.getfield 66, 3) := by decide +kernel
theorem dX8_comesBride_65 : decode cX8_comesBride 65 = .ok (.iconst 0, 1) := by decide +kernel
theorem dX8_comesBride_66 : decode cX8_comesBride 66 = .ok (.iastore, 1) := by decide +kernel
theorem dX8_comesBride_67 : decode cX8_comesBride 67 = .ok (.aload_n 0, 1) := by decide +kernel
theorem dX8_comesBride_68 : decode cX8_comesBride 68 = .ok (.dup, 1) := by decide +kernel
theorem dX8_comesBride_69 : decode cX8_comesBride 69 = .ok (.getfield 66, 3) := by decide +kernel
theorem dX8_comesBride_72 : decode cX8_comesBride 72 = .ok (.iconst 1, 1) := by decide +kernel
theorem dX8_comesBride_73 : decode cX8_comesBride 73 = .ok (.iadd, 1) := by decide +kernel
theorem dX8_comesBride_74 : decode cX8_comesBride 74 = .ok (.putfield 66, 3) := by decide +kernel
theorem dX8_comesBride_77 : decode cX8_comesBride 77 = .ok (.iconst 1, 1) := by decide +kernel
theorem dX8_comesBride_78 : decode cX8_comesBride 78 = .ok (.ireturn, 1) := by decide +kernel
theorem dX8_comesGroom_0 : decode cX8_comesGroom 0 = .ok (.iload_n 1, 1) := by decide +kernel
theorem dX8_comesGroom_1 : decode cX8_comesGroom 1 = .ok (.bipush 63, 2) := by decide +kernel
theorem dX8_comesGroom_3 : decode cX8_comesGroom 3 = .ok (.if_icmp .gt 17, 3) := by decide +kernel
theorem dX8_comesGroom_6 : decode cX8_comesGroom 6 = .ok (.iload_n 2, 1) := by decide +kernel
theorem dX8_comesGroom_7 : decode cX8_comesGroom 7 = .ok (.bipush 63, 2) := by decide +kernel
theorem dX8_comesGroom_9 : decode cX8_comesGroom 9 = .ok (.if_icmp .gt 11, 3) := by decide +kernel
theorem dX8_comesGroom_12 : decode cX8_comesGroom 12 = .ok (.aload_n 0, 1) := by decide +kernel
theorem dX8_comesGroom_13 : decode cX8_comesGroom 13 = .ok (.getfield 76, 3) := by decide +kernel
theorem dX8_comesGroom_16 : decode cX8_comesGroom 16 = .ok (.iconst 5, 1) := by decide +kernel
theorem dX8_comesGroom_17 : decode cX8_comesGroom 17 = .ok (.if_icmp .ne 5, 3) := by decide +kernel
theorem dX8_comesGroom_20 : decode cX8_comesGroom 20 = .ok (.iconst 0, 1) := by decide +kernel
theorem dX8_comesGroom_21 : decode cX8_comesGroom 21 = .ok (.ireturn, 1) := by decide +kernel
theorem dX8_comesGroom_22 : decode cX8_comesGroom 22 = .ok (.aload_n 0, 1) := by decide +kernel
theorem dX8_comesGroom_23 : decode cX8_comesGroom 23 = .ok (.getfield 28, 3) := by decide +kernel
theorem dX8_comesGroom_26 : decode cX8_comesGroom 26 = .ok (.aload_n 0, 1) := by decide +kernel
theorem dX8_comesGroom_27 : decode cX8_comesGroom 27 = .ok (.getfield 76, 3) := by decide +kernel
theorem dX8_comesGroom_30 : decode cX8_comesGroom 30 = .ok (.iload_n 1, 1) := by decide +kernel
theorem dX8_comesGroom_31 : decode cX8_comesGroom 31 = .ok (.iastore, 1) := by decide +kernel
theorem dX8_comesGroom_32 : decode cX8_comesGroom 32 = .ok (.aload_n 0, 1) := by decide +kernel
theorem dX8_comesGroom_33 : decode cX8_comesGroom 33 = .ok (.getfield 31, 3) := by decide +kernel
theorem dX8_comesGroom_36 : decode cX8_comesGroom 36 = .ok (.aload_n 0, 1) := by decide +kernel
theorem dX8_comesGroom_37 : decode cX8_comesGroom 37 = .ok (.getfield 76, 3) := by decide +kernel
theorem dX8_comesGroom_40 : decode cX8_comesGroom 40 = .ok (.iload_n 2, 1) := by decide +kernel
theorem dX8_comesGroom_41 : decode cX8_comesGroom 41 = .ok (.iastore, 1) := by decide +kernel
theorem dX8_comesGroom_42 : decode cX8_comesGroom 42 = .ok (.aload_n 0, 1) := by decide +kernel
theorem dX8_comesGroom_43 : decode cX8_comesGroom 43 = .ok (.getfield 34, 3) := by decide +kernel
theorem dX8_comesGroom_46 : decode cX8_comesGroom 46 = .ok (.aload_n 0, 1) := by decide +kernel
theorem dX8_comesGroom_47 : decode cX8_comesGroom 47 = .ok (.getfield 76, 3) := by decide +kernel
theorem dX8_comesGroom_50 : decode cX8_comesGroom 50 = .ok (.iconst 0, 1) := by decide +kernel
theorem dX8_comesGroom_51 : decode cX8_comesGroom 51 = .ok (.iastore, 1) := by decide +kernel
theorem dX8_comesGroom_52 : decode cX8_comesGroom 52 = .ok (.aload_n 0, 1) := by decide +kernel
theorem dX8_comesGroom_53 : decode cX8_comesGroom 53 = .ok (.getfield 37, 3) := by decide +kernel
theorem dX8_comesGroom_56 : decode cX8_comesGroom 56 = .ok (.aload_n 0, 1) := by decide +kernel
theorem dX8_comesGroom_57 : decode cX8_comesGroom 57 = .ok (.getfield 76, 3) := by decide +kernel
theorem dX8_comesGroom_60 : decode cX8_comesGroom 60 = .ok (.iconst 0, 1) := by decide +kernel
theorem dX8_comesGroom_61 : decode cX8_comesGroom 61 = .ok (.iastore, 1) := by decide +kernel
theorem dX8_comesGroom_62 : decode cX8_comesGroom 62 = .ok (.aload_n 0, 1) := by decide +kernel
theorem dX8_comesGroom_63 : decode cX8_comesGroom 63 = .ok (.dup, 1) := by decide +kernel
theorem dX8_comesGroom_64 : decode cX8_comesGroom 64 = .ok (.getfield 76, 3) := by decide +kernel
theorem dX8_comesGroom_67 : decode cX8_comesGroom 67 = .ok (.iconst 1, 1) := by decide +kernel
theorem dX8_comesGroom_68 : decode cX8_comesGroom 68 = .ok (.iadd, 1) := by decide +kernel
theorem dX8_comesGroom_69 : decode cX8_comesGroom 69 = .ok (.putfield 76, 3) := by decide +kernel
theorem dX8_comesGroom_72 : decode cX8_comesGroom 72 = .ok (.iconst 1, 1) := by decide +kernel
theorem dX8_comesGroom_73 : decode cX8_comesGroom 73 = .ok (.ireturn, 1) := by decide +kernel
set_option maxRecDepth 20000 in
theorem ggX8_comesYears_X8_isIn : GoodIn wsX8_comesYears wsX8_isIn := goodIn_r _ [5] (by decide +kernel) (by decide +kernel)
set_option maxRecDepth 20000 in
theorem gX8_comesYears_X8_isIn : GoodIn wsX8_comesYears (va_wsS RX8 97 yX8_isIn wsX8_isIn) := goodIn_app (goodIn_of _ (by decide +kernel)) ggX8_comesYears_X8_isIn
set_option maxRecDepth 20000 in
theorem ggX8_comesYears_X8_goes : GoodIn wsX8_comesYears wsX8_goes := goodIn_r _ [9, 10, 11, 12, 4, 13, 1, 14, 15, 16, 17, 18, 19, 20, 21, 22, 23, 24, 25, 26, 27, 28, 29, 30, 31, 32, 33, 34, 35, 36, 37, 38, 39, 40, 41, 42, 43, 44, 45, 46, 47] (by decide +kernel) (by decide +kernel)
set_option maxRecDepth 20000 in
theorem gX8_comesYears_X8_goes : GoodIn wsX8_comesYears (wsV RX8 120 RX8 yX8_goes wsX8_goes) := goodIn_app (goodIn_of _ (by decide +kernel)) ggX8_comesYears_X8_goes
theorem dX8_comesYears_0 : decode cX8_comesYears 0 = .ok (.iload_n 1, 1) := by decide +kernel
theorem dX8_comesYears_1 : decode cX8_comesYears 1 = .ok (.iconst 1, 1) := by decide +kernel
theorem dX8_comesYears_2 : decode cX8_comesYears 2 = .ok (.bipush 60, 2) := by decide +kernel
theorem dX8_comesYears_4 : decode cX8_comesYears 4 = .ok (.invokestatic 97, 3) := by decide +kernel
theorem dX8_comesYears_7 : decode cX8_comesYears 7 = .ok (.ifCond .eq 15, 3) := by decide +kernel
theorem dX8_comesYears_10 : decode cX8_comesYears 10 = .ok (.aload_n 0, 1) := by decide +kernel
theorem dX8_comesYears_11 : decode cX8_comesYears 11 = .ok (.getfield 117, 3) := by decide +kernel
theorem dX8_comesYears_14 : decode cX8_comesYears 14 = .ok (.iload_n 1, 1) := by decide +kernel
theorem dX8_comesYears_15 : decode cX8_comesYears 15 = .ok (.iadd, 1) := by decide +kernel
theorem dX8_comesYears_16 : decode cX8_comesYears 16 = .ok (.sipush 999, 3) := by decide +kernel
theorem dX8_comesYears_19 : decode cX8_comesYears 19 = .ok (.if_icmp .le 5, 3) := by decide +kernel
theorem dX8_comesYears_22 : decode cX8_comesYears 22 = .ok (.iconst 0, 1) := by decide +kernel
theorem dX8_comesYears_23 : decode cX8_comesYears 23 = .ok (.ireturn, 1) := by decide +kernel
theorem dX8_comesYears_24 : decode cX8_comesYears 24 = .ok (.aload_n 0, 1) := by decide +kernel
theorem dX8_comesYears_25 : decode cX8_comesYears 25 = .ok (.iload_n 1, 1) := by decide +kernel
theorem dX8_comesYears_26 : decode cX8_comesYears 26 = .ok (.invokevirtual 120, 3) := by decide +kernel
theorem dX8_comesYears_29 : decode cX8_comesYears 29 = .ok (.iconst 1, 1) := by decide +kernel
theorem dX8_comesYears_30 : decode cX8_comesYears 30 = .ok (.ireturn, 1) := by decide +kernel
set_option maxRecDepth 20000 in
theorem ggX8_comes_X8_comesBride : GoodIn wsX8_comes wsX8_comesBride := goodIn_r _ [9, 10, 11, 12, 3, 13, 14, 96, 97, 98, 99, 100, 101, 102, 103, 104, 105, 106, 107, 108, 109, 110, 111, 112, 113, 114, 115, 116, 117, 118, 119, 120, 121, 122, 123, 124] (by decide +kernel) (by decide +kernel)
set_option maxRecDepth 20000 in
theorem gX8_comes_X8_comesBride : GoodIn wsX8_comes (wsV RX8 124 RX8 yX8_comesBride wsX8_comesBride) := goodIn_app (goodIn_of _ (by decide +kernel)) ggX8_comes_X8_comesBride
set_option maxRecDepth 20000 in
theorem ggX8_comes_X8_comesGroom : GoodIn wsX8_comes wsX8_comesGroom := goodIn_r _ [18, 19, 20, 21, 4, 22, 96, 97, 98, 99, 100, 101, 102, 103, 104, 105, 106, 107, 108, 109, 110, 111, 112, 113, 114, 115, 116, 117, 118, 119, 120, 121, 122, 123, 124] (by decide +kernel) (by decide +kernel)
set_option maxRecDepth 20000 in
theorem gX8_comes_X8_comesGroom : GoodIn wsX8_comes (wsV RX8 127 RX8 yX8_comesGroom wsX8_comesGroom) := goodIn_app (goodIn_of _ (by decide +kernel)) ggX8_comes_X8_comesGroom
set_option maxRecDepth 20000 in
theorem ggX8_comes_X8_isBride : GoodIn wsX8_comes wsX8_isBride := goodIn_r _ [26, 10, 96, 97, 98, 99, 100, 101, 102, 103, 104, 105, 106, 107, 108, 109, 110, 111, 112, 113, 114, 115, 116, 117, 118, 119, 120, 121, 122, 123, 124] (by decide +kernel) (by decide +kernel)
set_option maxRecDepth 20000 in
theorem gX8_comes_X8_isBride : GoodIn wsX8_comes (wsV RX8 130 RX8 yX8_isBride wsX8_isBride) := goodIn_app (goodIn_of _ (by decide +kernel)) ggX8_comes_X8_isBride
set_option maxRecDepth 20000 in
theorem ggX8_comes_X8_isGroom : GoodIn wsX8_comes wsX8_isGroom := goodIn_r _ [30, 19, 96, 97, 98, 99, 100, 101, 102, 103, 104, 105, 106, 107, 108, 109, 110, 111, 112, 113, 114, 115, 116, 117, 118, 119, 120, 121, 122, 123, 124] (by decide +kernel) (by decide +kernel)
set_option maxRecDepth 20000 in
theorem gX8_comes_X8_isGroom : GoodIn wsX8_comes (wsV RX8 133 RX8 yX8_isGroom wsX8_isGroom) := goodIn_app (goodIn_of _ (by decide +kernel)) ggX8_comes_X8_isGroom
set_option maxRecDepth 20000 in
theorem ggX8_comes_X8_canWed : GoodIn wsX8_comes wsX8_canWed := goodIn_r _ [34, 22, 35, 36, 37, 8, 38, 10, 13, 96, 97, 98, 99, 100, 101, 102, 103, 104, 105, 106, 107, 108, 109, 110, 111, 112, 113, 114, 115, 116, 117, 118, 119, 120, 121, 122, 123, 124] (by decide +kernel) (by decide +kernel)
set_option maxRecDepth 20000 in
theorem gX8_comes_X8_canWed : GoodIn wsX8_comes (wsV RX8 136 RX8 yX8_canWed wsX8_canWed) := goodIn_app (goodIn_of _ (by decide +kernel)) ggX8_comes_X8_canWed
set_option maxRecDepth 20000 in
theorem ggX8_comes_X8_weds : GoodIn wsX8_comes wsX8_weds := goodIn_r _ [42, 4, 13, 22, 43, 44, 45, 8, 46, 47, 48, 49, 50, 20, 21, 51, 52, 53, 54, 10, 55, 56, 57, 58, 3, 12, 59, 11, 60, 61, 62, 63, 64, 65, 66, 67, 68, 69, 70, 71, 72, 73, 74, 75, 76, 14, 77, 78, 79, 80, 35, 36, 37, 38, 96, 97, 98, 99, 100, 101, 102, 103, 104, 105, 106, 107, 108, 109, 110, 111, 112, 113, 114, 115, 116, 117, 118, 119, 120, 121, 122, 123, 124] (by decide +kernel) (by decide +kernel)
set_option maxRecDepth 20000 in
theorem gX8_comes_X8_weds : GoodIn wsX8_comes (wsV RX8 139 RX8 yX8_weds wsX8_weds) := goodIn_app (goodIn_of _ (by decide +kernel)) ggX8_comes_X8_weds
set_option maxRecDepth 20000 in
theorem ggX8_comes_X8_comesYears : GoodIn wsX8_comes wsX8_comesYears := goodIn_r _ [84, 59, 85, 86, 8, 87, 88, 89, 90, 91, 92, 93, 94, 95, 10, 13, 14, 19, 4, 96, 97, 98, 99, 100, 101, 102, 103, 104, 105, 106, 107, 108, 109, 110, 111, 112, 113, 114, 115, 116, 117, 118, 119, 120, 121, 122, 123, 124] (by decide +kernel) (by decide +kernel)
set_option maxRecDepth 20000 in
theorem gX8_comes_X8_comesYears : GoodIn wsX8_comes (wsV RX8 142 RX8 yX8_comesYears wsX8_comesYears) := goodIn_app (goodIn_of _ (by decide +kernel)) ggX8_comes_X8_comesYears
theorem dX8_comes_0 : decode cX8_comes 0 = .ok (.iconst 3, 1) := by decide +kernel
theorem dX8_comes_1 : decode cX8_comes 1 = .ok (.iload_n 1, 1) := by decide +kernel
theorem dX8_comes_2 : decode cX8_comes 2 = .ok (.imul, 1) := by decide +kernel
theorem dX8_comes_3 : decode cX8_comes 3 = .ok (.istore_n 2, 1) := by decide +kernel
theorem dX8_comes_4 : decode cX8_comes 4 = .ok (.aload_n 0, 1) := by decide +kernel
theorem dX8_comes_5 : decode cX8_comes 5 = .ok (.getfield 43, 3) := by decide +kernel
theorem dX8_comes_8 : decode cX8_comes 8 = .ok (.iload_n 1, 1) := by decide +kernel
theorem dX8_comes_9 : decode cX8_comes 9 = .ok (.iaload, 1) := by decide +kernel
theorem dX8_comes_10 : decode cX8_comes 10 = .ok (.lookupswitch 227 #[(98, 50), (103, 77), (108, 150), (116, 96), (119, 186)], 50) := by decide +kernel
theorem dX8_comes_60 : decode cX8_comes 60 = .ok (.aload_n 0, 1) := by decide +kernel
theorem dX8_comes_61 : decode cX8_comes 61 = .ok (.aload_n 0, 1) := by decide +kernel
theorem dX8_comes_62 : decode cX8_comes 62 = .ok (.getfield 49, 3) := by decide +kernel
theorem dX8_comes_65 : decode cX8_comes 65 = .ok (.iload_n 2, 1) := by decide +kernel
theorem dX8_comes_66 : decode cX8_comes 66 = .ok (.iaload, 1) := by decide +kernel
theorem dX8_comes_67 : decode cX8_comes 67 = .ok (.aload_n 0, 1) := by decide +kernel
theorem dX8_comes_68 : decode cX8_comes 68 = .ok (.getfield 49, 3) := by decide +kernel
theorem dX8_comes_71 : decode cX8_comes 71 = .ok (.iload_n 2, 1) := by decide +kernel
theorem dX8_comes_72 : decode cX8_comes 72 = .ok (.iconst 1, 1) := by decide +kernel
theorem dX8_comes_73 : decode cX8_comes 73 = .ok (.iadd, 1) := by decide +kernel
theorem dX8_comes_74 : decode cX8_comes 74 = .ok (.iaload, 1) := by decide +kernel
theorem dX8_comes_75 : decode cX8_comes 75 = .ok (.aload_n 0, 1) := by decide +kernel
theorem dX8_comes_76 : decode cX8_comes 76 = .ok (.getfield 49, 3) := by decide +kernel
theorem dX8_comes_79 : decode cX8_comes 79 = .ok (.iload_n 2, 1) := by decide +kernel
theorem dX8_comes_80 : decode cX8_comes 80 = .ok (.iconst 2, 1) := by decide +kernel
theorem dX8_comes_81 : decode cX8_comes 81 = .ok (.iadd, 1) := by decide +kernel
theorem dX8_comes_82 : decode cX8_comes 82 = .ok (.iaload, 1) := by decide +kernel
theorem dX8_comes_83 : decode cX8_comes 83 = .ok (.invokevirtual 124, 3) := by decide +kernel
theorem dX8_comes_86 : decode cX8_comes 86 = .ok (.ireturn, 1) := by decide +kernel
theorem dX8_comes_87 : decode cX8_comes 87 = .ok (.aload_n 0, 1) := by decide +kernel
theorem dX8_comes_88 : decode cX8_comes 88 = .ok (.aload_n 0, 1) := by decide +kernel
theorem dX8_comes_89 : decode cX8_comes 89 = .ok (.getfield 49, 3) := by decide +kernel
theorem dX8_comes_92 : decode cX8_comes 92 = .ok (.iload_n 2, 1) := by decide +kernel
theorem dX8_comes_93 : decode cX8_comes 93 = .ok (.iaload, 1) := by decide +kernel
theorem dX8_comes_94 : decode cX8_comes 94 = .ok (.aload_n 0, 1) := by decide +kernel
theorem dX8_comes_95 : decode cX8_comes 95 = .ok (.getfield 49, 3) := by decide +kernel
theorem dX8_comes_98 : decode cX8_comes 98 = .ok (.iload_n 2, 1) := by decide +kernel
theorem dX8_comes_99 : decode cX8_comes 99 = .ok (.iconst 1, 1) := by decide +kernel
theorem dX8_comes_100 : decode cX8_comes 100 = .ok (.iadd, 1) := by decide +kernel
theorem dX8_comes_101 : decode cX8_comes 101 = .ok (.iaload, 1) := by decide +kernel
theorem dX8_comes_102 : decode cX8_comes 102 = .ok (.invokevirtual 127, 3) := by decide +kernel
theorem dX8_comes_105 : decode cX8_comes 105 = .ok (.ireturn, 1) := by decide +kernel
theorem dX8_comes_106 : decode cX8_comes 106 = .ok (.aload_n 0, 1) := by decide +kernel
theorem dX8_comes_107 : decode cX8_comes 107 = .ok (.aload_n 0, 1) := by decide +kernel
theorem dX8_comes_108 : decode cX8_comes 108 = .ok (.getfield 49, 3) := by decide +kernel
theorem dX8_comes_111 : decode cX8_comes 111 = .ok (.iload_n 2, 1) := by decide +kernel
theorem dX8_comes_112 : decode cX8_comes 112 = .ok (.iaload, 1) := by decide +kernel
theorem dX8_comes_113 : decode cX8_comes 113 = .ok (.invokevirtual 130, 3) := by decide +kernel
theorem dX8_comes_116 : decode cX8_comes 116 = .ok (.ifCond .eq 16, 3) := by decide +kernel
theorem dX8_comes_119 : decode cX8_comes 119 = .ok (.aload_n 0, 1) := by decide +kernel
theorem dX8_comes_120 : decode cX8_comes 120 = .ok (.getfield 49, 3) := by decide +kernel
theorem dX8_comes_123 : decode cX8_comes 123 = .ok (.iload_n 2, 1) := by decide +kernel
theorem dX8_comes_124 : decode cX8_comes 124 = .ok (.iconst 1, 1) := by decide +kernel
theorem dX8_comes_125 : decode cX8_comes 125 = .ok (.iadd, 1) := by decide +kernel
theorem dX8_comes_126 : decode cX8_comes 126 = .ok (.iaload, 1) := by decide +kernel
theorem dX8_comes_127 : decode cX8_comes 127 = .ok (.bipush 6, 2) := by decide +kernel
theorem dX8_comes_129 : decode cX8_comes 129 = .ok (.if_icmp .lt 5, 3) := by decide +kernel
theorem dX8_comes_132 : decode cX8_comes 132 = .ok (.iconst 0, 1) := by decide +kernel
theorem dX8_comes_133 : decode cX8_comes 133 = .ok (.ireturn, 1) := by decide +kernel
theorem dX8_comes_134 : decode cX8_comes 134 = .ok (.aload_n 0, 1) := by decide +kernel
theorem dX8_comes_135 : decode cX8_comes 135 = .ok (.getfield 19, 3) := by decide +kernel
theorem dX8_comes_138 : decode cX8_comes 138 = .ok (.aload_n 0, 1) := by decide +kernel
theorem dX8_comes_139 : decode cX8_comes 139 = .ok (.getfield 49, 3) := by decide +kernel
theorem dX8_comes_142 : decode cX8_comes 142 = .ok (.iload_n 2, 1) := by decide +kernel
theorem dX8_comes_143 : decode cX8_comes 143 = .ok (.iaload, 1) := by decide +kernel
theorem dX8_comes_144 : decode cX8_comes 144 = .ok (.dup2, 1) := by decide +kernel
theorem dX8_comes_145 : decode cX8_comes 145 = .ok (.iaload, 1) := by decide +kernel
theorem dX8_comes_146 : decode cX8_comes 146 = .ok (.iconst 1, 1) := by decide +kernel
theorem dX8_comes_147 : decode cX8_comes 147 = .ok (.aload_n 0, 1) := by decide +kernel
theorem dX8_comes_148 : decode cX8_comes 148 = .ok (.getfield 49, 3) := by decide +kernel
theorem dX8_comes_151 : decode cX8_comes 151 = .ok (.iload_n 2, 1) := by decide +kernel
theorem dX8_comes_152 : decode cX8_comes 152 = .ok (.iconst 1, 1) := by decide +kernel
theorem dX8_comes_153 : decode cX8_comes 153 = .ok (.iadd, 1) := by decide +kernel
theorem dX8_comes_154 : decode cX8_comes 154 = .ok (.iaload, 1) := by decide +kernel
theorem dX8_comes_155 : decode cX8_comes 155 = .ok (.ishl, 1) := by decide +kernel
theorem dX8_comes_156 : decode cX8_comes 156 = .ok (.ixor, 1) := by decide +kernel
theorem dX8_comes_157 : decode cX8_comes 157 = .ok (.iastore, 1) := by decide +kernel
theorem dX8_comes_158 : decode cX8_comes 158 = .ok (.iconst 1, 1) := by decide +kernel
theorem dX8_comes_159 : decode cX8_comes 159 = .ok (.ireturn, 1) := by decide +kernel
theorem dX8_comes_160 : decode cX8_comes 160 = .ok (.aload_n 0, 1) := by decide +kernel
theorem dX8_comes_161 : decode cX8_comes 161 = .ok (.aload_n 0, 1) := by decide +kernel
theorem dX8_comes_162 : decode cX8_comes 162 = .ok (.getfield 49, 3) := by decide +kernel
theorem dX8_comes_165 : decode cX8_comes 165 = .ok (.iload_n 2, 1) := by decide +kernel
theorem dX8_comes_166 : decode cX8_comes 166 = .ok (.iaload, 1) := by decide +kernel
theorem dX8_comes_167 : decode cX8_comes 167 = .ok (.invokevirtual 133, 3) := by decide +kernel
theorem dX8_comes_170 : decode cX8_comes 170 = .ok (.ifCond .ne 5, 3) := by decide +kernel
theorem dX8_comes_173 : decode cX8_comes 173 = .ok (.iconst 0, 1) := by decide +kernel
theorem dX8_comes_174 : decode cX8_comes 174 = .ok (.ireturn, 1) := by decide +kernel
theorem dX8_comes_175 : decode cX8_comes 175 = .ok (.aload_n 0, 1) := by decide +kernel
theorem dX8_comes_176 : decode cX8_comes 176 = .ok (.getfield 34, 3) := by decide +kernel
theorem dX8_comes_179 : decode cX8_comes 179 = .ok (.aload_n 0, 1) := by decide +kernel
theorem dX8_comes_180 : decode cX8_comes 180 = .ok (.getfield 49, 3) := by decide +kernel
theorem dX8_comes_183 : decode cX8_comes 183 = .ok (.iload_n 2, 1) := by decide +kernel
theorem dX8_comes_184 : decode cX8_comes 184 = .ok (.iaload, 1) := by decide +kernel
theorem dX8_comes_185 : decode cX8_comes 185 = .ok (.aload_n 0, 1) := by decide +kernel
theorem dX8_comes_186 : decode cX8_comes 186 = .ok (.getfield 49, 3) := by decide +kernel
theorem dX8_comes_189 : decode cX8_comes 189 = .ok (.iload_n 2, 1) := by decide +kernel
theorem dX8_comes_190 : decode cX8_comes 190 = .ok (.iconst 1, 1) := by decide +kernel
theorem dX8_comes_191 : decode cX8_comes 191 = .ok (.iadd, 1) := by decide +kernel
theorem dX8_comes_192 : decode cX8_comes 192 = .ok (.iaload, 1) := by decide +kernel
theorem dX8_comes_193 : decode cX8_comes 193 = .ok (.iastore, 1) := by decide +kernel
theorem dX8_comes_194 : decode cX8_comes 194 = .ok (.iconst 1, 1) := by decide +kernel
theorem dX8_comes_195 : decode cX8_comes 195 = .ok (.ireturn, 1) := by decide +kernel
theorem dX8_comes_196 : decode cX8_comes 196 = .ok (.aload_n 0, 1) := by decide +kernel
theorem dX8_comes_197 : decode cX8_comes 197 = .ok (.aload_n 0, 1) := by decide +kernel
theorem dX8_comes_198 : decode cX8_comes 198 = .ok (.getfield 49, 3) := by decide +kernel
theorem dX8_comes_201 : decode cX8_comes 201 = .ok (.iload_n 2, 1) := by decide +kernel
theorem dX8_comes_202 : decode cX8_comes 202 = .ok (.iaload, 1) := by decide +kernel
theorem dX8_comes_203 : decode cX8_comes 203 = .ok (.invokevirtual 133, 3) := by decide +kernel
theorem dX8_comes_206 : decode cX8_comes 206 = .ok (.ifCond .eq 16, 3) := by decide +kernel
theorem dX8_comes_209 : decode cX8_comes 209 = .ok (.aload_n 0, 1) := by decide +kernel
theorem dX8_comes_210 : decode cX8_comes 210 = .ok (.aload_n 0, 1) := by decide +kernel
theorem dX8_comes_211 : decode cX8_comes 211 = .ok (.getfield 49, 3) := by decide +kernel
theorem dX8_comes_214 : decode cX8_comes 214 = .ok (.iload_n 2, 1) := by decide +kernel
theorem dX8_comes_215 : decode cX8_comes 215 = .ok (.iaload, 1) := by decide +kernel
theorem dX8_comes_216 : decode cX8_comes 216 = .ok (.invokevirtual 136, 3) := by decide +kernel
theorem dX8_comes_219 : decode cX8_comes 219 = .ok (.ifCond .ne 5, 3) := by decide +kernel
theorem dX8_comes_222 : decode cX8_comes 222 = .ok (.iconst 0, 1) := by decide +kernel
theorem dX8_comes_223 : decode cX8_comes 223 = .ok (.ireturn, 1) := by decide +kernel
theorem dX8_comes_224 : decode cX8_comes 224 = .ok (.aload_n 0, 1) := by decide +kernel
theorem dX8_comes_225 : decode cX8_comes 225 = .ok (.aload_n 0, 1) := by decide +kernel
theorem dX8_comes_226 : decode cX8_comes 226 = .ok (.getfield 49, 3) := by decide +kernel
theorem dX8_comes_229 : decode cX8_comes 229 = .ok (.iload_n 2, 1) := by decide +kernel
theorem dX8_comes_230 : decode cX8_comes 230 = .ok (.iaload, 1) := by decide +kernel
theorem dX8_comes_231 : decode cX8_comes 231 = .ok (.invokevirtual 139, 3) := by decide +kernel
theorem dX8_comes_234 : decode cX8_comes 234 = .ok (.pop, 1) := by decide +kernel
theorem dX8_comes_235 : decode cX8_comes 235 = .ok (.iconst 1, 1) := by decide +kernel
theorem dX8_comes_236 : decode cX8_comes 236 = .ok (.ireturn, 1) := by decide +kernel
theorem dX8_comes_237 : decode cX8_comes 237 = .ok (.aload_n 0, 1) := by decide +kernel
theorem dX8_comes_238 : decode cX8_comes 238 = .ok (.aload_n 0, 1) := by decide +kernel
theorem dX8_comes_239 : decode cX8_comes 239 = .ok (.getfield 49, 3) := by decide +kernel
theorem dX8_comes_242 : decode cX8_comes 242 = .ok (.iload_n 2, 1) := by decide +kernel
theorem dX8_comes_243 : decode cX8_comes 243 = .ok (.iaload, 1) := by decide +kernel
theorem dX8_comes_244 : decode cX8_comes 244 = .ok (.invokevirtual 142, 3) := by decide +kernel
theorem dX8_comes_247 : decode cX8_comes 247 = .ok (.ireturn, 1) := by decide +kernel
set_option maxRecDepth 20000 in
theorem ggX8_valley_X8_statement : GoodIn wsX8_valley wsX8_statement := goodIn_r _ [9, 10, 2, 4, 1, 11, 12, 13, 8, 14, 3, 15, 16, 17, 18, 19, 20, 21, 22, 23, 24, 25, 26, 27, 28, 29, 30, 31, 32, 33, 34, 143, 144, 145, 146, 147, 148, 149, 150, 151, 152, 153, 154, 155, 156, 157, 158, 159, 160, 161, 162, 163, 164, 165, 166, 167, 168, 169, 170, 171] (by decide +kernel) (by decide +kernel)
set_option maxRecDepth 20000 in
theorem gX8_valley_X8_statement : GoodIn wsX8_valley (wsV RX8 145 RX8 yX8_statement wsX8_statement) := goodIn_app (goodIn_of _ (by decide +kernel)) ggX8_valley_X8_statement
set_option maxRecDepth 20000 in
theorem ggX8_valley_X8_passesAll : GoodIn wsX8_valley wsX8_passesAll := goodIn_r _ [38, 39, 40, 41, 42, 43, 44, 45, 46, 47, 48, 49, 50, 51, 52, 53, 54, 55, 8, 56, 57, 58, 59, 60, 61, 143, 144, 145, 146, 147, 148, 149, 150, 151, 152, 153, 154, 155, 156, 157, 158, 159, 160, 161, 162, 163, 164, 165, 166, 167, 168, 169, 170, 171] (by decide +kernel) (by decide +kernel)
set_option maxRecDepth 20000 in
theorem gX8_valley_X8_passesAll : GoodIn wsX8_valley (wsV RX8 149 RX8 yX8_passesAll wsX8_passesAll) := goodIn_app (goodIn_of _ (by decide +kernel)) ggX8_valley_X8_passesAll
set_option maxRecDepth 20000 in
theorem ggX8_valley_X8_comes : GoodIn wsX8_valley wsX8_comes := goodIn_r _ [65, 10, 24, 43, 48, 66, 67, 68, 8, 69, 50, 41, 42, 44, 45, 70, 71, 72, 73, 51, 46, 47, 49, 74, 75, 76, 77, 78, 79, 80, 81, 82, 83, 84, 85, 86, 87, 88, 89, 90, 91, 92, 93, 94, 95, 96, 97, 98, 99, 100, 101, 102, 103, 104, 105, 106, 107, 108, 109, 52, 110, 111, 112, 113, 114, 115, 116, 117, 118, 119, 120, 121, 122, 123, 124, 125, 126, 127, 128, 129, 130, 131, 132, 133, 134, 32, 33, 34, 135, 136, 137, 138, 139, 140, 141, 142, 143, 144, 145, 146, 147, 148, 149, 150, 151, 152, 153, 154, 155, 156, 157, 158, 159, 160, 161, 162, 163, 164, 165, 166, 167, 168, 169, 170, 171] (by decide +kernel) (by decide +kernel)
set_option maxRecDepth 20000 in
theorem gX8_valley_X8_comes : GoodIn wsX8_valley (wsV RX8 153 RX8 yX8_comes wsX8_comes) := goodIn_app (goodIn_of _ (by decide +kernel)) ggX8_valley_X8_comes
theorem dX8_valley_0 : decode cX8_valley 0 = .ok (.aload_n 0, 1) := by decide +kernel
theorem dX8_valley_1 : decode cX8_valley 1 = .ok (.iconst 0, 1) := by decide +kernel
theorem dX8_valley_2 : decode cX8_valley 2 = .ok (.putfield 90, 3) := by decide +kernel
theorem dX8_valley_5 : decode cX8_valley 5 = .ok (.aload_n 0, 1) := by decide +kernel
theorem dX8_valley_6 : decode cX8_valley 6 = .ok (.iconst 0, 1) := by decide +kernel
theorem dX8_valley_7 : decode cX8_valley 7 = .ok (.putfield 111, 3) := by decide +kernel
theorem dX8_valley_10 : decode cX8_valley 10 = .ok (.iconst 1, 1) := by decide +kernel
theorem dX8_valley_11 : decode cX8_valley 11 = .ok (.istore_n 1, 1) := by decide +kernel
theorem dX8_valley_12 : decode cX8_valley 12 = .ok (.iload_n 1, 1) := by decide +kernel
theorem dX8_valley_13 : decode cX8_valley 13 = .ok (.ifCond .eq 47, 3) := by decide +kernel
theorem dX8_valley_16 : decode cX8_valley 16 = .ok (.aload_n 0, 1) := by decide +kernel
theorem dX8_valley_17 : decode cX8_valley 17 = .ok (.getfield 90, 3) := by decide +kernel
theorem dX8_valley_20 : decode cX8_valley 20 = .ok (.aload_n 0, 1) := by decide +kernel
theorem dX8_valley_21 : decode cX8_valley 21 = .ok (.getfield 83, 3) := by decide +kernel
theorem dX8_valley_24 : decode cX8_valley 24 = .ok (.if_icmp .lt 10, 3) := by decide +kernel
theorem dX8_valley_27 : decode cX8_valley 27 = .ok (.aload_n 0, 1) := by decide +kernel
theorem dX8_valley_28 : decode cX8_valley 28 = .ok (.getfield 111, 3) := by decide +kernel
theorem dX8_valley_31 : decode cX8_valley 31 = .ok (.ifCond .ne 29, 3) := by decide +kernel
theorem dX8_valley_34 : decode cX8_valley 34 = .ok (.aload_n 0, 1) := by decide +kernel
theorem dX8_valley_35 : decode cX8_valley 35 = .ok (.invokevirtual 145, 3) := by decide +kernel
theorem dX8_valley_38 : decode cX8_valley 38 = .ok (.istore_n 1, 1) := by decide +kernel
theorem dX8_valley_39 : decode cX8_valley 39 = .ok (.aload_n 0, 1) := by decide +kernel
theorem dX8_valley_40 : decode cX8_valley 40 = .ok (.dup, 1) := by decide +kernel
theorem dX8_valley_41 : decode cX8_valley 41 = .ok (.getfield 111, 3) := by decide +kernel
theorem dX8_valley_44 : decode cX8_valley 44 = .ok (.iload_n 1, 1) := by decide +kernel
theorem dX8_valley_45 : decode cX8_valley 45 = .ok (.ifCond .eq 7, 3) := by decide +kernel
theorem dX8_valley_48 : decode cX8_valley 48 = .ok (.iconst 1, 1) := by decide +kernel
theorem dX8_valley_49 : decode cX8_valley 49 = .ok (.goto 4, 3) := by decide +kernel
theorem dX8_valley_52 : decode cX8_valley 52 = .ok (.iconst 0, 1) := by decide +kernel
theorem dX8_valley_53 : decode cX8_valley 53 = .ok (.iadd, 1) := by decide +kernel
theorem dX8_valley_54 : decode cX8_valley 54 = .ok (.putfield 111, 3) := by decide +kernel
theorem dX8_valley_57 : decode cX8_valley 57 = .ok (.goto (-45), 3) := by decide +kernel
theorem dX8_valley_60 : decode cX8_valley 60 = .ok (.aload_n 0, 1) := by decide +kernel
theorem dX8_valley_61 : decode cX8_valley 61 = .ok (.iconst 0, 1) := by decide +kernel
theorem dX8_valley_62 : decode cX8_valley 62 = .ok (.putfield 83, 3) := by decide +kernel
theorem dX8_valley_65 : decode cX8_valley 65 = .ok (.iload_n 1, 1) := by decide +kernel
theorem dX8_valley_66 : decode cX8_valley 66 = .ok (.ifCond .ne 12, 3) := by decide +kernel
theorem dX8_valley_69 : decode cX8_valley 69 = .ok (.sipush (-1000), 3) := by decide +kernel
theorem dX8_valley_72 : decode cX8_valley 72 = .ok (.aload_n 0, 1) := by decide +kernel
theorem dX8_valley_73 : decode cX8_valley 73 = .ok (.getfield 90, 3) := by decide +kernel
theorem dX8_valley_76 : decode cX8_valley 76 = .ok (.isub, 1) := by decide +kernel
theorem dX8_valley_77 : decode cX8_valley 77 = .ok (.ireturn, 1) := by decide +kernel
theorem dX8_valley_78 : decode cX8_valley 78 = .ok (.aload_n 0, 1) := by decide +kernel
theorem dX8_valley_79 : decode cX8_valley 79 = .ok (.iconst 1, 1) := by decide +kernel
theorem dX8_valley_80 : decode cX8_valley 80 = .ok (.iconst 1, 1) := by decide +kernel
theorem dX8_valley_81 : decode cX8_valley 81 = .ok (.invokevirtual 149, 3) := by decide +kernel
theorem dX8_valley_84 : decode cX8_valley 84 = .ok (.iconst 0, 1) := by decide +kernel
theorem dX8_valley_85 : decode cX8_valley 85 = .ok (.istore_n 2, 1) := by decide +kernel
theorem dX8_valley_86 : decode cX8_valley 86 = .ok (.iload_n 2, 1) := by decide +kernel
theorem dX8_valley_87 : decode cX8_valley 87 = .ok (.aload_n 0, 1) := by decide +kernel
theorem dX8_valley_88 : decode cX8_valley 88 = .ok (.getfield 111, 3) := by decide +kernel
theorem dX8_valley_91 : decode cX8_valley 91 = .ok (.if_icmp .ge 37, 3) := by decide +kernel
theorem dX8_valley_94 : decode cX8_valley 94 = .ok (.aload_n 0, 1) := by decide +kernel
theorem dX8_valley_95 : decode cX8_valley 95 = .ok (.iload_n 2, 1) := by decide +kernel
theorem dX8_valley_96 : decode cX8_valley 96 = .ok (.invokevirtual 153, 3) := by decide +kernel
theorem dX8_valley_99 : decode cX8_valley 99 = .ok (.ifCond .eq 6, 3) := by decide +kernel
theorem dX8_valley_102 : decode cX8_valley 102 = .ok (.goto 20, 3) := by decide +kernel
theorem dX8_valley_105 : decode cX8_valley 105 = .ok (.aload_n 0, 1) := by decide +kernel
theorem dX8_valley_106 : decode cX8_valley 106 = .ok (.iconst 1, 1) := by decide +kernel
theorem dX8_valley_107 : decode cX8_valley 107 = .ok (.iconst 0, 1) := by decide +kernel
theorem dX8_valley_108 : decode cX8_valley 108 = .ok (.invokevirtual 149, 3) := by decide +kernel
theorem dX8_valley_111 : decode cX8_valley 111 = .ok (.sipush (-2000), 3) := by decide +kernel
theorem dX8_valley_114 : decode cX8_valley 114 = .ok (.aload_n 0, 1) := by decide +kernel
theorem dX8_valley_115 : decode cX8_valley 115 = .ok (.getfield 46, 3) := by decide +kernel
theorem dX8_valley_118 : decode cX8_valley 118 = .ok (.iload_n 2, 1) := by decide +kernel
theorem dX8_valley_119 : decode cX8_valley 119 = .ok (.iaload, 1) := by decide +kernel
theorem dX8_valley_120 : decode cX8_valley 120 = .ok (.isub, 1) := by decide +kernel
theorem dX8_valley_121 : decode cX8_valley 121 = .ok (.ireturn, 1) := by decide +kernel
theorem dX8_valley_122 : decode cX8_valley 122 = .ok (.iinc 2 1, 3) := by decide +kernel
theorem dX8_valley_125 : decode cX8_valley 125 = .ok (.goto (-39), 3) := by decide +kernel
theorem dX8_valley_128 : decode cX8_valley 128 = .ok (.aload_n 0, 1) := by decide +kernel
theorem dX8_valley_129 : decode cX8_valley 129 = .ok (.getfield 111, 3) := by decide +kernel
theorem dX8_valley_132 : decode cX8_valley 132 = .ok (.ireturn, 1) := by decide +kernel
theorem dX8_passes_0 : decode cX8_passes 0 = .ok (.iconst 0, 1) := by decide +kernel
theorem dX8_passes_1 : decode cX8_passes 1 = .ok (.istore_n 2, 1) := by decide +kernel
theorem dX8_passes_2 : decode cX8_passes 2 = .ok (.iload_n 2, 1) := by decide +kernel
theorem dX8_passes_3 : decode cX8_passes 3 = .ok (.aload_n 1, 1) := by decide +kernel
theorem dX8_passes_4 : decode cX8_passes 4 = .ok (.arraylength, 1) := by decide +kernel
theorem dX8_passes_5 : decode cX8_passes 5 = .ok (.if_icmp .ge 53, 3) := by decide +kernel
theorem dX8_passes_8 : decode cX8_passes 8 = .ok (.aload_n 0, 1) := by decide +kernel
theorem dX8_passes_9 : decode cX8_passes 9 = .ok (.getfield 156, 3) := by decide +kernel
theorem dX8_passes_12 : decode cX8_passes 12 = .ok (.ifCond .eq 18, 3) := by decide +kernel
theorem dX8_passes_15 : decode cX8_passes 15 = .ok (.aload_n 0, 1) := by decide +kernel
theorem dX8_passes_16 : decode cX8_passes 16 = .ok (.getfield 52, 3) := by decide +kernel
theorem dX8_passes_19 : decode cX8_passes 19 = .ok (.aload_n 0, 1) := by decide +kernel
theorem dX8_passes_20 : decode cX8_passes 20 = .ok (.getfield 160, 3) := by decide +kernel
theorem dX8_passes_23 : decode cX8_passes 23 = .ok (.aload_n 1, 1) := by decide +kernel
theorem dX8_passes_24 : decode cX8_passes 24 = .ok (.iload_n 2, 1) := by decide +kernel
theorem dX8_passes_25 : decode cX8_passes 25 = .ok (.iaload, 1) := by decide +kernel
theorem dX8_passes_26 : decode cX8_passes 26 = .ok (.iastore, 1) := by decide +kernel
theorem dX8_passes_27 : decode cX8_passes 27 = .ok (.goto 15, 3) := by decide +kernel
theorem dX8_passes_30 : decode cX8_passes 30 = .ok (.aload_n 1, 1) := by decide +kernel
theorem dX8_passes_31 : decode cX8_passes 31 = .ok (.iload_n 2, 1) := by decide +kernel
theorem dX8_passes_32 : decode cX8_passes 32 = .ok (.aload_n 0, 1) := by decide +kernel
theorem dX8_passes_33 : decode cX8_passes 33 = .ok (.getfield 52, 3) := by decide +kernel
theorem dX8_passes_36 : decode cX8_passes 36 = .ok (.aload_n 0, 1) := by decide +kernel
theorem dX8_passes_37 : decode cX8_passes 37 = .ok (.getfield 160, 3) := by decide +kernel
theorem dX8_passes_40 : decode cX8_passes 40 = .ok (.iaload, 1) := by decide +kernel
theorem dX8_passes_41 : decode cX8_passes 41 = .ok (.iastore, 1) := by decide +kernel
theorem dX8_passes_42 : decode cX8_passes 42 = .ok (.aload_n 0, 1) := by decide +kernel
theorem dX8_passes_43 : decode cX8_passes 43 = .ok (.dup, 1) := by decide +kernel
theorem dX8_passes_44 : decode cX8_passes 44 = .ok (.getfield 160, 3) := by decide +kernel
theorem dX8_passes_47 : decode cX8_passes 47 = .ok (.iconst 1, 1) := by decide +kernel
theorem dX8_passes_48 : decode cX8_passes 48 = .ok (.iadd, 1) := by decide +kernel
theorem dX8_passes_49 : decode cX8_passes 49 = .ok (.putfield 160, 3) := by decide +kernel
theorem dX8_passes_52 : decode cX8_passes 52 = .ok (.iinc 2 1, 3) := by decide +kernel
theorem dX8_passes_55 : decode cX8_passes 55 = .ok (.goto (-53), 3) := by decide +kernel
theorem dX8_passes_58 : decode cX8_passes 58 = .ok (.return_, 1) := by decide +kernel
theorem dX8_passOne_0 : decode cX8_passOne 0 = .ok (.aload_n 0, 1) := by decide +kernel
theorem dX8_passOne_1 : decode cX8_passOne 1 = .ok (.getfield 156, 3) := by decide +kernel
theorem dX8_passOne_4 : decode cX8_passOne 4 = .ok (.ifCond .eq 7, 3) := by decide +kernel
theorem dX8_passOne_7 : decode cX8_passOne 7 = .ok (.iload_n 1, 1) := by decide +kernel
theorem dX8_passOne_8 : decode cX8_passOne 8 = .ok (.goto 12, 3) := by decide +kernel
theorem dX8_passOne_11 : decode cX8_passOne 11 = .ok (.aload_n 0, 1) := by decide +kernel
theorem dX8_passOne_12 : decode cX8_passOne 12 = .ok (.getfield 52, 3) := by decide +kernel
theorem dX8_passOne_15 : decode cX8_passOne 15 = .ok (.aload_n 0, 1) := by decide +kernel
theorem dX8_passOne_16 : decode cX8_passOne 16 = .ok (.getfield 160, 3) := by decide +kernel
theorem dX8_passOne_19 : decode cX8_passOne 19 = .ok (.iaload, 1) := by decide +kernel
theorem dX8_passOne_20 : decode cX8_passOne 20 = .ok (.istore_n 2, 1) := by decide +kernel
theorem dX8_passOne_21 : decode cX8_passOne 21 = .ok (.aload_n 0, 1) := by decide +kernel
theorem dX8_passOne_22 : decode cX8_passOne 22 = .ok (.getfield 156, 3) := by decide +kernel
theorem dX8_passOne_25 : decode cX8_passOne 25 = .ok (.ifCond .eq 13, 3) := by decide +kernel
theorem dX8_passOne_28 : decode cX8_passOne 28 = .ok (.aload_n 0, 1) := by decide +kernel
theorem dX8_passOne_29 : decode cX8_passOne 29 = .ok (.getfield 52, 3) := by decide +kernel
theorem dX8_passOne_32 : decode cX8_passOne 32 = .ok (.aload_n 0, 1) := by decide +kernel
theorem dX8_passOne_33 : decode cX8_passOne 33 = .ok (.getfield 160, 3) := by decide +kernel
theorem dX8_passOne_36 : decode cX8_passOne 36 = .ok (.iload_n 1, 1) := by decide +kernel
theorem dX8_passOne_37 : decode cX8_passOne 37 = .ok (.iastore, 1) := by decide +kernel
theorem dX8_passOne_38 : decode cX8_passOne 38 = .ok (.aload_n 0, 1) := by decide +kernel
theorem dX8_passOne_39 : decode cX8_passOne 39 = .ok (.dup, 1) := by decide +kernel
theorem dX8_passOne_40 : decode cX8_passOne 40 = .ok (.getfield 160, 3) := by decide +kernel
theorem dX8_passOne_43 : decode cX8_passOne 43 = .ok (.iconst 1, 1) := by decide +kernel
theorem dX8_passOne_44 : decode cX8_passOne 44 = .ok (.iadd, 1) := by decide +kernel
theorem dX8_passOne_45 : decode cX8_passOne 45 = .ok (.putfield 160, 3) := by decide +kernel
theorem dX8_passOne_48 : decode cX8_passOne 48 = .ok (.iload_n 2, 1) := by decide +kernel
theorem dX8_passOne_49 : decode cX8_passOne 49 = .ok (.ireturn, 1) := by decide +kernel
set_option maxRecDepth 20000 in
theorem ggX8_passesAll_X8_passes : GoodIn wsX8_passesAll wsX8_passes := goodIn_r _ [19, 2, 20, 1, 25, 26, 27, 28, 29, 30, 31, 32, 33, 34, 35, 36, 37, 38, 39, 40, 41, 42, 43, 44, 45, 46, 47, 48, 49, 50, 51, 52, 53] (by decide +kernel) (by decide +kernel)
set_option maxRecDepth 20000 in
theorem gX8_passesAll_X8_passes : GoodIn wsX8_passesAll (wsV RX8 163 RX8 yX8_passes wsX8_passes) := goodIn_app (goodIn_of _ (by decide +kernel)) ggX8_passesAll_X8_passes
set_option maxRecDepth 20000 in
theorem ggX8_passesAll_X8_passOne : GoodIn wsX8_passesAll wsX8_passOne := goodIn_r _ [24, 2, 20, 1, 25, 26, 27, 28, 29, 30, 31, 32, 33, 34, 35, 36, 37, 38, 39, 40, 41, 42, 43, 44, 45, 46, 47, 48, 49, 50, 51, 52, 53] (by decide +kernel) (by decide +kernel)
set_option maxRecDepth 20000 in
theorem gX8_passesAll_X8_passOne : GoodIn wsX8_passesAll (wsV RX8 167 RX8 yX8_passOne wsX8_passOne) := goodIn_app (goodIn_of _ (by decide +kernel)) ggX8_passesAll_X8_passOne
theorem dX8_passesAll_0 : decode cX8_passesAll 0 = .ok (.aload_n 0, 1) := by decide +kernel
theorem dX8_passesAll_1 : decode cX8_passesAll 1 = .ok (.bipush 63, 2) := by decide +kernel
theorem dX8_passesAll_3 : decode cX8_passesAll 3 = .ok (.iload_n 1, 1) := by decide +kernel
theorem dX8_passesAll_4 : decode cX8_passesAll 4 = .ok (.imul, 1) := by decide +kernel
theorem dX8_passesAll_5 : decode cX8_passesAll 5 = .ok (.putfield 160, 3) := by decide +kernel
theorem dX8_passesAll_8 : decode cX8_passesAll 8 = .ok (.aload_n 0, 1) := by decide +kernel
theorem dX8_passesAll_9 : decode cX8_passesAll 9 = .ok (.iload_n 2, 1) := by decide +kernel
theorem dX8_passesAll_10 : decode cX8_passesAll 10 = .ok (.putfield 156, 3) := by decide +kernel
theorem dX8_passesAll_13 : decode cX8_passesAll 13 = .ok (.aload_n 0, 1) := by decide +kernel
theorem dX8_passesAll_14 : decode cX8_passesAll 14 = .ok (.aload_n 0, 1) := by decide +kernel
theorem dX8_passesAll_15 : decode cX8_passesAll 15 = .ok (.getfield 13, 3) := by decide +kernel
theorem dX8_passesAll_18 : decode cX8_passesAll 18 = .ok (.invokevirtual 163, 3) := by decide +kernel
theorem dX8_passesAll_21 : decode cX8_passesAll 21 = .ok (.aload_n 0, 1) := by decide +kernel
theorem dX8_passesAll_22 : decode cX8_passesAll 22 = .ok (.aload_n 0, 1) := by decide +kernel
theorem dX8_passesAll_23 : decode cX8_passesAll 23 = .ok (.getfield 16, 3) := by decide +kernel
theorem dX8_passesAll_26 : decode cX8_passesAll 26 = .ok (.invokevirtual 163, 3) := by decide +kernel
theorem dX8_passesAll_29 : decode cX8_passesAll 29 = .ok (.aload_n 0, 1) := by decide +kernel
theorem dX8_passesAll_30 : decode cX8_passesAll 30 = .ok (.aload_n 0, 1) := by decide +kernel
theorem dX8_passesAll_31 : decode cX8_passesAll 31 = .ok (.getfield 19, 3) := by decide +kernel
theorem dX8_passesAll_34 : decode cX8_passesAll 34 = .ok (.invokevirtual 163, 3) := by decide +kernel
theorem dX8_passesAll_37 : decode cX8_passesAll 37 = .ok (.aload_n 0, 1) := by decide +kernel
theorem dX8_passesAll_38 : decode cX8_passesAll 38 = .ok (.aload_n 0, 1) := by decide +kernel
theorem dX8_passesAll_39 : decode cX8_passesAll 39 = .ok (.getfield 22, 3) := by decide +kernel
theorem dX8_passesAll_42 : decode cX8_passesAll 42 = .ok (.invokevirtual 163, 3) := by decide +kernel
theorem dX8_passesAll_45 : decode cX8_passesAll 45 = .ok (.aload_n 0, 1) := by decide +kernel
theorem dX8_passesAll_46 : decode cX8_passesAll 46 = .ok (.aload_n 0, 1) := by decide +kernel
theorem dX8_passesAll_47 : decode cX8_passesAll 47 = .ok (.getfield 25, 3) := by decide +kernel
theorem dX8_passesAll_50 : decode cX8_passesAll 50 = .ok (.invokevirtual 163, 3) := by decide +kernel
theorem dX8_passesAll_53 : decode cX8_passesAll 53 = .ok (.aload_n 0, 1) := by decide +kernel
theorem dX8_passesAll_54 : decode cX8_passesAll 54 = .ok (.aload_n 0, 1) := by decide +kernel
theorem dX8_passesAll_55 : decode cX8_passesAll 55 = .ok (.getfield 28, 3) := by decide +kernel
theorem dX8_passesAll_58 : decode cX8_passesAll 58 = .ok (.invokevirtual 163, 3) := by decide +kernel
theorem dX8_passesAll_61 : decode cX8_passesAll 61 = .ok (.aload_n 0, 1) := by decide +kernel
theorem dX8_passesAll_62 : decode cX8_passesAll 62 = .ok (.aload_n 0, 1) := by decide +kernel
theorem dX8_passesAll_63 : decode cX8_passesAll 63 = .ok (.getfield 31, 3) := by decide +kernel
theorem dX8_passesAll_66 : decode cX8_passesAll 66 = .ok (.invokevirtual 163, 3) := by decide +kernel
theorem dX8_passesAll_69 : decode cX8_passesAll 69 = .ok (.aload_n 0, 1) := by decide +kernel
theorem dX8_passesAll_70 : decode cX8_passesAll 70 = .ok (.aload_n 0, 1) := by decide +kernel
theorem dX8_passesAll_71 : decode cX8_passesAll 71 = .ok (.getfield 34, 3) := by decide +kernel
theorem dX8_passesAll_74 : decode cX8_passesAll 74 = .ok (.invokevirtual 163, 3) := by decide +kernel
theorem dX8_passesAll_77 : decode cX8_passesAll 77 = .ok (.aload_n 0, 1) := by decide +kernel
theorem dX8_passesAll_78 : decode cX8_passesAll 78 = .ok (.aload_n 0, 1) := by decide +kernel
theorem dX8_passesAll_79 : decode cX8_passesAll 79 = .ok (.getfield 37, 3) := by decide +kernel
theorem dX8_passesAll_82 : decode cX8_passesAll 82 = .ok (.invokevirtual 163, 3) := by decide +kernel
theorem dX8_passesAll_85 : decode cX8_passesAll 85 = .ok (.aload_n 0, 1) := by decide +kernel
theorem dX8_passesAll_86 : decode cX8_passesAll 86 = .ok (.aload_n 0, 1) := by decide +kernel
theorem dX8_passesAll_87 : decode cX8_passesAll 87 = .ok (.aload_n 0, 1) := by decide +kernel
theorem dX8_passesAll_88 : decode cX8_passesAll 88 = .ok (.getfield 66, 3) := by decide +kernel
theorem dX8_passesAll_91 : decode cX8_passesAll 91 = .ok (.invokevirtual 167, 3) := by decide +kernel
theorem dX8_passesAll_94 : decode cX8_passesAll 94 = .ok (.putfield 66, 3) := by decide +kernel
theorem dX8_passesAll_97 : decode cX8_passesAll 97 = .ok (.aload_n 0, 1) := by decide +kernel
theorem dX8_passesAll_98 : decode cX8_passesAll 98 = .ok (.aload_n 0, 1) := by decide +kernel
theorem dX8_passesAll_99 : decode cX8_passesAll 99 = .ok (.aload_n 0, 1) := by decide +kernel
theorem dX8_passesAll_100 : decode cX8_passesAll 100 = .ok (.getfield 76, 3) := by decide +kernel
theorem dX8_passesAll_103 : decode cX8_passesAll 103 = .ok (.invokevirtual 167, 3) := by decide +kernel
theorem dX8_passesAll_106 : decode cX8_passesAll 106 = .ok (.putfield 76, 3) := by decide +kernel
theorem dX8_passesAll_109 : decode cX8_passesAll 109 = .ok (.aload_n 0, 1) := by decide +kernel
theorem dX8_passesAll_110 : decode cX8_passesAll 110 = .ok (.aload_n 0, 1) := by decide +kernel
theorem dX8_passesAll_111 : decode cX8_passesAll 111 = .ok (.aload_n 0, 1) := by decide +kernel
theorem dX8_passesAll_112 : decode cX8_passesAll 112 = .ok (.getfield 117, 3) := by decide +kernel
theorem dX8_passesAll_115 : decode cX8_passesAll 115 = .ok (.invokevirtual 167, 3) := by decide +kernel
theorem dX8_passesAll_118 : decode cX8_passesAll 118 = .ok (.putfield 117, 3) := by decide +kernel
theorem dX8_passesAll_121 : decode cX8_passesAll 121 = .ok (.return_, 1) := by decide +kernel
set_option maxRecDepth 20000 in
theorem ggX8_thinks_X8_passesAll : GoodIn wsX8_thinks wsX8_passesAll := goodIn_r _ [5, 6, 7, 8, 9, 10, 11, 12, 13, 14, 15, 16, 17, 18, 19, 20, 21, 22, 4, 23, 24, 25, 26, 27, 28, 29, 30, 31, 32, 33, 34, 35, 36, 37, 38, 39, 40, 41, 42, 43, 44, 45, 46, 47, 48, 49, 50, 51, 52, 53, 54, 55, 56, 57] (by decide +kernel) (by decide +kernel)
set_option maxRecDepth 20000 in
theorem gX8_thinks_X8_passesAll : GoodIn wsX8_thinks (wsV RX8 149 RX8 yX8_passesAll wsX8_passesAll) := goodIn_app (goodIn_of _ (by decide +kernel)) ggX8_thinks_X8_passesAll
theorem dX8_thinks_0 : decode cX8_thinks 0 = .ok (.aload_n 0, 1) := by decide +kernel
theorem dX8_thinks_1 : decode cX8_thinks 1 = .ok (.iconst 2, 1) := by decide +kernel
theorem dX8_thinks_2 : decode cX8_thinks 2 = .ok (.iconst 1, 1) := by decide +kernel
theorem dX8_thinks_3 : decode cX8_thinks 3 = .ok (.invokevirtual 149, 3) := by decide +kernel
theorem dX8_thinks_6 : decode cX8_thinks 6 = .ok (.return_, 1) := by decide +kernel
set_option maxRecDepth 20000 in
theorem ggX8_forgets_X8_passesAll : GoodIn wsX8_forgets wsX8_passesAll := goodIn_r _ [5, 6, 7, 8, 9, 10, 11, 12, 13, 14, 15, 16, 17, 18, 19, 20, 21, 22, 4, 23, 24, 25, 26, 27, 28, 29, 30, 31, 32, 33, 34, 35, 36, 37, 38, 39, 40, 41, 42, 43, 44, 45, 46, 47, 48, 49, 50, 51, 52, 53, 54, 55, 56, 57] (by decide +kernel) (by decide +kernel)
set_option maxRecDepth 20000 in
theorem gX8_forgets_X8_passesAll : GoodIn wsX8_forgets (wsV RX8 149 RX8 yX8_passesAll wsX8_passesAll) := goodIn_app (goodIn_of _ (by decide +kernel)) ggX8_forgets_X8_passesAll
theorem dX8_forgets_0 : decode cX8_forgets 0 = .ok (.aload_n 0, 1) := by decide +kernel
theorem dX8_forgets_1 : decode cX8_forgets 1 = .ok (.iconst 2, 1) := by decide +kernel
theorem dX8_forgets_2 : decode cX8_forgets 2 = .ok (.iconst 0, 1) := by decide +kernel
theorem dX8_forgets_3 : decode cX8_forgets 3 = .ok (.invokevirtual 149, 3) := by decide +kernel
theorem dX8_forgets_6 : decode cX8_forgets 6 = .ok (.return_, 1) := by decide +kernel
set_option maxRecDepth 20000 in
theorem ggX8_image_X8_passesAll : GoodIn wsX8_image wsX8_passesAll := goodIn_r _ [7, 8, 9, 10, 11, 12, 13, 14, 15, 16, 17, 18, 19, 20, 2, 21, 22, 23, 6, 24, 25, 26, 27, 28, 29, 30, 31, 32, 33, 34, 35, 36, 37, 38, 39, 40, 41, 42, 43, 44, 45, 46, 47, 48, 49, 50, 51, 52, 53, 54, 55, 56, 57, 58] (by decide +kernel) (by decide +kernel)
set_option maxRecDepth 20000 in
theorem gX8_image_X8_passesAll : GoodIn wsX8_image (wsV RX8 149 RX8 yX8_passesAll wsX8_passesAll) := goodIn_app (goodIn_of _ (by decide +kernel)) ggX8_image_X8_passesAll
theorem dX8_image_0 : decode cX8_image 0 = .ok (.aload_n 0, 1) := by decide +kernel
theorem dX8_image_1 : decode cX8_image 1 = .ok (.iconst 1, 1) := by decide +kernel
theorem dX8_image_2 : decode cX8_image 2 = .ok (.putfield 170, 3) := by decide +kernel
theorem dX8_image_5 : decode cX8_image 5 = .ok (.aload_n 0, 1) := by decide +kernel
theorem dX8_image_6 : decode cX8_image 6 = .ok (.iconst 0, 1) := by decide +kernel
theorem dX8_image_7 : decode cX8_image 7 = .ok (.iconst 1, 1) := by decide +kernel
theorem dX8_image_8 : decode cX8_image 8 = .ok (.invokevirtual 149, 3) := by decide +kernel
theorem dX8_image_11 : decode cX8_image 11 = .ok (.aload_n 0, 1) := by decide +kernel
theorem dX8_image_12 : decode cX8_image 12 = .ok (.getfield 117, 3) := by decide +kernel
theorem dX8_image_15 : decode cX8_image 15 = .ok (.ireturn, 1) := by decide +kernel
set_option maxRecDepth 20000 in
theorem ggX8_on_X8_no : GoodIn wsX8_on wsX8_no := goodIn_r _ [7, 8, 35, 36, 37, 38, 39, 40, 41, 42, 43, 44, 45, 46, 47, 48, 49, 50, 51, 52, 53, 54, 55, 56, 57, 58, 59, 60, 61, 62, 63] (by decide +kernel) (by decide +kernel)
set_option maxRecDepth 20000 in
theorem gX8_on_X8_no : GoodIn wsX8_on (wsV RX8 86 RX8 yX8_no wsX8_no) := goodIn_app (goodIn_of _ (by decide +kernel)) ggX8_on_X8_no
set_option maxRecDepth 20000 in
theorem ggX8_on_X8_passesAll : GoodIn wsX8_on wsX8_passesAll := goodIn_r _ [12, 13, 14, 15, 16, 17, 18, 19, 20, 21, 22, 23, 24, 25, 2, 26, 27, 28, 6, 29, 30, 31, 32, 33, 34, 35, 36, 37, 38, 39, 40, 41, 42, 43, 44, 45, 46, 47, 48, 49, 50, 51, 52, 53, 54, 55, 56, 57, 58, 59, 60, 61, 62, 63] (by decide +kernel) (by decide +kernel)
set_option maxRecDepth 20000 in
theorem gX8_on_X8_passesAll : GoodIn wsX8_on (wsV RX8 149 RX8 yX8_passesAll wsX8_passesAll) := goodIn_app (goodIn_of _ (by decide +kernel)) ggX8_on_X8_passesAll
theorem dX8_on_0 : decode cX8_on 0 = .ok (.aload_n 0, 1) := by decide +kernel
theorem dX8_on_1 : decode cX8_on 1 = .ok (.getfield 170, 3) := by decide +kernel
theorem dX8_on_4 : decode cX8_on 4 = .ok (.ifCond .ne 10, 3) := by decide +kernel
theorem dX8_on_7 : decode cX8_on 7 = .ok (.aload_n 0, 1) := by decide +kernel
theorem dX8_on_8 : decode cX8_on 8 = .ok (.bipush (-3), 2) := by decide +kernel
theorem dX8_on_10 : decode cX8_on 10 = .ok (.invokevirtual 86, 3) := by decide +kernel
theorem dX8_on_13 : decode cX8_on 13 = .ok (.ireturn, 1) := by decide +kernel
theorem dX8_on_14 : decode cX8_on 14 = .ok (.aload_n 0, 1) := by decide +kernel
theorem dX8_on_15 : decode cX8_on 15 = .ok (.iconst 0, 1) := by decide +kernel
theorem dX8_on_16 : decode cX8_on 16 = .ok (.iconst 0, 1) := by decide +kernel
theorem dX8_on_17 : decode cX8_on 17 = .ok (.invokevirtual 149, 3) := by decide +kernel
theorem dX8_on_20 : decode cX8_on 20 = .ok (.aload_n 0, 1) := by decide +kernel
theorem dX8_on_21 : decode cX8_on 21 = .ok (.getfield 117, 3) := by decide +kernel
theorem dX8_on_24 : decode cX8_on 24 = .ok (.ireturn, 1) := by decide +kernel
theorem dX8_sisterly_0 : decode cX8_sisterly 0 = .ok (.aload_n 0, 1) := by decide +kernel
theorem dX8_sisterly_1 : decode cX8_sisterly 1 = .ok (.getfield 19, 3) := by decide +kernel
theorem dX8_sisterly_4 : decode cX8_sisterly 4 = .ok (.iload_n 1, 1) := by decide +kernel
theorem dX8_sisterly_5 : decode cX8_sisterly 5 = .ok (.ifCond .ne 7, 3) := by decide +kernel
theorem dX8_sisterly_8 : decode cX8_sisterly 8 = .ok (.iconst 0, 1) := by decide +kernel
theorem dX8_sisterly_9 : decode cX8_sisterly 9 = .ok (.goto 6, 3) := by decide +kernel
theorem dX8_sisterly_12 : decode cX8_sisterly 12 = .ok (.iload_n 1, 1) := by decide +kernel
theorem dX8_sisterly_13 : decode cX8_sisterly 13 = .ok (.iconst 1, 1) := by decide +kernel
theorem dX8_sisterly_14 : decode cX8_sisterly 14 = .ok (.isub, 1) := by decide +kernel
theorem dX8_sisterly_15 : decode cX8_sisterly 15 = .ok (.iaload, 1) := by decide +kernel
theorem dX8_sisterly_16 : decode cX8_sisterly 16 = .ok (.ireturn, 1) := by decide +kernel
set_option maxRecDepth 20000 in
theorem ggX8_showsOf_X8_sisterly : GoodIn wsX8_showsOf wsX8_sisterly := goodIn_r _ [9, 1, 10, 11, 12, 13, 14, 15, 16, 17, 18, 19, 20, 21, 22, 23, 24, 25, 26, 27, 28, 29, 30, 31, 32, 33, 34, 35, 36, 37, 38] (by decide +kernel) (by decide +kernel)
set_option maxRecDepth 20000 in
theorem gX8_showsOf_X8_sisterly : GoodIn wsX8_showsOf (wsV RX8 173 RX8 yX8_sisterly wsX8_sisterly) := goodIn_app (goodIn_of _ (by decide +kernel)) ggX8_showsOf_X8_sisterly
theorem dX8_showsOf_0 : decode cX8_showsOf 0 = .ok (.aload_n 0, 1) := by decide +kernel
theorem dX8_showsOf_1 : decode cX8_showsOf 1 = .ok (.getfield 19, 3) := by decide +kernel
theorem dX8_showsOf_4 : decode cX8_showsOf 4 = .ok (.iload_n 1, 1) := by decide +kernel
theorem dX8_showsOf_5 : decode cX8_showsOf 5 = .ok (.iaload, 1) := by decide +kernel
theorem dX8_showsOf_6 : decode cX8_showsOf 6 = .ok (.iconst 1, 1) := by decide +kernel
theorem dX8_showsOf_7 : decode cX8_showsOf 7 = .ok (.aload_n 0, 1) := by decide +kernel
theorem dX8_showsOf_8 : decode cX8_showsOf 8 = .ok (.getfield 16, 3) := by decide +kernel
theorem dX8_showsOf_11 : decode cX8_showsOf 11 = .ok (.iload_n 1, 1) := by decide +kernel
theorem dX8_showsOf_12 : decode cX8_showsOf 12 = .ok (.iaload, 1) := by decide +kernel
theorem dX8_showsOf_13 : decode cX8_showsOf 13 = .ok (.bipush 6, 2) := by decide +kernel
theorem dX8_showsOf_15 : decode cX8_showsOf 15 = .ok (.irem, 1) := by decide +kernel
theorem dX8_showsOf_16 : decode cX8_showsOf 16 = .ok (.ishl, 1) := by decide +kernel
theorem dX8_showsOf_17 : decode cX8_showsOf 17 = .ok (.ixor, 1) := by decide +kernel
theorem dX8_showsOf_18 : decode cX8_showsOf 18 = .ok (.istore_n 2, 1) := by decide +kernel
theorem dX8_showsOf_19 : decode cX8_showsOf 19 = .ok (.aload_n 0, 1) := by decide +kernel
theorem dX8_showsOf_20 : decode cX8_showsOf 20 = .ok (.getfield 117, 3) := by decide +kernel
theorem dX8_showsOf_23 : decode cX8_showsOf 23 = .ok (.iconst 2, 1) := by decide +kernel
theorem dX8_showsOf_24 : decode cX8_showsOf 24 = .ok (.irem, 1) := by decide +kernel
theorem dX8_showsOf_25 : decode cX8_showsOf 25 = .ok (.iconst 1, 1) := by decide +kernel
theorem dX8_showsOf_26 : decode cX8_showsOf 26 = .ok (.if_icmp .ne 7, 3) := by decide +kernel
theorem dX8_showsOf_29 : decode cX8_showsOf 29 = .ok (.iload_n 2, 1) := by decide +kernel
theorem dX8_showsOf_30 : decode cX8_showsOf 30 = .ok (.goto 9, 3) := by decide +kernel
theorem dX8_showsOf_33 : decode cX8_showsOf 33 = .ok (.aload_n 0, 1) := by decide +kernel
theorem dX8_showsOf_34 : decode cX8_showsOf 34 = .ok (.getfield 19, 3) := by decide +kernel
theorem dX8_showsOf_37 : decode cX8_showsOf 37 = .ok (.iload_n 1, 1) := by decide +kernel
theorem dX8_showsOf_38 : decode cX8_showsOf 38 = .ok (.iaload, 1) := by decide +kernel
theorem dX8_showsOf_39 : decode cX8_showsOf 39 = .ok (.istore_n 3, 1) := by decide +kernel
theorem dX8_showsOf_40 : decode cX8_showsOf 40 = .ok (.aload_n 0, 1) := by decide +kernel
theorem dX8_showsOf_41 : decode cX8_showsOf 41 = .ok (.getfield 13, 3) := by decide +kernel
theorem dX8_showsOf_44 : decode cX8_showsOf 44 = .ok (.iload_n 1, 1) := by decide +kernel
theorem dX8_showsOf_45 : decode cX8_showsOf 45 = .ok (.iaload, 1) := by decide +kernel
theorem dX8_showsOf_46 : decode cX8_showsOf 46 = .ok (.tableswitch 62 1 5 #[34, 40, 42, 44, 57], 34) := by decide +kernel
theorem dX8_showsOf_80 : decode cX8_showsOf 80 = .ok (.aload_n 0, 1) := by decide +kernel
theorem dX8_showsOf_81 : decode cX8_showsOf 81 = .ok (.iload_n 1, 1) := by decide +kernel
theorem dX8_showsOf_82 : decode cX8_showsOf 82 = .ok (.invokevirtual 173, 3) := by decide +kernel
theorem dX8_showsOf_85 : decode cX8_showsOf 85 = .ok (.ireturn, 1) := by decide +kernel
theorem dX8_showsOf_86 : decode cX8_showsOf 86 = .ok (.iload_n 2, 1) := by decide +kernel
theorem dX8_showsOf_87 : decode cX8_showsOf 87 = .ok (.ireturn, 1) := by decide +kernel
theorem dX8_showsOf_88 : decode cX8_showsOf 88 = .ok (.iload_n 3, 1) := by decide +kernel
theorem dX8_showsOf_89 : decode cX8_showsOf 89 = .ok (.ireturn, 1) := by decide +kernel
theorem dX8_showsOf_90 : decode cX8_showsOf 90 = .ok (.aload_n 0, 1) := by decide +kernel
theorem dX8_showsOf_91 : decode cX8_showsOf 91 = .ok (.iload_n 1, 1) := by decide +kernel
theorem dX8_showsOf_92 : decode cX8_showsOf 92 = .ok (.invokevirtual 173, 3) := by decide +kernel
theorem dX8_showsOf_95 : decode cX8_showsOf 95 = .ok (.aload_n 0, 1) := by decide +kernel
theorem dX8_showsOf_96 : decode cX8_showsOf 96 = .ok (.getfield 19, 3) := by decide +kernel
theorem dX8_showsOf_99 : decode cX8_showsOf 99 = .ok (.iload_n 1, 1) := by decide +kernel
theorem dX8_showsOf_100 : decode cX8_showsOf 100 = .ok (.iaload, 1) := by decide +kernel
theorem dX8_showsOf_101 : decode cX8_showsOf 101 = .ok (.ixor, 1) := by decide +kernel
theorem dX8_showsOf_102 : decode cX8_showsOf 102 = .ok (.ireturn, 1) := by decide +kernel
theorem dX8_showsOf_103 : decode cX8_showsOf 103 = .ok (.iload_n 3, 1) := by decide +kernel
theorem dX8_showsOf_104 : decode cX8_showsOf 104 = .ok (.bipush 30, 2) := by decide +kernel
theorem dX8_showsOf_106 : decode cX8_showsOf 106 = .ok (.iand, 1) := by decide +kernel
theorem dX8_showsOf_107 : decode cX8_showsOf 107 = .ok (.ireturn, 1) := by decide +kernel
theorem dX8_showsOf_108 : decode cX8_showsOf 108 = .ok (.aload_n 0, 1) := by decide +kernel
theorem dX8_showsOf_109 : decode cX8_showsOf 109 = .ok (.getfield 19, 3) := by decide +kernel
theorem dX8_showsOf_112 : decode cX8_showsOf 112 = .ok (.iload_n 1, 1) := by decide +kernel
theorem dX8_showsOf_113 : decode cX8_showsOf 113 = .ok (.iaload, 1) := by decide +kernel
theorem dX8_showsOf_114 : decode cX8_showsOf 114 = .ok (.ireturn, 1) := by decide +kernel
theorem dX8_here_0 : decode cX8_here 0 = .ok (.iconst 0, 1) := by decide +kernel
theorem dX8_here_1 : decode cX8_here 1 = .ok (.istore_n 1, 1) := by decide +kernel
theorem dX8_here_2 : decode cX8_here 2 = .ok (.iconst 0, 1) := by decide +kernel
theorem dX8_here_3 : decode cX8_here 3 = .ok (.istore_n 2, 1) := by decide +kernel
theorem dX8_here_4 : decode cX8_here 4 = .ok (.iload_n 2, 1) := by decide +kernel
theorem dX8_here_5 : decode cX8_here 5 = .ok (.aload_n 0, 1) := by decide +kernel
theorem dX8_here_6 : decode cX8_here 6 = .ok (.getfield 66, 3) := by decide +kernel
theorem dX8_here_9 : decode cX8_here 9 = .ok (.if_icmp .ge 28, 3) := by decide +kernel
theorem dX8_here_12 : decode cX8_here 12 = .ok (.iload_n 1, 1) := by decide +kernel
theorem dX8_here_13 : decode cX8_here 13 = .ok (.aload_n 0, 1) := by decide +kernel
theorem dX8_here_14 : decode cX8_here 14 = .ok (.getfield 22, 3) := by decide +kernel
theorem dX8_here_17 : decode cX8_here 17 = .ok (.iload_n 2, 1) := by decide +kernel
theorem dX8_here_18 : decode cX8_here 18 = .ok (.iaload, 1) := by decide +kernel
theorem dX8_here_19 : decode cX8_here 19 = .ok (.ifCond .ne 9, 3) := by decide +kernel
theorem dX8_here_22 : decode cX8_here 22 = .ok (.iconst 1, 1) := by decide +kernel
theorem dX8_here_23 : decode cX8_here 23 = .ok (.iload_n 2, 1) := by decide +kernel
theorem dX8_here_24 : decode cX8_here 24 = .ok (.ishl, 1) := by decide +kernel
theorem dX8_here_25 : decode cX8_here 25 = .ok (.goto 4, 3) := by decide +kernel
theorem dX8_here_28 : decode cX8_here 28 = .ok (.iconst 0, 1) := by decide +kernel
theorem dX8_here_29 : decode cX8_here 29 = .ok (.ior, 1) := by decide +kernel
theorem dX8_here_30 : decode cX8_here 30 = .ok (.istore_n 1, 1) := by decide +kernel
theorem dX8_here_31 : decode cX8_here 31 = .ok (.iinc 2 1, 3) := by decide +kernel
theorem dX8_here_34 : decode cX8_here 34 = .ok (.goto (-30), 3) := by decide +kernel
theorem dX8_here_37 : decode cX8_here 37 = .ok (.iload_n 1, 1) := by decide +kernel
theorem dX8_here_38 : decode cX8_here 38 = .ok (.ireturn, 1) := by decide +kernel
set_option maxRecDepth 20000 in
theorem ggX8_guessesBy_X8_showsOf : GoodIn wsX8_guessesBy wsX8_showsOf := goodIn_r _ [7, 8, 9, 10, 11, 12, 13, 14, 6, 15, 16, 17, 18, 19, 20, 21, 22, 23, 24, 25, 26, 27, 28, 29, 30, 31, 32, 33, 34, 35, 36, 37, 38, 39, 40, 41, 42, 43, 44] (by decide +kernel) (by decide +kernel)
set_option maxRecDepth 20000 in
theorem gX8_guessesBy_X8_showsOf : GoodIn wsX8_guessesBy (wsV RX8 176 RX8 yX8_showsOf wsX8_showsOf) := goodIn_app (goodIn_of _ (by decide +kernel)) ggX8_guessesBy_X8_showsOf
theorem dX8_guessesBy_0 : decode cX8_guessesBy 0 = .ok (.iconst 0, 1) := by decide +kernel
theorem dX8_guessesBy_1 : decode cX8_guessesBy 1 = .ok (.istore_n 3, 1) := by decide +kernel
theorem dX8_guessesBy_2 : decode cX8_guessesBy 2 = .ok (.iconst 0, 1) := by decide +kernel
theorem dX8_guessesBy_3 : decode cX8_guessesBy 3 = .ok (.istore 4, 2) := by decide +kernel
theorem dX8_guessesBy_5 : decode cX8_guessesBy 5 = .ok (.iload 4, 2) := by decide +kernel
theorem dX8_guessesBy_7 : decode cX8_guessesBy 7 = .ok (.aload_n 0, 1) := by decide +kernel
theorem dX8_guessesBy_8 : decode cX8_guessesBy 8 = .ok (.getfield 66, 3) := by decide +kernel
theorem dX8_guessesBy_11 : decode cX8_guessesBy 11 = .ok (.if_icmp .ge 43, 3) := by decide +kernel
theorem dX8_guessesBy_14 : decode cX8_guessesBy 14 = .ok (.iload_n 3, 1) := by decide +kernel
theorem dX8_guessesBy_15 : decode cX8_guessesBy 15 = .ok (.aload_n 0, 1) := by decide +kernel
theorem dX8_guessesBy_16 : decode cX8_guessesBy 16 = .ok (.getfield 22, 3) := by decide +kernel
theorem dX8_guessesBy_19 : decode cX8_guessesBy 19 = .ok (.iload 4, 2) := by decide +kernel
theorem dX8_guessesBy_21 : decode cX8_guessesBy 21 = .ok (.iaload, 1) := by decide +kernel
theorem dX8_guessesBy_22 : decode cX8_guessesBy 22 = .ok (.ifCond .ne 23, 3) := by decide +kernel
theorem dX8_guessesBy_25 : decode cX8_guessesBy 25 = .ok (.aload_n 0, 1) := by decide +kernel
theorem dX8_guessesBy_26 : decode cX8_guessesBy 26 = .ok (.iload 4, 2) := by decide +kernel
theorem dX8_guessesBy_28 : decode cX8_guessesBy 28 = .ok (.invokevirtual 176, 3) := by decide +kernel
theorem dX8_guessesBy_31 : decode cX8_guessesBy 31 = .ok (.iload_n 2, 1) := by decide +kernel
theorem dX8_guessesBy_32 : decode cX8_guessesBy 32 = .ok (.ixor, 1) := by decide +kernel
theorem dX8_guessesBy_33 : decode cX8_guessesBy 33 = .ok (.iload_n 1, 1) := by decide +kernel
theorem dX8_guessesBy_34 : decode cX8_guessesBy 34 = .ok (.iand, 1) := by decide +kernel
theorem dX8_guessesBy_35 : decode cX8_guessesBy 35 = .ok (.ifCond .ne 10, 3) := by decide +kernel
theorem dX8_guessesBy_38 : decode cX8_guessesBy 38 = .ok (.iconst 1, 1) := by decide +kernel
theorem dX8_guessesBy_39 : decode cX8_guessesBy 39 = .ok (.iload 4, 2) := by decide +kernel
theorem dX8_guessesBy_41 : decode cX8_guessesBy 41 = .ok (.ishl, 1) := by decide +kernel
theorem dX8_guessesBy_42 : decode cX8_guessesBy 42 = .ok (.goto 4, 3) := by decide +kernel
theorem dX8_guessesBy_45 : decode cX8_guessesBy 45 = .ok (.iconst 0, 1) := by decide +kernel
theorem dX8_guessesBy_46 : decode cX8_guessesBy 46 = .ok (.ior, 1) := by decide +kernel
theorem dX8_guessesBy_47 : decode cX8_guessesBy 47 = .ok (.istore_n 3, 1) := by decide +kernel
theorem dX8_guessesBy_48 : decode cX8_guessesBy 48 = .ok (.iinc 4 1, 3) := by decide +kernel
theorem dX8_guessesBy_51 : decode cX8_guessesBy 51 = .ok (.goto (-46), 3) := by decide +kernel
theorem dX8_guessesBy_54 : decode cX8_guessesBy 54 = .ok (.iload_n 3, 1) := by decide +kernel
theorem dX8_guessesBy_55 : decode cX8_guessesBy 55 = .ok (.ireturn, 1) := by decide +kernel
set_option maxRecDepth 20000 in
theorem ggX8_guesses_X8_guessesBy : GoodIn wsX8_guesses wsX8_guessesBy := goodIn_r _ [7, 8, 9, 10, 11, 12, 6, 13, 14, 15, 16, 17, 18, 19, 20, 21, 22, 23, 24, 25, 26, 27, 28, 29, 30, 31, 32, 33, 34, 35, 36, 37, 38, 39, 40, 41, 42, 43, 44, 45, 46, 47, 48, 49, 50] (by decide +kernel) (by decide +kernel)
set_option maxRecDepth 20000 in
theorem gX8_guesses_X8_guessesBy : GoodIn wsX8_guesses (wsV RX8 179 RX8 yX8_guessesBy wsX8_guessesBy) := goodIn_app (goodIn_of _ (by decide +kernel)) ggX8_guesses_X8_guessesBy
theorem dX8_guesses_0 : decode cX8_guesses 0 = .ok (.aload_n 0, 1) := by decide +kernel
theorem dX8_guesses_1 : decode cX8_guesses 1 = .ok (.aload_n 0, 1) := by decide +kernel
theorem dX8_guesses_2 : decode cX8_guesses 2 = .ok (.getfield 28, 3) := by decide +kernel
theorem dX8_guesses_5 : decode cX8_guesses 5 = .ok (.iload_n 1, 1) := by decide +kernel
theorem dX8_guesses_6 : decode cX8_guesses 6 = .ok (.iaload, 1) := by decide +kernel
theorem dX8_guesses_7 : decode cX8_guesses 7 = .ok (.aload_n 0, 1) := by decide +kernel
theorem dX8_guesses_8 : decode cX8_guesses 8 = .ok (.getfield 31, 3) := by decide +kernel
theorem dX8_guesses_11 : decode cX8_guesses 11 = .ok (.iload_n 1, 1) := by decide +kernel
theorem dX8_guesses_12 : decode cX8_guesses 12 = .ok (.iaload, 1) := by decide +kernel
theorem dX8_guesses_13 : decode cX8_guesses 13 = .ok (.invokevirtual 179, 3) := by decide +kernel
theorem dX8_guesses_16 : decode cX8_guesses 16 = .ok (.ireturn, 1) := by decide +kernel
set_option maxRecDepth 20000 in
theorem ggX8_knows_X8_guesses : GoodIn wsX8_knows wsX8_guesses := goodIn_r _ [5, 6, 7, 8, 9, 10, 4, 11, 12, 13, 14, 15, 16, 17, 18, 19, 20, 21, 22, 23, 24, 25, 35, 36, 37, 38, 39, 40, 41, 42, 43, 44, 45, 46, 47, 48, 49, 50, 51, 52, 53, 54, 55, 56, 57, 58, 59, 60, 61, 62, 63] (by decide +kernel) (by decide +kernel)
set_option maxRecDepth 20000 in
theorem gX8_knows_X8_guesses : GoodIn wsX8_knows (wsV RX8 183 RX8 yX8_guesses wsX8_guesses) := goodIn_app (goodIn_of _ (by decide +kernel)) ggX8_knows_X8_guesses
set_option maxRecDepth 20000 in
theorem ggX8_knows_X8_bits : GoodIn wsX8_knows wsX8_bits := goodIn_r _ [28] (by decide +kernel) (by decide +kernel)
set_option maxRecDepth 20000 in
theorem gX8_knows_X8_bits : GoodIn wsX8_knows (va_wsS RX8 186 yX8_bits wsX8_bits) := goodIn_app (goodIn_of _ (by decide +kernel)) ggX8_knows_X8_bits
set_option maxRecDepth 20000 in
theorem ggX8_knows_X8_lowest : GoodIn wsX8_knows wsX8_lowest := goodIn_r _ [31, 32, 33, 4, 34] (by decide +kernel) (by decide +kernel)
set_option maxRecDepth 20000 in
theorem gX8_knows_X8_lowest : GoodIn wsX8_knows (va_wsS RX8 189 yX8_lowest wsX8_lowest) := goodIn_app (goodIn_of _ (by decide +kernel)) ggX8_knows_X8_lowest
theorem dX8_knows_0 : decode cX8_knows 0 = .ok (.aload_n 0, 1) := by decide +kernel
theorem dX8_knows_1 : decode cX8_knows 1 = .ok (.iload_n 1, 1) := by decide +kernel
theorem dX8_knows_2 : decode cX8_knows 2 = .ok (.invokevirtual 183, 3) := by decide +kernel
theorem dX8_knows_5 : decode cX8_knows 5 = .ok (.istore_n 2, 1) := by decide +kernel
theorem dX8_knows_6 : decode cX8_knows 6 = .ok (.iload_n 2, 1) := by decide +kernel
theorem dX8_knows_7 : decode cX8_knows 7 = .ok (.invokestatic 186, 3) := by decide +kernel
theorem dX8_knows_10 : decode cX8_knows 10 = .ok (.iconst 1, 1) := by decide +kernel
theorem dX8_knows_11 : decode cX8_knows 11 = .ok (.if_icmp .ne 10, 3) := by decide +kernel
theorem dX8_knows_14 : decode cX8_knows 14 = .ok (.iload_n 2, 1) := by decide +kernel
theorem dX8_knows_15 : decode cX8_knows 15 = .ok (.invokestatic 189, 3) := by decide +kernel
theorem dX8_knows_18 : decode cX8_knows 18 = .ok (.goto 5, 3) := by decide +kernel
theorem dX8_knows_21 : decode cX8_knows 21 = .ok (.bipush (-9), 2) := by decide +kernel
theorem dX8_knows_23 : decode cX8_knows 23 = .ok (.ireturn, 1) := by decide +kernel
set_option maxRecDepth 20000 in
theorem ggX8_canWed_X8_here : GoodIn wsX8_canWed wsX8_here := goodIn_r _ [6, 7, 8, 9, 10, 11, 12, 13, 14, 15, 16, 17, 18, 19, 20, 21, 22, 23, 24, 25, 26, 27, 28, 29, 30, 31, 32, 33, 34, 35, 36, 37] (by decide +kernel) (by decide +kernel)
set_option maxRecDepth 20000 in
theorem gX8_canWed_X8_here : GoodIn wsX8_canWed (wsV RX8 192 RX8 yX8_here wsX8_here) := goodIn_app (goodIn_of _ (by decide +kernel)) ggX8_canWed_X8_here
theorem dX8_canWed_0 : decode cX8_canWed 0 = .ok (.aload_n 0, 1) := by decide +kernel
theorem dX8_canWed_1 : decode cX8_canWed 1 = .ok (.getfield 37, 3) := by decide +kernel
theorem dX8_canWed_4 : decode cX8_canWed 4 = .ok (.iload_n 1, 1) := by decide +kernel
theorem dX8_canWed_5 : decode cX8_canWed 5 = .ok (.iaload, 1) := by decide +kernel
theorem dX8_canWed_6 : decode cX8_canWed 6 = .ok (.ifCond .ne 14, 3) := by decide +kernel
theorem dX8_canWed_9 : decode cX8_canWed 9 = .ok (.aload_n 0, 1) := by decide +kernel
theorem dX8_canWed_10 : decode cX8_canWed 10 = .ok (.invokevirtual 192, 3) := by decide +kernel
theorem dX8_canWed_13 : decode cX8_canWed 13 = .ok (.ifCond .eq 7, 3) := by decide +kernel
theorem dX8_canWed_16 : decode cX8_canWed 16 = .ok (.iconst 1, 1) := by decide +kernel
theorem dX8_canWed_17 : decode cX8_canWed 17 = .ok (.goto 4, 3) := by decide +kernel
theorem dX8_canWed_20 : decode cX8_canWed 20 = .ok (.iconst 0, 1) := by decide +kernel
theorem dX8_canWed_21 : decode cX8_canWed 21 = .ok (.ireturn, 1) := by decide +kernel
set_option maxRecDepth 20000 in
theorem ggX8_takenBy_X8_guesses : GoodIn wsX8_takenBy wsX8_guesses := goodIn_r _ [5, 6, 7, 8, 9, 10, 4, 11, 12, 13, 14, 15, 16, 17, 18, 19, 20, 21, 22, 23, 24, 25, 39, 40, 41, 42, 43, 44, 45, 46, 47, 48, 49, 50, 51, 52, 53, 54, 55, 56, 57, 58, 59, 60, 61, 62, 63, 64, 65, 66, 67] (by decide +kernel) (by decide +kernel)
set_option maxRecDepth 20000 in
theorem gX8_takenBy_X8_guesses : GoodIn wsX8_takenBy (wsV RX8 183 RX8 yX8_guesses wsX8_guesses) := goodIn_app (goodIn_of _ (by decide +kernel)) ggX8_takenBy_X8_guesses
set_option maxRecDepth 20000 in
theorem ggX8_takenBy_X8_here : GoodIn wsX8_takenBy wsX8_here := goodIn_r _ [29, 12, 13, 39, 40, 41, 42, 43, 44, 45, 46, 47, 48, 49, 50, 51, 52, 53, 54, 55, 56, 57, 58, 59, 60, 61, 62, 63, 64, 65, 66, 67] (by decide +kernel) (by decide +kernel)
set_option maxRecDepth 20000 in
theorem gX8_takenBy_X8_here : GoodIn wsX8_takenBy (wsV RX8 192 RX8 yX8_here wsX8_here) := goodIn_app (goodIn_of _ (by decide +kernel)) ggX8_takenBy_X8_here
set_option maxRecDepth 20000 in
theorem ggX8_takenBy_X8_bits : GoodIn wsX8_takenBy wsX8_bits := goodIn_r _ [32] (by decide +kernel) (by decide +kernel)
set_option maxRecDepth 20000 in
theorem gX8_takenBy_X8_bits : GoodIn wsX8_takenBy (va_wsS RX8 186 yX8_bits wsX8_bits) := goodIn_app (goodIn_of _ (by decide +kernel)) ggX8_takenBy_X8_bits
set_option maxRecDepth 20000 in
theorem ggX8_takenBy_X8_lowest : GoodIn wsX8_takenBy wsX8_lowest := goodIn_r _ [35, 36, 37, 4, 38] (by decide +kernel) (by decide +kernel)
set_option maxRecDepth 20000 in
theorem gX8_takenBy_X8_lowest : GoodIn wsX8_takenBy (va_wsS RX8 189 yX8_lowest wsX8_lowest) := goodIn_app (goodIn_of _ (by decide +kernel)) ggX8_takenBy_X8_lowest
set_option maxRecDepth 20000 in
theorem ggX8_takenBy_X8_has : GoodIn wsX8_takenBy wsX8_has := goodIn_r _ [38] (by decide +kernel) (by decide +kernel)
set_option maxRecDepth 20000 in
theorem gX8_takenBy_X8_has : GoodIn wsX8_takenBy (va_wsS RX8 72 yX8_has wsX8_has) := goodIn_app (goodIn_of _ (by decide +kernel)) ggX8_takenBy_X8_has
theorem dX8_takenBy_0 : decode cX8_takenBy 0 = .ok (.aload_n 0, 1) := by decide +kernel
theorem dX8_takenBy_1 : decode cX8_takenBy 1 = .ok (.iload_n 1, 1) := by decide +kernel
theorem dX8_takenBy_2 : decode cX8_takenBy 2 = .ok (.invokevirtual 183, 3) := by decide +kernel
theorem dX8_takenBy_5 : decode cX8_takenBy 5 = .ok (.ifCond .ne 10, 3) := by decide +kernel
theorem dX8_takenBy_8 : decode cX8_takenBy 8 = .ok (.aload_n 0, 1) := by decide +kernel
theorem dX8_takenBy_9 : decode cX8_takenBy 9 = .ok (.invokevirtual 192, 3) := by decide +kernel
theorem dX8_takenBy_12 : decode cX8_takenBy 12 = .ok (.goto 8, 3) := by decide +kernel
theorem dX8_takenBy_15 : decode cX8_takenBy 15 = .ok (.aload_n 0, 1) := by decide +kernel
theorem dX8_takenBy_16 : decode cX8_takenBy 16 = .ok (.iload_n 1, 1) := by decide +kernel
theorem dX8_takenBy_17 : decode cX8_takenBy 17 = .ok (.invokevirtual 183, 3) := by decide +kernel
theorem dX8_takenBy_20 : decode cX8_takenBy 20 = .ok (.istore_n 3, 1) := by decide +kernel
theorem dX8_takenBy_21 : decode cX8_takenBy 21 = .ok (.iload_n 2, 1) := by decide +kernel
theorem dX8_takenBy_22 : decode cX8_takenBy 22 = .ok (.iload_n 3, 1) := by decide +kernel
theorem dX8_takenBy_23 : decode cX8_takenBy 23 = .ok (.invokestatic 186, 3) := by decide +kernel
theorem dX8_takenBy_26 : decode cX8_takenBy 26 = .ok (.irem, 1) := by decide +kernel
theorem dX8_takenBy_27 : decode cX8_takenBy 27 = .ok (.istore 4, 2) := by decide +kernel
theorem dX8_takenBy_29 : decode cX8_takenBy 29 = .ok (.iload_n 3, 1) := by decide +kernel
theorem dX8_takenBy_30 : decode cX8_takenBy 30 = .ok (.invokestatic 189, 3) := by decide +kernel
theorem dX8_takenBy_33 : decode cX8_takenBy 33 = .ok (.istore 5, 2) := by decide +kernel
theorem dX8_takenBy_35 : decode cX8_takenBy 35 = .ok (.iload 4, 2) := by decide +kernel
theorem dX8_takenBy_37 : decode cX8_takenBy 37 = .ok (.ifCond .le 28, 3) := by decide +kernel
theorem dX8_takenBy_40 : decode cX8_takenBy 40 = .ok (.iinc 5 1, 3) := by decide +kernel
theorem dX8_takenBy_43 : decode cX8_takenBy 43 = .ok (.iload 4, 2) := by decide +kernel
theorem dX8_takenBy_45 : decode cX8_takenBy 45 = .ok (.iload_n 3, 1) := by decide +kernel
theorem dX8_takenBy_46 : decode cX8_takenBy 46 = .ok (.iload 5, 2) := by decide +kernel
theorem dX8_takenBy_48 : decode cX8_takenBy 48 = .ok (.invokestatic 72, 3) := by decide +kernel
theorem dX8_takenBy_51 : decode cX8_takenBy 51 = .ok (.ifCond .eq 7, 3) := by decide +kernel
theorem dX8_takenBy_54 : decode cX8_takenBy 54 = .ok (.iconst 1, 1) := by decide +kernel
theorem dX8_takenBy_55 : decode cX8_takenBy 55 = .ok (.goto 4, 3) := by decide +kernel
theorem dX8_takenBy_58 : decode cX8_takenBy 58 = .ok (.iconst 0, 1) := by decide +kernel
theorem dX8_takenBy_59 : decode cX8_takenBy 59 = .ok (.isub, 1) := by decide +kernel
theorem dX8_takenBy_60 : decode cX8_takenBy 60 = .ok (.istore 4, 2) := by decide +kernel
theorem dX8_takenBy_62 : decode cX8_takenBy 62 = .ok (.goto (-27), 3) := by decide +kernel
theorem dX8_takenBy_65 : decode cX8_takenBy 65 = .ok (.iload 5, 2) := by decide +kernel
theorem dX8_takenBy_67 : decode cX8_takenBy 67 = .ok (.ireturn, 1) := by decide +kernel
theorem dX8_sends_0 : decode cX8_sends 0 = .ok (.aload_n 0, 1) := by decide +kernel
theorem dX8_sends_1 : decode cX8_sends 1 = .ok (.getfield 22, 3) := by decide +kernel
theorem dX8_sends_4 : decode cX8_sends 4 = .ok (.iload_n 1, 1) := by decide +kernel
theorem dX8_sends_5 : decode cX8_sends 5 = .ok (.iconst 1, 1) := by decide +kernel
theorem dX8_sends_6 : decode cX8_sends 6 = .ok (.iastore, 1) := by decide +kernel
theorem dX8_sends_7 : decode cX8_sends 7 = .ok (.aload_n 0, 1) := by decide +kernel
theorem dX8_sends_8 : decode cX8_sends 8 = .ok (.getfield 25, 3) := by decide +kernel
theorem dX8_sends_11 : decode cX8_sends 11 = .ok (.iload_n 1, 1) := by decide +kernel
theorem dX8_sends_12 : decode cX8_sends 12 = .ok (.iload_n 2, 1) := by decide +kernel
theorem dX8_sends_13 : decode cX8_sends 13 = .ok (.iastore, 1) := by decide +kernel
theorem dX8_sends_14 : decode cX8_sends 14 = .ok (.return_, 1) := by decide +kernel
set_option maxRecDepth 20000 in
theorem ggX8_weds_X8_knows : GoodIn wsX8_weds wsX8_knows := goodIn_r _ [8, 9, 10, 11, 7, 12, 13, 14, 15, 16, 17, 18, 19, 2, 20, 21, 22, 23, 24, 25, 26, 27, 28, 29, 30, 31, 32, 33, 34, 35, 36, 37, 38, 39, 40, 54, 55, 56, 57, 58, 59, 60, 61, 62, 63, 64, 65, 66, 67, 68, 69, 70, 71, 72, 73, 74, 75, 76, 77, 78, 79, 80, 81, 82] (by decide +kernel) (by decide +kernel)
set_option maxRecDepth 20000 in
theorem gX8_weds_X8_knows : GoodIn wsX8_weds (wsV RX8 195 RX8 yX8_knows wsX8_knows) := goodIn_app (goodIn_of _ (by decide +kernel)) ggX8_weds_X8_knows
set_option maxRecDepth 20000 in
theorem ggX8_weds_X8_sends : GoodIn wsX8_weds wsX8_sends := goodIn_r _ [44, 2, 45, 54, 55, 56, 57, 58, 59, 60, 61, 62, 63, 64, 65, 66, 67, 68, 69, 70, 71, 72, 73, 74, 75, 76, 77, 78, 79, 80, 81, 82] (by decide +kernel) (by decide +kernel)
set_option maxRecDepth 20000 in
theorem gX8_weds_X8_sends : GoodIn wsX8_weds (wsV RX8 198 RX8 yX8_sends wsX8_sends) := goodIn_app (goodIn_of _ (by decide +kernel)) ggX8_weds_X8_sends
set_option maxRecDepth 20000 in
theorem ggX8_weds_X8_takenBy : GoodIn wsX8_weds wsX8_takenBy := goodIn_r _ [49, 9, 10, 11, 7, 12, 13, 14, 15, 16, 17, 18, 19, 2, 20, 21, 22, 23, 24, 25, 26, 27, 28, 29, 30, 31, 50, 51, 52, 53, 32, 33, 34, 35, 36, 37, 38, 39, 40, 54, 55, 56, 57, 58, 59, 60, 61, 62, 63, 64, 65, 66, 67, 68, 69, 70, 71, 72, 73, 74, 75, 76, 77, 78, 79, 80, 81, 82] (by decide +kernel) (by decide +kernel)
set_option maxRecDepth 20000 in
theorem gX8_weds_X8_takenBy : GoodIn wsX8_weds (wsV RX8 202 RX8 yX8_takenBy wsX8_takenBy) := goodIn_app (goodIn_of _ (by decide +kernel)) ggX8_weds_X8_takenBy
theorem dX8_weds_0 : decode cX8_weds 0 = .ok (.aload_n 0, 1) := by decide +kernel
theorem dX8_weds_1 : decode cX8_weds 1 = .ok (.iload_n 1, 1) := by decide +kernel
theorem dX8_weds_2 : decode cX8_weds 2 = .ok (.invokevirtual 195, 3) := by decide +kernel
theorem dX8_weds_5 : decode cX8_weds 5 = .ok (.istore_n 2, 1) := by decide +kernel
theorem dX8_weds_6 : decode cX8_weds 6 = .ok (.iload_n 2, 1) := by decide +kernel
theorem dX8_weds_7 : decode cX8_weds 7 = .ok (.ifCond .lt 20, 3) := by decide +kernel
theorem dX8_weds_10 : decode cX8_weds 10 = .ok (.aload_n 0, 1) := by decide +kernel
theorem dX8_weds_11 : decode cX8_weds 11 = .ok (.iload_n 2, 1) := by decide +kernel
theorem dX8_weds_12 : decode cX8_weds 12 = .ok (.iconst 1, 1) := by decide +kernel
theorem dX8_weds_13 : decode cX8_weds 13 = .ok (.aload_n 0, 1) := by decide +kernel
theorem dX8_weds_14 : decode cX8_weds 14 = .ok (.getfield 34, 3) := by decide +kernel
theorem dX8_weds_17 : decode cX8_weds 17 = .ok (.iload_n 1, 1) := by decide +kernel
theorem dX8_weds_18 : decode cX8_weds 18 = .ok (.iaload, 1) := by decide +kernel
theorem dX8_weds_19 : decode cX8_weds 19 = .ok (.iconst 3, 1) := by decide +kernel
theorem dX8_weds_20 : decode cX8_weds 20 = .ok (.idiv, 1) := by decide +kernel
theorem dX8_weds_21 : decode cX8_weds 21 = .ok (.iadd, 1) := by decide +kernel
theorem dX8_weds_22 : decode cX8_weds 22 = .ok (.invokevirtual 198, 3) := by decide +kernel
theorem dX8_weds_25 : decode cX8_weds 25 = .ok (.iload_n 2, 1) := by decide +kernel
theorem dX8_weds_26 : decode cX8_weds 26 = .ok (.ireturn, 1) := by decide +kernel
theorem dX8_weds_27 : decode cX8_weds 27 = .ok (.aload_n 0, 1) := by decide +kernel
theorem dX8_weds_28 : decode cX8_weds 28 = .ok (.iload_n 1, 1) := by decide +kernel
theorem dX8_weds_29 : decode cX8_weds 29 = .ok (.aload_n 0, 1) := by decide +kernel
theorem dX8_weds_30 : decode cX8_weds 30 = .ok (.getfield 34, 3) := by decide +kernel
theorem dX8_weds_33 : decode cX8_weds 33 = .ok (.iload_n 1, 1) := by decide +kernel
theorem dX8_weds_34 : decode cX8_weds 34 = .ok (.iaload, 1) := by decide +kernel
theorem dX8_weds_35 : decode cX8_weds 35 = .ok (.invokevirtual 202, 3) := by decide +kernel
theorem dX8_weds_38 : decode cX8_weds 38 = .ok (.istore_n 3, 1) := by decide +kernel
theorem dX8_weds_39 : decode cX8_weds 39 = .ok (.aload_n 0, 1) := by decide +kernel
theorem dX8_weds_40 : decode cX8_weds 40 = .ok (.getfield 22, 3) := by decide +kernel
theorem dX8_weds_43 : decode cX8_weds 43 = .ok (.iload_n 3, 1) := by decide +kernel
theorem dX8_weds_44 : decode cX8_weds 44 = .ok (.iconst 2, 1) := by decide +kernel
theorem dX8_weds_45 : decode cX8_weds 45 = .ok (.iastore, 1) := by decide +kernel
theorem dX8_weds_46 : decode cX8_weds 46 = .ok (.aload_n 0, 1) := by decide +kernel
theorem dX8_weds_47 : decode cX8_weds 47 = .ok (.getfield 37, 3) := by decide +kernel
theorem dX8_weds_50 : decode cX8_weds 50 = .ok (.iload_n 1, 1) := by decide +kernel
theorem dX8_weds_51 : decode cX8_weds 51 = .ok (.iconst 1, 1) := by decide +kernel
theorem dX8_weds_52 : decode cX8_weds 52 = .ok (.iastore, 1) := by decide +kernel
theorem dX8_weds_53 : decode cX8_weds 53 = .ok (.bipush 100, 2) := by decide +kernel
theorem dX8_weds_55 : decode cX8_weds 55 = .ok (.iload_n 3, 1) := by decide +kernel
theorem dX8_weds_56 : decode cX8_weds 56 = .ok (.iadd, 1) := by decide +kernel
theorem dX8_weds_57 : decode cX8_weds 57 = .ok (.ireturn, 1) := by decide +kernel
theorem dX8_goesYear_0 : decode cX8_goesYear 0 = .ok (.aload_n 0, 1) := by decide +kernel
theorem dX8_goesYear_1 : decode cX8_goesYear 1 = .ok (.dup, 1) := by decide +kernel
theorem dX8_goesYear_2 : decode cX8_goesYear 2 = .ok (.getfield 117, 3) := by decide +kernel
theorem dX8_goesYear_5 : decode cX8_goesYear 5 = .ok (.iconst 1, 1) := by decide +kernel
theorem dX8_goesYear_6 : decode cX8_goesYear 6 = .ok (.iadd, 1) := by decide +kernel
theorem dX8_goesYear_7 : decode cX8_goesYear 7 = .ok (.putfield 117, 3) := by decide +kernel
theorem dX8_goesYear_10 : decode cX8_goesYear 10 = .ok (.iconst 0, 1) := by decide +kernel
theorem dX8_goesYear_11 : decode cX8_goesYear 11 = .ok (.istore_n 1, 1) := by decide +kernel
theorem dX8_goesYear_12 : decode cX8_goesYear 12 = .ok (.iload_n 1, 1) := by decide +kernel
theorem dX8_goesYear_13 : decode cX8_goesYear 13 = .ok (.aload_n 0, 1) := by decide +kernel
theorem dX8_goesYear_14 : decode cX8_goesYear 14 = .ok (.getfield 66, 3) := by decide +kernel
theorem dX8_goesYear_17 : decode cX8_goesYear 17 = .ok (.if_icmp .ge 52, 3) := by decide +kernel
theorem dX8_goesYear_20 : decode cX8_goesYear 20 = .ok (.aload_n 0, 1) := by decide +kernel
theorem dX8_goesYear_21 : decode cX8_goesYear 21 = .ok (.getfield 22, 3) := by decide +kernel
theorem dX8_goesYear_24 : decode cX8_goesYear 24 = .ok (.iload_n 1, 1) := by decide +kernel
theorem dX8_goesYear_25 : decode cX8_goesYear 25 = .ok (.iaload, 1) := by decide +kernel
theorem dX8_goesYear_26 : decode cX8_goesYear 26 = .ok (.iconst 1, 1) := by decide +kernel
theorem dX8_goesYear_27 : decode cX8_goesYear 27 = .ok (.if_icmp .eq 6, 3) := by decide +kernel
theorem dX8_goesYear_30 : decode cX8_goesYear 30 = .ok (.goto 33, 3) := by decide +kernel
theorem dX8_goesYear_33 : decode cX8_goesYear 33 = .ok (.aload_n 0, 1) := by decide +kernel
theorem dX8_goesYear_34 : decode cX8_goesYear 34 = .ok (.getfield 25, 3) := by decide +kernel
theorem dX8_goesYear_37 : decode cX8_goesYear 37 = .ok (.iload_n 1, 1) := by decide +kernel
theorem dX8_goesYear_38 : decode cX8_goesYear 38 = .ok (.dup2, 1) := by decide +kernel
theorem dX8_goesYear_39 : decode cX8_goesYear 39 = .ok (.iaload, 1) := by decide +kernel
theorem dX8_goesYear_40 : decode cX8_goesYear 40 = .ok (.iconst 1, 1) := by decide +kernel
theorem dX8_goesYear_41 : decode cX8_goesYear 41 = .ok (.isub, 1) := by decide +kernel
theorem dX8_goesYear_42 : decode cX8_goesYear 42 = .ok (.iastore, 1) := by decide +kernel
theorem dX8_goesYear_43 : decode cX8_goesYear 43 = .ok (.aload_n 0, 1) := by decide +kernel
theorem dX8_goesYear_44 : decode cX8_goesYear 44 = .ok (.getfield 22, 3) := by decide +kernel
theorem dX8_goesYear_47 : decode cX8_goesYear 47 = .ok (.iload_n 1, 1) := by decide +kernel
theorem dX8_goesYear_48 : decode cX8_goesYear 48 = .ok (.aload_n 0, 1) := by decide +kernel
theorem dX8_goesYear_49 : decode cX8_goesYear 49 = .ok (.getfield 25, 3) := by decide +kernel
theorem dX8_goesYear_52 : decode cX8_goesYear 52 = .ok (.iload_n 1, 1) := by decide +kernel
theorem dX8_goesYear_53 : decode cX8_goesYear 53 = .ok (.iaload, 1) := by decide +kernel
theorem dX8_goesYear_54 : decode cX8_goesYear 54 = .ok (.ifCond .ne 7, 3) := by decide +kernel
theorem dX8_goesYear_57 : decode cX8_goesYear 57 = .ok (.iconst 0, 1) := by decide +kernel
theorem dX8_goesYear_58 : decode cX8_goesYear 58 = .ok (.goto 4, 3) := by decide +kernel
theorem dX8_goesYear_61 : decode cX8_goesYear 61 = .ok (.iconst 1, 1) := by decide +kernel
theorem dX8_goesYear_62 : decode cX8_goesYear 62 = .ok (.iastore, 1) := by decide +kernel
theorem dX8_goesYear_63 : decode cX8_goesYear 63 = .ok (.iinc 1 1, 3) := by decide +kernel
theorem dX8_goesYear_66 : decode cX8_goesYear 66 = .ok (.goto (-54), 3) := by decide +kernel
theorem dX8_goesYear_69 : decode cX8_goesYear 69 = .ok (.iconst 0, 1) := by decide +kernel
theorem dX8_goesYear_70 : decode cX8_goesYear 70 = .ok (.istore_n 1, 1) := by decide +kernel
theorem dX8_goesYear_71 : decode cX8_goesYear 71 = .ok (.iload_n 1, 1) := by decide +kernel
theorem dX8_goesYear_72 : decode cX8_goesYear 72 = .ok (.aload_n 0, 1) := by decide +kernel
theorem dX8_goesYear_73 : decode cX8_goesYear 73 = .ok (.getfield 76, 3) := by decide +kernel
theorem dX8_goesYear_76 : decode cX8_goesYear 76 = .ok (.if_icmp .ge 32, 3) := by decide +kernel
theorem dX8_goesYear_79 : decode cX8_goesYear 79 = .ok (.aload_n 0, 1) := by decide +kernel
theorem dX8_goesYear_80 : decode cX8_goesYear 80 = .ok (.getfield 34, 3) := by decide +kernel
theorem dX8_goesYear_83 : decode cX8_goesYear 83 = .ok (.iload_n 1, 1) := by decide +kernel
theorem dX8_goesYear_84 : decode cX8_goesYear 84 = .ok (.dup2, 1) := by decide +kernel
theorem dX8_goesYear_85 : decode cX8_goesYear 85 = .ok (.iaload, 1) := by decide +kernel
theorem dX8_goesYear_86 : decode cX8_goesYear 86 = .ok (.aload_n 0, 1) := by decide +kernel
theorem dX8_goesYear_87 : decode cX8_goesYear 87 = .ok (.getfield 34, 3) := by decide +kernel
theorem dX8_goesYear_90 : decode cX8_goesYear 90 = .ok (.iload_n 1, 1) := by decide +kernel
theorem dX8_goesYear_91 : decode cX8_goesYear 91 = .ok (.iaload, 1) := by decide +kernel
theorem dX8_goesYear_92 : decode cX8_goesYear 92 = .ok (.ifCond .le 7, 3) := by decide +kernel
theorem dX8_goesYear_95 : decode cX8_goesYear 95 = .ok (.iconst 1, 1) := by decide +kernel
theorem dX8_goesYear_96 : decode cX8_goesYear 96 = .ok (.goto 4, 3) := by decide +kernel
theorem dX8_goesYear_99 : decode cX8_goesYear 99 = .ok (.iconst 0, 1) := by decide +kernel
theorem dX8_goesYear_100 : decode cX8_goesYear 100 = .ok (.isub, 1) := by decide +kernel
theorem dX8_goesYear_101 : decode cX8_goesYear 101 = .ok (.iastore, 1) := by decide +kernel
theorem dX8_goesYear_102 : decode cX8_goesYear 102 = .ok (.iinc 1 1, 3) := by decide +kernel
theorem dX8_goesYear_105 : decode cX8_goesYear 105 = .ok (.goto (-34), 3) := by decide +kernel
theorem dX8_goesYear_108 : decode cX8_goesYear 108 = .ok (.return_, 1) := by decide +kernel
set_option maxRecDepth 20000 in
theorem ggX8_goes_X8_goesYear : GoodIn wsX8_goes wsX8_goesYear := goodIn_r _ [5, 6, 7, 8, 9, 10, 11, 12, 13, 14, 15, 16, 17, 18, 19, 20, 21, 22, 23, 24, 25, 26, 27, 28, 29, 30, 31, 32, 33, 34, 35, 36, 37, 38, 39, 40] (by decide +kernel) (by decide +kernel)
set_option maxRecDepth 20000 in
theorem gX8_goes_X8_goesYear : GoodIn wsX8_goes (wsV RX8 205 RX8 yX8_goesYear wsX8_goesYear) := goodIn_app (goodIn_of _ (by decide +kernel)) ggX8_goes_X8_goesYear
theorem dX8_goes_0 : decode cX8_goes 0 = .ok (.iconst 0, 1) := by decide +kernel
theorem dX8_goes_1 : decode cX8_goes 1 = .ok (.istore_n 2, 1) := by decide +kernel
theorem dX8_goes_2 : decode cX8_goes 2 = .ok (.iload_n 2, 1) := by decide +kernel
theorem dX8_goes_3 : decode cX8_goes 3 = .ok (.iload_n 1, 1) := by decide +kernel
theorem dX8_goes_4 : decode cX8_goes 4 = .ok (.if_icmp .ge 13, 3) := by decide +kernel
theorem dX8_goes_7 : decode cX8_goes 7 = .ok (.aload_n 0, 1) := by decide +kernel
theorem dX8_goes_8 : decode cX8_goes 8 = .ok (.invokevirtual 205, 3) := by decide +kernel
theorem dX8_goes_11 : decode cX8_goes 11 = .ok (.iinc 2 1, 3) := by decide +kernel
theorem dX8_goes_14 : decode cX8_goes 14 = .ok (.goto (-12), 3) := by decide +kernel
theorem dX8_goes_17 : decode cX8_goes 17 = .ok (.return_, 1) := by decide +kernel
set_option maxRecDepth 20000 in
theorem ggX8_bride_X8_isBride : GoodIn wsX8_bride wsX8_isBride := goodIn_r _ [10, 11, 26, 27, 28, 29, 30, 31, 32, 33, 34, 35, 36, 37, 38, 39, 40, 41, 42, 43, 44, 45, 46, 47, 48, 49, 50, 51, 52, 53, 54] (by decide +kernel) (by decide +kernel)
set_option maxRecDepth 20000 in
theorem gX8_bride_X8_isBride : GoodIn wsX8_bride (wsV RX8 130 RX8 yX8_isBride wsX8_isBride) := goodIn_app (goodIn_of _ (by decide +kernel)) ggX8_bride_X8_isBride
set_option maxRecDepth 20000 in
theorem ggX8_bride_X8_no : GoodIn wsX8_bride wsX8_no := goodIn_r _ [15, 16, 26, 27, 28, 29, 30, 31, 32, 33, 34, 35, 36, 37, 38, 39, 40, 41, 42, 43, 44, 45, 46, 47, 48, 49, 50, 51, 52, 53, 54] (by decide +kernel) (by decide +kernel)
set_option maxRecDepth 20000 in
theorem gX8_bride_X8_no : GoodIn wsX8_bride (wsV RX8 86 RX8 yX8_no wsX8_no) := goodIn_app (goodIn_of _ (by decide +kernel)) ggX8_bride_X8_no
set_option maxRecDepth 20000 in
theorem ggX8_bride_X8_showsOf : GoodIn wsX8_bride wsX8_showsOf := goodIn_r _ [20, 3, 2, 21, 1, 22, 23, 24, 9, 25, 26, 27, 28, 29, 30, 31, 32, 33, 34, 35, 36, 37, 38, 39, 40, 41, 42, 43, 44, 45, 46, 47, 48, 49, 50, 51, 52, 53, 54] (by decide +kernel) (by decide +kernel)
set_option maxRecDepth 20000 in
theorem gX8_bride_X8_showsOf : GoodIn wsX8_bride (wsV RX8 176 RX8 yX8_showsOf wsX8_showsOf) := goodIn_app (goodIn_of _ (by decide +kernel)) ggX8_bride_X8_showsOf
theorem dX8_bride_0 : decode cX8_bride 0 = .ok (.aload_n 0, 1) := by decide +kernel
theorem dX8_bride_1 : decode cX8_bride 1 = .ok (.iload_n 1, 1) := by decide +kernel
theorem dX8_bride_2 : decode cX8_bride 2 = .ok (.invokevirtual 130, 3) := by decide +kernel
theorem dX8_bride_5 : decode cX8_bride 5 = .ok (.ifCond .ne 9, 3) := by decide +kernel
theorem dX8_bride_8 : decode cX8_bride 8 = .ok (.aload_n 0, 1) := by decide +kernel
theorem dX8_bride_9 : decode cX8_bride 9 = .ok (.iconst (-1), 1) := by decide +kernel
theorem dX8_bride_10 : decode cX8_bride 10 = .ok (.invokevirtual 86, 3) := by decide +kernel
theorem dX8_bride_13 : decode cX8_bride 13 = .ok (.ireturn, 1) := by decide +kernel
theorem dX8_bride_14 : decode cX8_bride 14 = .ok (.iload_n 2, 1) := by decide +kernel
theorem dX8_bride_15 : decode cX8_bride 15 = .ok (.tableswitch 78 0 5 #[37, 44, 51, 58, 64, 71], 37) := by decide +kernel
theorem dX8_bride_52 : decode cX8_bride 52 = .ok (.aload_n 0, 1) := by decide +kernel
theorem dX8_bride_53 : decode cX8_bride 53 = .ok (.getfield 13, 3) := by decide +kernel
theorem dX8_bride_56 : decode cX8_bride 56 = .ok (.iload_n 1, 1) := by decide +kernel
theorem dX8_bride_57 : decode cX8_bride 57 = .ok (.iaload, 1) := by decide +kernel
theorem dX8_bride_58 : decode cX8_bride 58 = .ok (.ireturn, 1) := by decide +kernel
theorem dX8_bride_59 : decode cX8_bride 59 = .ok (.aload_n 0, 1) := by decide +kernel
theorem dX8_bride_60 : decode cX8_bride 60 = .ok (.getfield 16, 3) := by decide +kernel
theorem dX8_bride_63 : decode cX8_bride 63 = .ok (.iload_n 1, 1) := by decide +kernel
theorem dX8_bride_64 : decode cX8_bride 64 = .ok (.iaload, 1) := by decide +kernel
theorem dX8_bride_65 : decode cX8_bride 65 = .ok (.ireturn, 1) := by decide +kernel
theorem dX8_bride_66 : decode cX8_bride 66 = .ok (.aload_n 0, 1) := by decide +kernel
theorem dX8_bride_67 : decode cX8_bride 67 = .ok (.getfield 19, 3) := by decide +kernel
theorem dX8_bride_70 : decode cX8_bride 70 = .ok (.iload_n 1, 1) := by decide +kernel
theorem dX8_bride_71 : decode cX8_bride 71 = .ok (.iaload, 1) := by decide +kernel
theorem dX8_bride_72 : decode cX8_bride 72 = .ok (.ireturn, 1) := by decide +kernel
theorem dX8_bride_73 : decode cX8_bride 73 = .ok (.aload_n 0, 1) := by decide +kernel
theorem dX8_bride_74 : decode cX8_bride 74 = .ok (.iload_n 1, 1) := by decide +kernel
theorem dX8_bride_75 : decode cX8_bride 75 = .ok (.invokevirtual 176, 3) := by decide +kernel
theorem dX8_bride_78 : decode cX8_bride 78 = .ok (.ireturn, 1) := by decide +kernel
theorem dX8_bride_79 : decode cX8_bride 79 = .ok (.aload_n 0, 1) := by decide +kernel
theorem dX8_bride_80 : decode cX8_bride 80 = .ok (.getfield 25, 3) := by decide +kernel
theorem dX8_bride_83 : decode cX8_bride 83 = .ok (.iload_n 1, 1) := by decide +kernel
theorem dX8_bride_84 : decode cX8_bride 84 = .ok (.iaload, 1) := by decide +kernel
theorem dX8_bride_85 : decode cX8_bride 85 = .ok (.ireturn, 1) := by decide +kernel
theorem dX8_bride_86 : decode cX8_bride 86 = .ok (.aload_n 0, 1) := by decide +kernel
theorem dX8_bride_87 : decode cX8_bride 87 = .ok (.getfield 22, 3) := by decide +kernel
theorem dX8_bride_90 : decode cX8_bride 90 = .ok (.iload_n 1, 1) := by decide +kernel
theorem dX8_bride_91 : decode cX8_bride 91 = .ok (.iaload, 1) := by decide +kernel
theorem dX8_bride_92 : decode cX8_bride 92 = .ok (.ireturn, 1) := by decide +kernel
theorem dX8_bride_93 : decode cX8_bride 93 = .ok (.aload_n 0, 1) := by decide +kernel
theorem dX8_bride_94 : decode cX8_bride 94 = .ok (.bipush (-2), 2) := by decide +kernel
theorem dX8_bride_96 : decode cX8_bride 96 = .ok (.invokevirtual 86, 3) := by decide +kernel
theorem dX8_bride_99 : decode cX8_bride 99 = .ok (.ireturn, 1) := by decide +kernel
set_option maxRecDepth 20000 in
theorem ggX8_groom_X8_isGroom : GoodIn wsX8_groom wsX8_isGroom := goodIn_r _ [9, 10, 51, 52, 53, 54, 55, 56, 57, 58, 59, 60, 61, 62, 63, 64, 65, 66, 67, 68, 69, 70, 71, 72, 73, 74, 75, 76, 77, 78, 79] (by decide +kernel) (by decide +kernel)
set_option maxRecDepth 20000 in
theorem gX8_groom_X8_isGroom : GoodIn wsX8_groom (wsV RX8 133 RX8 yX8_isGroom wsX8_isGroom) := goodIn_app (goodIn_of _ (by decide +kernel)) ggX8_groom_X8_isGroom
set_option maxRecDepth 20000 in
theorem ggX8_groom_X8_no : GoodIn wsX8_groom wsX8_no := goodIn_r _ [14, 15, 51, 52, 53, 54, 55, 56, 57, 58, 59, 60, 61, 62, 63, 64, 65, 66, 67, 68, 69, 70, 71, 72, 73, 74, 75, 76, 77, 78, 79] (by decide +kernel) (by decide +kernel)
set_option maxRecDepth 20000 in
theorem gX8_groom_X8_no : GoodIn wsX8_groom (wsV RX8 86 RX8 yX8_no wsX8_no) := goodIn_app (goodIn_of _ (by decide +kernel)) ggX8_groom_X8_no
set_option maxRecDepth 20000 in
theorem ggX8_groom_X8_guesses : GoodIn wsX8_groom wsX8_guesses := goodIn_r _ [19, 1, 2, 20, 21, 22, 8, 23, 24, 25, 26, 27, 28, 29, 30, 31, 32, 33, 34, 35, 36, 37, 51, 52, 53, 54, 55, 56, 57, 58, 59, 60, 61, 62, 63, 64, 65, 66, 67, 68, 69, 70, 71, 72, 73, 74, 75, 76, 77, 78, 79] (by decide +kernel) (by decide +kernel)
set_option maxRecDepth 20000 in
theorem gX8_groom_X8_guesses : GoodIn wsX8_groom (wsV RX8 183 RX8 yX8_guesses wsX8_guesses) := goodIn_app (goodIn_of _ (by decide +kernel)) ggX8_groom_X8_guesses
set_option maxRecDepth 20000 in
theorem ggX8_groom_X8_knows : GoodIn wsX8_groom wsX8_knows := goodIn_r _ [41, 16, 17, 18, 8, 19, 1, 2, 20, 21, 22, 23, 24, 25, 26, 27, 28, 29, 30, 31, 32, 33, 34, 35, 36, 37, 42, 43, 44, 45, 46, 47, 48, 49, 50, 51, 52, 53, 54, 55, 56, 57, 58, 59, 60, 61, 62, 63, 64, 65, 66, 67, 68, 69, 70, 71, 72, 73, 74, 75, 76, 77, 78, 79] (by decide +kernel) (by decide +kernel)
set_option maxRecDepth 20000 in
theorem gX8_groom_X8_knows : GoodIn wsX8_groom (wsV RX8 195 RX8 yX8_knows wsX8_knows) := goodIn_app (goodIn_of _ (by decide +kernel)) ggX8_groom_X8_knows
theorem dX8_groom_0 : decode cX8_groom 0 = .ok (.aload_n 0, 1) := by decide +kernel
theorem dX8_groom_1 : decode cX8_groom 1 = .ok (.iload_n 1, 1) := by decide +kernel
theorem dX8_groom_2 : decode cX8_groom 2 = .ok (.invokevirtual 133, 3) := by decide +kernel
theorem dX8_groom_5 : decode cX8_groom 5 = .ok (.ifCond .ne 9, 3) := by decide +kernel
theorem dX8_groom_8 : decode cX8_groom 8 = .ok (.aload_n 0, 1) := by decide +kernel
theorem dX8_groom_9 : decode cX8_groom 9 = .ok (.iconst (-1), 1) := by decide +kernel
theorem dX8_groom_10 : decode cX8_groom 10 = .ok (.invokevirtual 86, 3) := by decide +kernel
theorem dX8_groom_13 : decode cX8_groom 13 = .ok (.ireturn, 1) := by decide +kernel
theorem dX8_groom_14 : decode cX8_groom 14 = .ok (.iload_n 2, 1) := by decide +kernel
theorem dX8_groom_15 : decode cX8_groom 15 = .ok (.tableswitch 77 0 5 #[37, 44, 51, 58, 65, 71], 37) := by decide +kernel
theorem dX8_groom_52 : decode cX8_groom 52 = .ok (.aload_n 0, 1) := by decide +kernel
theorem dX8_groom_53 : decode cX8_groom 53 = .ok (.getfield 28, 3) := by decide +kernel
theorem dX8_groom_56 : decode cX8_groom 56 = .ok (.iload_n 1, 1) := by decide +kernel
theorem dX8_groom_57 : decode cX8_groom 57 = .ok (.iaload, 1) := by decide +kernel
theorem dX8_groom_58 : decode cX8_groom 58 = .ok (.ireturn, 1) := by decide +kernel
theorem dX8_groom_59 : decode cX8_groom 59 = .ok (.aload_n 0, 1) := by decide +kernel
theorem dX8_groom_60 : decode cX8_groom 60 = .ok (.getfield 31, 3) := by decide +kernel
theorem dX8_groom_63 : decode cX8_groom 63 = .ok (.iload_n 1, 1) := by decide +kernel
theorem dX8_groom_64 : decode cX8_groom 64 = .ok (.iaload, 1) := by decide +kernel
theorem dX8_groom_65 : decode cX8_groom 65 = .ok (.ireturn, 1) := by decide +kernel
theorem dX8_groom_66 : decode cX8_groom 66 = .ok (.aload_n 0, 1) := by decide +kernel
theorem dX8_groom_67 : decode cX8_groom 67 = .ok (.getfield 34, 3) := by decide +kernel
theorem dX8_groom_70 : decode cX8_groom 70 = .ok (.iload_n 1, 1) := by decide +kernel
theorem dX8_groom_71 : decode cX8_groom 71 = .ok (.iaload, 1) := by decide +kernel
theorem dX8_groom_72 : decode cX8_groom 72 = .ok (.ireturn, 1) := by decide +kernel
theorem dX8_groom_73 : decode cX8_groom 73 = .ok (.aload_n 0, 1) := by decide +kernel
theorem dX8_groom_74 : decode cX8_groom 74 = .ok (.getfield 37, 3) := by decide +kernel
theorem dX8_groom_77 : decode cX8_groom 77 = .ok (.iload_n 1, 1) := by decide +kernel
theorem dX8_groom_78 : decode cX8_groom 78 = .ok (.iaload, 1) := by decide +kernel
theorem dX8_groom_79 : decode cX8_groom 79 = .ok (.ireturn, 1) := by decide +kernel
theorem dX8_groom_80 : decode cX8_groom 80 = .ok (.aload_n 0, 1) := by decide +kernel
theorem dX8_groom_81 : decode cX8_groom 81 = .ok (.iload_n 1, 1) := by decide +kernel
theorem dX8_groom_82 : decode cX8_groom 82 = .ok (.invokevirtual 183, 3) := by decide +kernel
theorem dX8_groom_85 : decode cX8_groom 85 = .ok (.ireturn, 1) := by decide +kernel
theorem dX8_groom_86 : decode cX8_groom 86 = .ok (.aload_n 0, 1) := by decide +kernel
theorem dX8_groom_87 : decode cX8_groom 87 = .ok (.iload_n 1, 1) := by decide +kernel
theorem dX8_groom_88 : decode cX8_groom 88 = .ok (.invokevirtual 195, 3) := by decide +kernel
theorem dX8_groom_91 : decode cX8_groom 91 = .ok (.ireturn, 1) := by decide +kernel
theorem dX8_groom_92 : decode cX8_groom 92 = .ok (.aload_n 0, 1) := by decide +kernel
theorem dX8_groom_93 : decode cX8_groom 93 = .ok (.bipush (-2), 2) := by decide +kernel
theorem dX8_groom_95 : decode cX8_groom 95 = .ok (.invokevirtual 86, 3) := by decide +kernel
theorem dX8_groom_98 : decode cX8_groom 98 = .ok (.ireturn, 1) := by decide +kernel
set_option maxRecDepth 20000 in
theorem ggX8_wedding_X8_isGroom : GoodIn wsX8_wedding wsX8_isGroom := goodIn_r _ [5, 6, 72, 73, 74, 75, 76, 77, 78, 79, 80, 81, 82, 83, 84, 85, 86, 87, 88, 89, 90, 91, 92, 93, 94, 95, 96, 97, 98, 99, 100] (by decide +kernel) (by decide +kernel)
set_option maxRecDepth 20000 in
theorem gX8_wedding_X8_isGroom : GoodIn wsX8_wedding (wsV RX8 133 RX8 yX8_isGroom wsX8_isGroom) := goodIn_app (goodIn_of _ (by decide +kernel)) ggX8_wedding_X8_isGroom
set_option maxRecDepth 20000 in
theorem ggX8_wedding_X8_canWed : GoodIn wsX8_wedding wsX8_canWed := goodIn_r _ [10, 11, 12, 13, 14, 4, 15, 16, 17, 72, 73, 74, 75, 76, 77, 78, 79, 80, 81, 82, 83, 84, 85, 86, 87, 88, 89, 90, 91, 92, 93, 94, 95, 96, 97, 98, 99, 100] (by decide +kernel) (by decide +kernel)
set_option maxRecDepth 20000 in
theorem gX8_wedding_X8_canWed : GoodIn wsX8_wedding (wsV RX8 136 RX8 yX8_canWed wsX8_canWed) := goodIn_app (goodIn_of _ (by decide +kernel)) ggX8_wedding_X8_canWed
set_option maxRecDepth 20000 in
theorem ggX8_wedding_X8_no : GoodIn wsX8_wedding wsX8_no := goodIn_r _ [21, 22, 72, 73, 74, 75, 76, 77, 78, 79, 80, 81, 82, 83, 84, 85, 86, 87, 88, 89, 90, 91, 92, 93, 94, 95, 96, 97, 98, 99, 100] (by decide +kernel) (by decide +kernel)
set_option maxRecDepth 20000 in
theorem gX8_wedding_X8_no : GoodIn wsX8_wedding (wsV RX8 86 RX8 yX8_no wsX8_no) := goodIn_app (goodIn_of _ (by decide +kernel)) ggX8_wedding_X8_no
set_option maxRecDepth 20000 in
theorem ggX8_wedding_X8_weds : GoodIn wsX8_wedding wsX8_weds := goodIn_r _ [26, 27, 17, 11, 28, 29, 30, 4, 31, 32, 33, 34, 35, 36, 37, 38, 39, 40, 41, 16, 42, 43, 44, 45, 46, 47, 48, 49, 50, 51, 52, 53, 54, 55, 56, 57, 58, 59, 60, 61, 62, 63, 64, 65, 66, 67, 68, 69, 70, 71, 12, 13, 14, 15, 72, 73, 74, 75, 76, 77, 78, 79, 80, 81, 82, 83, 84, 85, 86, 87, 88, 89, 90, 91, 92, 93, 94, 95, 96, 97, 98, 99, 100] (by decide +kernel) (by decide +kernel)
set_option maxRecDepth 20000 in
theorem gX8_wedding_X8_weds : GoodIn wsX8_wedding (wsV RX8 139 RX8 yX8_weds wsX8_weds) := goodIn_app (goodIn_of _ (by decide +kernel)) ggX8_wedding_X8_weds
theorem dX8_wedding_0 : decode cX8_wedding 0 = .ok (.aload_n 0, 1) := by decide +kernel
theorem dX8_wedding_1 : decode cX8_wedding 1 = .ok (.iload_n 1, 1) := by decide +kernel
theorem dX8_wedding_2 : decode cX8_wedding 2 = .ok (.invokevirtual 133, 3) := by decide +kernel
theorem dX8_wedding_5 : decode cX8_wedding 5 = .ok (.ifCond .ne 7, 3) := by decide +kernel
theorem dX8_wedding_8 : decode cX8_wedding 8 = .ok (.iconst (-1), 1) := by decide +kernel
theorem dX8_wedding_9 : decode cX8_wedding 9 = .ok (.goto 17, 3) := by decide +kernel
theorem dX8_wedding_12 : decode cX8_wedding 12 = .ok (.aload_n 0, 1) := by decide +kernel
theorem dX8_wedding_13 : decode cX8_wedding 13 = .ok (.iload_n 1, 1) := by decide +kernel
theorem dX8_wedding_14 : decode cX8_wedding 14 = .ok (.invokevirtual 136, 3) := by decide +kernel
theorem dX8_wedding_17 : decode cX8_wedding 17 = .ok (.ifCond .ne 8, 3) := by decide +kernel
theorem dX8_wedding_20 : decode cX8_wedding 20 = .ok (.bipush (-3), 2) := by decide +kernel
theorem dX8_wedding_22 : decode cX8_wedding 22 = .ok (.goto 4, 3) := by decide +kernel
theorem dX8_wedding_25 : decode cX8_wedding 25 = .ok (.iconst 0, 1) := by decide +kernel
theorem dX8_wedding_26 : decode cX8_wedding 26 = .ok (.istore_n 2, 1) := by decide +kernel
theorem dX8_wedding_27 : decode cX8_wedding 27 = .ok (.iload_n 2, 1) := by decide +kernel
theorem dX8_wedding_28 : decode cX8_wedding 28 = .ok (.ifCond .eq 11, 3) := by decide +kernel
theorem dX8_wedding_31 : decode cX8_wedding 31 = .ok (.aload_n 0, 1) := by decide +kernel
theorem dX8_wedding_32 : decode cX8_wedding 32 = .ok (.iload_n 2, 1) := by decide +kernel
theorem dX8_wedding_33 : decode cX8_wedding 33 = .ok (.invokevirtual 86, 3) := by decide +kernel
theorem dX8_wedding_36 : decode cX8_wedding 36 = .ok (.goto 8, 3) := by decide +kernel
theorem dX8_wedding_39 : decode cX8_wedding 39 = .ok (.aload_n 0, 1) := by decide +kernel
theorem dX8_wedding_40 : decode cX8_wedding 40 = .ok (.iload_n 1, 1) := by decide +kernel
theorem dX8_wedding_41 : decode cX8_wedding 41 = .ok (.invokevirtual 139, 3) := by decide +kernel
theorem dX8_wedding_44 : decode cX8_wedding 44 = .ok (.ireturn, 1) := by decide +kernel
set_option maxRecDepth 20000 in
theorem ggX8_changes_X8_isBride : GoodIn wsX8_changes wsX8_isBride := goodIn_r _ [6, 7, 16, 17, 18, 19, 20, 21, 22, 23, 24, 25, 26, 27, 28, 29, 30, 31, 32, 33, 34, 35, 36, 37, 38, 39, 40, 41, 42, 43, 44] (by decide +kernel) (by decide +kernel)
set_option maxRecDepth 20000 in
theorem gX8_changes_X8_isBride : GoodIn wsX8_changes (wsV RX8 130 RX8 yX8_isBride wsX8_isBride) := goodIn_app (goodIn_of _ (by decide +kernel)) ggX8_changes_X8_isBride
set_option maxRecDepth 20000 in
theorem ggX8_changes_X8_isIn : GoodIn wsX8_changes wsX8_isIn := goodIn_r _ [10] (by decide +kernel) (by decide +kernel)
set_option maxRecDepth 20000 in
theorem gX8_changes_X8_isIn : GoodIn wsX8_changes (va_wsS RX8 97 yX8_isIn wsX8_isIn) := goodIn_app (goodIn_of _ (by decide +kernel)) ggX8_changes_X8_isIn
set_option maxRecDepth 20000 in
theorem ggX8_changes_X8_no : GoodIn wsX8_changes wsX8_no := goodIn_r _ [14, 15, 16, 17, 18, 19, 20, 21, 22, 23, 24, 25, 26, 27, 28, 29, 30, 31, 32, 33, 34, 35, 36, 37, 38, 39, 40, 41, 42, 43, 44] (by decide +kernel) (by decide +kernel)
set_option maxRecDepth 20000 in
theorem gX8_changes_X8_no : GoodIn wsX8_changes (wsV RX8 86 RX8 yX8_no wsX8_no) := goodIn_app (goodIn_of _ (by decide +kernel)) ggX8_changes_X8_no
theorem dX8_changes_0 : decode cX8_changes 0 = .ok (.aload_n 0, 1) := by decide +kernel
theorem dX8_changes_1 : decode cX8_changes 1 = .ok (.iload_n 1, 1) := by decide +kernel
theorem dX8_changes_2 : decode cX8_changes 2 = .ok (.invokevirtual 130, 3) := by decide +kernel
theorem dX8_changes_5 : decode cX8_changes 5 = .ok (.ifCond .eq 12, 3) := by decide +kernel
theorem dX8_changes_8 : decode cX8_changes 8 = .ok (.iload_n 2, 1) := by decide +kernel
theorem dX8_changes_9 : decode cX8_changes 9 = .ok (.iconst 0, 1) := by decide +kernel
theorem dX8_changes_10 : decode cX8_changes 10 = .ok (.iconst 5, 1) := by decide +kernel
theorem dX8_changes_11 : decode cX8_changes 11 = .ok (.invokestatic 97, 3) := by decide +kernel
theorem dX8_changes_14 : decode cX8_changes 14 = .ok (.ifCond .ne 9, 3) := by decide +kernel
theorem dX8_changes_17 : decode cX8_changes 17 = .ok (.aload_n 0, 1) := by decide +kernel
theorem dX8_changes_18 : decode cX8_changes 18 = .ok (.iconst (-1), 1) := by decide +kernel
theorem dX8_changes_19 : decode cX8_changes 19 = .ok (.invokevirtual 86, 3) := by decide +kernel
theorem dX8_changes_22 : decode cX8_changes 22 = .ok (.ireturn, 1) := by decide +kernel
theorem dX8_changes_23 : decode cX8_changes 23 = .ok (.aload_n 0, 1) := by decide +kernel
theorem dX8_changes_24 : decode cX8_changes 24 = .ok (.getfield 19, 3) := by decide +kernel
theorem dX8_changes_27 : decode cX8_changes 27 = .ok (.iload_n 1, 1) := by decide +kernel
theorem dX8_changes_28 : decode cX8_changes 28 = .ok (.dup2, 1) := by decide +kernel
theorem dX8_changes_29 : decode cX8_changes 29 = .ok (.iaload, 1) := by decide +kernel
theorem dX8_changes_30 : decode cX8_changes 30 = .ok (.iconst 1, 1) := by decide +kernel
theorem dX8_changes_31 : decode cX8_changes 31 = .ok (.iload_n 2, 1) := by decide +kernel
theorem dX8_changes_32 : decode cX8_changes 32 = .ok (.ishl, 1) := by decide +kernel
theorem dX8_changes_33 : decode cX8_changes 33 = .ok (.ixor, 1) := by decide +kernel
theorem dX8_changes_34 : decode cX8_changes 34 = .ok (.iastore, 1) := by decide +kernel
theorem dX8_changes_35 : decode cX8_changes 35 = .ok (.aload_n 0, 1) := by decide +kernel
theorem dX8_changes_36 : decode cX8_changes 36 = .ok (.getfield 19, 3) := by decide +kernel
theorem dX8_changes_39 : decode cX8_changes 39 = .ok (.iload_n 1, 1) := by decide +kernel
theorem dX8_changes_40 : decode cX8_changes 40 = .ok (.iaload, 1) := by decide +kernel
theorem dX8_changes_41 : decode cX8_changes 41 = .ok (.ireturn, 1) := by decide +kernel
set_option maxRecDepth 20000 in
theorem ggX8_looks_X8_isGroom : GoodIn wsX8_looks wsX8_isGroom := goodIn_r _ [6, 7, 16, 17, 18, 19, 20, 21, 22, 23, 24, 25, 26, 27, 28, 29, 30, 31, 32, 33, 34, 35, 36, 37, 38, 39, 40, 41, 42, 43, 44] (by decide +kernel) (by decide +kernel)
set_option maxRecDepth 20000 in
theorem gX8_looks_X8_isGroom : GoodIn wsX8_looks (wsV RX8 133 RX8 yX8_isGroom wsX8_isGroom) := goodIn_app (goodIn_of _ (by decide +kernel)) ggX8_looks_X8_isGroom
set_option maxRecDepth 20000 in
theorem ggX8_looks_X8_bound : GoodIn wsX8_looks wsX8_bound := goodIn_r _ [10] (by decide +kernel) (by decide +kernel)
set_option maxRecDepth 20000 in
theorem gX8_looks_X8_bound : GoodIn wsX8_looks (va_wsS RX8 79 yX8_bound wsX8_bound) := goodIn_app (goodIn_of _ (by decide +kernel)) ggX8_looks_X8_bound
set_option maxRecDepth 20000 in
theorem ggX8_looks_X8_no : GoodIn wsX8_looks wsX8_no := goodIn_r _ [14, 15, 16, 17, 18, 19, 20, 21, 22, 23, 24, 25, 26, 27, 28, 29, 30, 31, 32, 33, 34, 35, 36, 37, 38, 39, 40, 41, 42, 43, 44] (by decide +kernel) (by decide +kernel)
set_option maxRecDepth 20000 in
theorem gX8_looks_X8_no : GoodIn wsX8_looks (wsV RX8 86 RX8 yX8_no wsX8_no) := goodIn_app (goodIn_of _ (by decide +kernel)) ggX8_looks_X8_no
theorem dX8_looks_0 : decode cX8_looks 0 = .ok (.aload_n 0, 1) := by decide +kernel
theorem dX8_looks_1 : decode cX8_looks 1 = .ok (.iload_n 1, 1) := by decide +kernel
theorem dX8_looks_2 : decode cX8_looks 2 = .ok (.invokevirtual 133, 3) := by decide +kernel
theorem dX8_looks_5 : decode cX8_looks 5 = .ok (.ifCond .ne 7, 3) := by decide +kernel
theorem dX8_looks_8 : decode cX8_looks 8 = .ok (.iconst (-1), 1) := by decide +kernel
theorem dX8_looks_9 : decode cX8_looks 9 = .ok (.goto 10, 3) := by decide +kernel
theorem dX8_looks_12 : decode cX8_looks 12 = .ok (.iload_n 2, 1) := by decide +kernel
theorem dX8_looks_13 : decode cX8_looks 13 = .ok (.iconst 0, 1) := by decide +kernel
theorem dX8_looks_14 : decode cX8_looks 14 = .ok (.bipush 63, 2) := by decide +kernel
theorem dX8_looks_16 : decode cX8_looks 16 = .ok (.invokestatic 79, 3) := by decide +kernel
theorem dX8_looks_19 : decode cX8_looks 19 = .ok (.istore_n 3, 1) := by decide +kernel
theorem dX8_looks_20 : decode cX8_looks 20 = .ok (.iload_n 3, 1) := by decide +kernel
theorem dX8_looks_21 : decode cX8_looks 21 = .ok (.ifCond .eq 9, 3) := by decide +kernel
theorem dX8_looks_24 : decode cX8_looks 24 = .ok (.aload_n 0, 1) := by decide +kernel
theorem dX8_looks_25 : decode cX8_looks 25 = .ok (.iload_n 3, 1) := by decide +kernel
theorem dX8_looks_26 : decode cX8_looks 26 = .ok (.invokevirtual 86, 3) := by decide +kernel
theorem dX8_looks_29 : decode cX8_looks 29 = .ok (.ireturn, 1) := by decide +kernel
theorem dX8_looks_30 : decode cX8_looks 30 = .ok (.aload_n 0, 1) := by decide +kernel
theorem dX8_looks_31 : decode cX8_looks 31 = .ok (.getfield 28, 3) := by decide +kernel
theorem dX8_looks_34 : decode cX8_looks 34 = .ok (.iload_n 1, 1) := by decide +kernel
theorem dX8_looks_35 : decode cX8_looks 35 = .ok (.iaload, 1) := by decide +kernel
theorem dX8_looks_36 : decode cX8_looks 36 = .ok (.istore 4, 2) := by decide +kernel
theorem dX8_looks_38 : decode cX8_looks 38 = .ok (.aload_n 0, 1) := by decide +kernel
theorem dX8_looks_39 : decode cX8_looks 39 = .ok (.getfield 28, 3) := by decide +kernel
theorem dX8_looks_42 : decode cX8_looks 42 = .ok (.iload_n 1, 1) := by decide +kernel
theorem dX8_looks_43 : decode cX8_looks 43 = .ok (.iload_n 2, 1) := by decide +kernel
theorem dX8_looks_44 : decode cX8_looks 44 = .ok (.iastore, 1) := by decide +kernel
theorem dX8_looks_45 : decode cX8_looks 45 = .ok (.iload 4, 2) := by decide +kernel
theorem dX8_looks_47 : decode cX8_looks 47 = .ok (.ireturn, 1) := by decide +kernel
set_option maxRecDepth 20000 in
theorem ggX8_minds_X8_isGroom : GoodIn wsX8_minds wsX8_isGroom := goodIn_r _ [6, 7, 16, 17, 18, 19, 20, 21, 22, 23, 24, 25, 26, 27, 28, 29, 30, 31, 32, 33, 34, 35, 36, 37, 38, 39, 40, 41, 42, 43, 44] (by decide +kernel) (by decide +kernel)
set_option maxRecDepth 20000 in
theorem gX8_minds_X8_isGroom : GoodIn wsX8_minds (wsV RX8 133 RX8 yX8_isGroom wsX8_isGroom) := goodIn_app (goodIn_of _ (by decide +kernel)) ggX8_minds_X8_isGroom
set_option maxRecDepth 20000 in
theorem ggX8_minds_X8_bound : GoodIn wsX8_minds wsX8_bound := goodIn_r _ [10] (by decide +kernel) (by decide +kernel)
set_option maxRecDepth 20000 in
theorem gX8_minds_X8_bound : GoodIn wsX8_minds (va_wsS RX8 79 yX8_bound wsX8_bound) := goodIn_app (goodIn_of _ (by decide +kernel)) ggX8_minds_X8_bound
set_option maxRecDepth 20000 in
theorem ggX8_minds_X8_no : GoodIn wsX8_minds wsX8_no := goodIn_r _ [14, 15, 16, 17, 18, 19, 20, 21, 22, 23, 24, 25, 26, 27, 28, 29, 30, 31, 32, 33, 34, 35, 36, 37, 38, 39, 40, 41, 42, 43, 44] (by decide +kernel) (by decide +kernel)
set_option maxRecDepth 20000 in
theorem gX8_minds_X8_no : GoodIn wsX8_minds (wsV RX8 86 RX8 yX8_no wsX8_no) := goodIn_app (goodIn_of _ (by decide +kernel)) ggX8_minds_X8_no
theorem dX8_minds_0 : decode cX8_minds 0 = .ok (.aload_n 0, 1) := by decide +kernel
theorem dX8_minds_1 : decode cX8_minds 1 = .ok (.iload_n 1, 1) := by decide +kernel
theorem dX8_minds_2 : decode cX8_minds 2 = .ok (.invokevirtual 133, 3) := by decide +kernel
theorem dX8_minds_5 : decode cX8_minds 5 = .ok (.ifCond .ne 7, 3) := by decide +kernel
theorem dX8_minds_8 : decode cX8_minds 8 = .ok (.iconst (-1), 1) := by decide +kernel
theorem dX8_minds_9 : decode cX8_minds 9 = .ok (.goto 10, 3) := by decide +kernel
theorem dX8_minds_12 : decode cX8_minds 12 = .ok (.iload_n 2, 1) := by decide +kernel
theorem dX8_minds_13 : decode cX8_minds 13 = .ok (.iconst 0, 1) := by decide +kernel
theorem dX8_minds_14 : decode cX8_minds 14 = .ok (.bipush 63, 2) := by decide +kernel
theorem dX8_minds_16 : decode cX8_minds 16 = .ok (.invokestatic 79, 3) := by decide +kernel
theorem dX8_minds_19 : decode cX8_minds 19 = .ok (.istore_n 3, 1) := by decide +kernel
theorem dX8_minds_20 : decode cX8_minds 20 = .ok (.iload_n 3, 1) := by decide +kernel
theorem dX8_minds_21 : decode cX8_minds 21 = .ok (.ifCond .eq 9, 3) := by decide +kernel
theorem dX8_minds_24 : decode cX8_minds 24 = .ok (.aload_n 0, 1) := by decide +kernel
theorem dX8_minds_25 : decode cX8_minds 25 = .ok (.iload_n 3, 1) := by decide +kernel
theorem dX8_minds_26 : decode cX8_minds 26 = .ok (.invokevirtual 86, 3) := by decide +kernel
theorem dX8_minds_29 : decode cX8_minds 29 = .ok (.ireturn, 1) := by decide +kernel
theorem dX8_minds_30 : decode cX8_minds 30 = .ok (.aload_n 0, 1) := by decide +kernel
theorem dX8_minds_31 : decode cX8_minds 31 = .ok (.getfield 31, 3) := by decide +kernel
theorem dX8_minds_34 : decode cX8_minds 34 = .ok (.iload_n 1, 1) := by decide +kernel
theorem dX8_minds_35 : decode cX8_minds 35 = .ok (.iaload, 1) := by decide +kernel
theorem dX8_minds_36 : decode cX8_minds 36 = .ok (.istore 4, 2) := by decide +kernel
theorem dX8_minds_38 : decode cX8_minds 38 = .ok (.aload_n 0, 1) := by decide +kernel
theorem dX8_minds_39 : decode cX8_minds 39 = .ok (.getfield 31, 3) := by decide +kernel
theorem dX8_minds_42 : decode cX8_minds 42 = .ok (.iload_n 1, 1) := by decide +kernel
theorem dX8_minds_43 : decode cX8_minds 43 = .ok (.iload_n 2, 1) := by decide +kernel
theorem dX8_minds_44 : decode cX8_minds 44 = .ok (.iastore, 1) := by decide +kernel
theorem dX8_minds_45 : decode cX8_minds 45 = .ok (.iload 4, 2) := by decide +kernel
theorem dX8_minds_47 : decode cX8_minds 47 = .ok (.ireturn, 1) := by decide +kernel
set_option maxRecDepth 20000 in
theorem ggX8_drinks_X8_isGroom : GoodIn wsX8_drinks wsX8_isGroom := goodIn_r _ [6, 7, 16, 17, 18, 19, 20, 21, 22, 23, 24, 25, 26, 27, 28, 29, 30, 31, 32, 33, 34, 35, 36, 37, 38, 39, 40, 41, 42, 43, 44] (by decide +kernel) (by decide +kernel)
set_option maxRecDepth 20000 in
theorem gX8_drinks_X8_isGroom : GoodIn wsX8_drinks (wsV RX8 133 RX8 yX8_isGroom wsX8_isGroom) := goodIn_app (goodIn_of _ (by decide +kernel)) ggX8_drinks_X8_isGroom
set_option maxRecDepth 20000 in
theorem ggX8_drinks_X8_bound : GoodIn wsX8_drinks wsX8_bound := goodIn_r _ [10] (by decide +kernel) (by decide +kernel)
set_option maxRecDepth 20000 in
theorem gX8_drinks_X8_bound : GoodIn wsX8_drinks (va_wsS RX8 79 yX8_bound wsX8_bound) := goodIn_app (goodIn_of _ (by decide +kernel)) ggX8_drinks_X8_bound
set_option maxRecDepth 20000 in
theorem ggX8_drinks_X8_no : GoodIn wsX8_drinks wsX8_no := goodIn_r _ [14, 15, 16, 17, 18, 19, 20, 21, 22, 23, 24, 25, 26, 27, 28, 29, 30, 31, 32, 33, 34, 35, 36, 37, 38, 39, 40, 41, 42, 43, 44] (by decide +kernel) (by decide +kernel)
set_option maxRecDepth 20000 in
theorem gX8_drinks_X8_no : GoodIn wsX8_drinks (wsV RX8 86 RX8 yX8_no wsX8_no) := goodIn_app (goodIn_of _ (by decide +kernel)) ggX8_drinks_X8_no
theorem dX8_drinks_0 : decode cX8_drinks 0 = .ok (.aload_n 0, 1) := by decide +kernel
theorem dX8_drinks_1 : decode cX8_drinks 1 = .ok (.iload_n 1, 1) := by decide +kernel
theorem dX8_drinks_2 : decode cX8_drinks 2 = .ok (.invokevirtual 133, 3) := by decide +kernel
theorem dX8_drinks_5 : decode cX8_drinks 5 = .ok (.ifCond .ne 7, 3) := by decide +kernel
theorem dX8_drinks_8 : decode cX8_drinks 8 = .ok (.iconst (-1), 1) := by decide +kernel
theorem dX8_drinks_9 : decode cX8_drinks 9 = .ok (.goto 10, 3) := by decide +kernel
theorem dX8_drinks_12 : decode cX8_drinks 12 = .ok (.iload_n 2, 1) := by decide +kernel
theorem dX8_drinks_13 : decode cX8_drinks 13 = .ok (.iconst 0, 1) := by decide +kernel
theorem dX8_drinks_14 : decode cX8_drinks 14 = .ok (.bipush 9, 2) := by decide +kernel
theorem dX8_drinks_16 : decode cX8_drinks 16 = .ok (.invokestatic 79, 3) := by decide +kernel
theorem dX8_drinks_19 : decode cX8_drinks 19 = .ok (.istore_n 3, 1) := by decide +kernel
theorem dX8_drinks_20 : decode cX8_drinks 20 = .ok (.iload_n 3, 1) := by decide +kernel
theorem dX8_drinks_21 : decode cX8_drinks 21 = .ok (.ifCond .eq 9, 3) := by decide +kernel
theorem dX8_drinks_24 : decode cX8_drinks 24 = .ok (.aload_n 0, 1) := by decide +kernel
theorem dX8_drinks_25 : decode cX8_drinks 25 = .ok (.iload_n 3, 1) := by decide +kernel
theorem dX8_drinks_26 : decode cX8_drinks 26 = .ok (.invokevirtual 86, 3) := by decide +kernel
theorem dX8_drinks_29 : decode cX8_drinks 29 = .ok (.ireturn, 1) := by decide +kernel
theorem dX8_drinks_30 : decode cX8_drinks 30 = .ok (.aload_n 0, 1) := by decide +kernel
theorem dX8_drinks_31 : decode cX8_drinks 31 = .ok (.getfield 34, 3) := by decide +kernel
theorem dX8_drinks_34 : decode cX8_drinks 34 = .ok (.iload_n 1, 1) := by decide +kernel
theorem dX8_drinks_35 : decode cX8_drinks 35 = .ok (.iaload, 1) := by decide +kernel
theorem dX8_drinks_36 : decode cX8_drinks 36 = .ok (.istore 4, 2) := by decide +kernel
theorem dX8_drinks_38 : decode cX8_drinks 38 = .ok (.aload_n 0, 1) := by decide +kernel
theorem dX8_drinks_39 : decode cX8_drinks 39 = .ok (.getfield 34, 3) := by decide +kernel
theorem dX8_drinks_42 : decode cX8_drinks 42 = .ok (.iload_n 1, 1) := by decide +kernel
theorem dX8_drinks_43 : decode cX8_drinks 43 = .ok (.iload_n 2, 1) := by decide +kernel
theorem dX8_drinks_44 : decode cX8_drinks 44 = .ok (.iastore, 1) := by decide +kernel
theorem dX8_drinks_45 : decode cX8_drinks 45 = .ok (.iload 4, 2) := by decide +kernel
theorem dX8_drinks_47 : decode cX8_drinks 47 = .ok (.ireturn, 1) := by decide +kernel
set_option maxRecDepth 20000 in
theorem ggX8_turn_X8_isBride : GoodIn wsX8_turn wsX8_isBride := goodIn_r _ [7, 8, 20, 21, 22, 23, 24, 25, 26, 27, 28, 29, 30, 31, 32, 33, 34, 35, 36, 37, 38, 39, 40, 41, 42, 43, 44, 45, 46, 47, 48] (by decide +kernel) (by decide +kernel)
set_option maxRecDepth 20000 in
theorem gX8_turn_X8_isBride : GoodIn wsX8_turn (wsV RX8 130 RX8 yX8_isBride wsX8_isBride) := goodIn_app (goodIn_of _ (by decide +kernel)) ggX8_turn_X8_isBride
set_option maxRecDepth 20000 in
theorem ggX8_turn_X8_isIn : GoodIn wsX8_turn wsX8_isIn := goodIn_r _ [11] (by decide +kernel) (by decide +kernel)
set_option maxRecDepth 20000 in
theorem gX8_turn_X8_isIn : GoodIn wsX8_turn (va_wsS RX8 97 yX8_isIn wsX8_isIn) := goodIn_app (goodIn_of _ (by decide +kernel)) ggX8_turn_X8_isIn
set_option maxRecDepth 20000 in
theorem ggX8_turn_X8_bound : GoodIn wsX8_turn wsX8_bound := goodIn_r _ [14] (by decide +kernel) (by decide +kernel)
set_option maxRecDepth 20000 in
theorem gX8_turn_X8_bound : GoodIn wsX8_turn (va_wsS RX8 79 yX8_bound wsX8_bound) := goodIn_app (goodIn_of _ (by decide +kernel)) ggX8_turn_X8_bound
set_option maxRecDepth 20000 in
theorem ggX8_turn_X8_no : GoodIn wsX8_turn wsX8_no := goodIn_r _ [18, 19, 20, 21, 22, 23, 24, 25, 26, 27, 28, 29, 30, 31, 32, 33, 34, 35, 36, 37, 38, 39, 40, 41, 42, 43, 44, 45, 46, 47, 48] (by decide +kernel) (by decide +kernel)
set_option maxRecDepth 20000 in
theorem gX8_turn_X8_no : GoodIn wsX8_turn (wsV RX8 86 RX8 yX8_no wsX8_no) := goodIn_app (goodIn_of _ (by decide +kernel)) ggX8_turn_X8_no
theorem dX8_turn_0 : decode cX8_turn 0 = .ok (.aload_n 0, 1) := by decide +kernel
theorem dX8_turn_1 : decode cX8_turn 1 = .ok (.iload_n 1, 1) := by decide +kernel
theorem dX8_turn_2 : decode cX8_turn 2 = .ok (.invokevirtual 130, 3) := by decide +kernel
theorem dX8_turn_5 : decode cX8_turn 5 = .ok (.ifCond .ne 7, 3) := by decide +kernel
theorem dX8_turn_8 : decode cX8_turn 8 = .ok (.iconst (-1), 1) := by decide +kernel
theorem dX8_turn_9 : decode cX8_turn 9 = .ok (.goto 24, 3) := by decide +kernel
theorem dX8_turn_12 : decode cX8_turn 12 = .ok (.iload_n 2, 1) := by decide +kernel
theorem dX8_turn_13 : decode cX8_turn 13 = .ok (.iconst 0, 1) := by decide +kernel
theorem dX8_turn_14 : decode cX8_turn 14 = .ok (.iconst 5, 1) := by decide +kernel
theorem dX8_turn_15 : decode cX8_turn 15 = .ok (.invokestatic 97, 3) := by decide +kernel
theorem dX8_turn_18 : decode cX8_turn 18 = .ok (.ifCond .ne 8, 3) := by decide +kernel
theorem dX8_turn_21 : decode cX8_turn 21 = .ok (.bipush (-2), 2) := by decide +kernel
theorem dX8_turn_23 : decode cX8_turn 23 = .ok (.goto 10, 3) := by decide +kernel
theorem dX8_turn_26 : decode cX8_turn 26 = .ok (.iload_n 3, 1) := by decide +kernel
theorem dX8_turn_27 : decode cX8_turn 27 = .ok (.iconst 0, 1) := by decide +kernel
theorem dX8_turn_28 : decode cX8_turn 28 = .ok (.bipush 9, 2) := by decide +kernel
theorem dX8_turn_30 : decode cX8_turn 30 = .ok (.invokestatic 79, 3) := by decide +kernel
theorem dX8_turn_33 : decode cX8_turn 33 = .ok (.istore 4, 2) := by decide +kernel
theorem dX8_turn_35 : decode cX8_turn 35 = .ok (.iload 4, 2) := by decide +kernel
theorem dX8_turn_37 : decode cX8_turn 37 = .ok (.ifCond .eq 10, 3) := by decide +kernel
theorem dX8_turn_40 : decode cX8_turn 40 = .ok (.aload_n 0, 1) := by decide +kernel
theorem dX8_turn_41 : decode cX8_turn 41 = .ok (.iload 4, 2) := by decide +kernel
theorem dX8_turn_43 : decode cX8_turn 43 = .ok (.invokevirtual 86, 3) := by decide +kernel
theorem dX8_turn_46 : decode cX8_turn 46 = .ok (.ireturn, 1) := by decide +kernel
theorem dX8_turn_47 : decode cX8_turn 47 = .ok (.bipush 10, 2) := by decide +kernel
theorem dX8_turn_49 : decode cX8_turn 49 = .ok (.aload_n 0, 1) := by decide +kernel
theorem dX8_turn_50 : decode cX8_turn 50 = .ok (.getfield 13, 3) := by decide +kernel
theorem dX8_turn_53 : decode cX8_turn 53 = .ok (.iload_n 1, 1) := by decide +kernel
theorem dX8_turn_54 : decode cX8_turn 54 = .ok (.iaload, 1) := by decide +kernel
theorem dX8_turn_55 : decode cX8_turn 55 = .ok (.imul, 1) := by decide +kernel
theorem dX8_turn_56 : decode cX8_turn 56 = .ok (.aload_n 0, 1) := by decide +kernel
theorem dX8_turn_57 : decode cX8_turn 57 = .ok (.getfield 16, 3) := by decide +kernel
theorem dX8_turn_60 : decode cX8_turn 60 = .ok (.iload_n 1, 1) := by decide +kernel
theorem dX8_turn_61 : decode cX8_turn 61 = .ok (.iaload, 1) := by decide +kernel
theorem dX8_turn_62 : decode cX8_turn 62 = .ok (.iadd, 1) := by decide +kernel
theorem dX8_turn_63 : decode cX8_turn 63 = .ok (.istore 5, 2) := by decide +kernel
theorem dX8_turn_65 : decode cX8_turn 65 = .ok (.aload_n 0, 1) := by decide +kernel
theorem dX8_turn_66 : decode cX8_turn 66 = .ok (.getfield 13, 3) := by decide +kernel
theorem dX8_turn_69 : decode cX8_turn 69 = .ok (.iload_n 1, 1) := by decide +kernel
theorem dX8_turn_70 : decode cX8_turn 70 = .ok (.iload_n 2, 1) := by decide +kernel
theorem dX8_turn_71 : decode cX8_turn 71 = .ok (.iastore, 1) := by decide +kernel
theorem dX8_turn_72 : decode cX8_turn 72 = .ok (.aload_n 0, 1) := by decide +kernel
theorem dX8_turn_73 : decode cX8_turn 73 = .ok (.getfield 16, 3) := by decide +kernel
theorem dX8_turn_76 : decode cX8_turn 76 = .ok (.iload_n 1, 1) := by decide +kernel
theorem dX8_turn_77 : decode cX8_turn 77 = .ok (.iload_n 3, 1) := by decide +kernel
theorem dX8_turn_78 : decode cX8_turn 78 = .ok (.iastore, 1) := by decide +kernel
theorem dX8_turn_79 : decode cX8_turn 79 = .ok (.iload 5, 2) := by decide +kernel
theorem dX8_turn_81 : decode cX8_turn 81 = .ok (.ireturn, 1) := by decide +kernel
set_option maxRecDepth 20000 in
theorem ggX8_years_X8_bound : GoodIn wsX8_years wsX8_bound := goodIn_r _ [5] (by decide +kernel) (by decide +kernel)
set_option maxRecDepth 20000 in
theorem gX8_years_X8_bound : GoodIn wsX8_years (va_wsS RX8 79 yX8_bound wsX8_bound) := goodIn_app (goodIn_of _ (by decide +kernel)) ggX8_years_X8_bound
set_option maxRecDepth 20000 in
theorem ggX8_years_X8_no : GoodIn wsX8_years wsX8_no := goodIn_r _ [9, 10, 31, 32, 33, 34, 35, 36, 37, 38, 39, 40, 41, 42, 43, 44, 45, 46, 47, 48, 49, 50, 51, 52, 53, 54, 55, 56, 57, 58, 59] (by decide +kernel) (by decide +kernel)
set_option maxRecDepth 20000 in
theorem gX8_years_X8_no : GoodIn wsX8_years (wsV RX8 86 RX8 yX8_no wsX8_no) := goodIn_app (goodIn_of _ (by decide +kernel)) ggX8_years_X8_no
set_option maxRecDepth 20000 in
theorem ggX8_years_X8_goes : GoodIn wsX8_years wsX8_goes := goodIn_r _ [14, 15, 16, 17, 4, 18, 1, 19, 20, 21, 22, 23, 31, 32, 33, 34, 35, 36, 37, 38, 39, 40, 41, 42, 43, 44, 45, 46, 47, 48, 49, 50, 51, 52, 53, 54, 55, 56, 57, 58, 59] (by decide +kernel) (by decide +kernel)
set_option maxRecDepth 20000 in
theorem gX8_years_X8_goes : GoodIn wsX8_years (wsV RX8 120 RX8 yX8_goes wsX8_goes) := goodIn_app (goodIn_of _ (by decide +kernel)) ggX8_years_X8_goes
set_option maxRecDepth 20000 in
theorem ggX8_years_X8_here : GoodIn wsX8_years wsX8_here := goodIn_r _ [27, 19, 20, 31, 32, 33, 34, 35, 36, 37, 38, 39, 40, 41, 42, 43, 44, 45, 46, 47, 48, 49, 50, 51, 52, 53, 54, 55, 56, 57, 58, 59] (by decide +kernel) (by decide +kernel)
set_option maxRecDepth 20000 in
theorem gX8_years_X8_here : GoodIn wsX8_years (wsV RX8 192 RX8 yX8_here wsX8_here) := goodIn_app (goodIn_of _ (by decide +kernel)) ggX8_years_X8_here
set_option maxRecDepth 20000 in
theorem ggX8_years_X8_bits : GoodIn wsX8_years wsX8_bits := goodIn_r _ [30] (by decide +kernel) (by decide +kernel)
set_option maxRecDepth 20000 in
theorem gX8_years_X8_bits : GoodIn wsX8_years (va_wsS RX8 186 yX8_bits wsX8_bits) := goodIn_app (goodIn_of _ (by decide +kernel)) ggX8_years_X8_bits
theorem dX8_years_0 : decode cX8_years 0 = .ok (.iload_n 1, 1) := by decide +kernel
theorem dX8_years_1 : decode cX8_years 1 = .ok (.iconst 1, 1) := by decide +kernel
theorem dX8_years_2 : decode cX8_years 2 = .ok (.bipush 60, 2) := by decide +kernel
theorem dX8_years_4 : decode cX8_years 4 = .ok (.invokestatic 79, 3) := by decide +kernel
theorem dX8_years_7 : decode cX8_years 7 = .ok (.istore_n 2, 1) := by decide +kernel
theorem dX8_years_8 : decode cX8_years 8 = .ok (.iload_n 2, 1) := by decide +kernel
theorem dX8_years_9 : decode cX8_years 9 = .ok (.ifCond .ne 18, 3) := by decide +kernel
theorem dX8_years_12 : decode cX8_years 12 = .ok (.aload_n 0, 1) := by decide +kernel
theorem dX8_years_13 : decode cX8_years 13 = .ok (.getfield 117, 3) := by decide +kernel
theorem dX8_years_16 : decode cX8_years 16 = .ok (.iload_n 1, 1) := by decide +kernel
theorem dX8_years_17 : decode cX8_years 17 = .ok (.iadd, 1) := by decide +kernel
theorem dX8_years_18 : decode cX8_years 18 = .ok (.sipush 999, 3) := by decide +kernel
theorem dX8_years_21 : decode cX8_years 21 = .ok (.if_icmp .le 6, 3) := by decide +kernel
theorem dX8_years_24 : decode cX8_years 24 = .ok (.bipush (-6), 2) := by decide +kernel
theorem dX8_years_26 : decode cX8_years 26 = .ok (.istore_n 2, 1) := by decide +kernel
theorem dX8_years_27 : decode cX8_years 27 = .ok (.iload_n 2, 1) := by decide +kernel
theorem dX8_years_28 : decode cX8_years 28 = .ok (.ifCond .eq 9, 3) := by decide +kernel
theorem dX8_years_31 : decode cX8_years 31 = .ok (.aload_n 0, 1) := by decide +kernel
theorem dX8_years_32 : decode cX8_years 32 = .ok (.iload_n 2, 1) := by decide +kernel
theorem dX8_years_33 : decode cX8_years 33 = .ok (.invokevirtual 86, 3) := by decide +kernel
theorem dX8_years_36 : decode cX8_years 36 = .ok (.ireturn, 1) := by decide +kernel
theorem dX8_years_37 : decode cX8_years 37 = .ok (.aload_n 0, 1) := by decide +kernel
theorem dX8_years_38 : decode cX8_years 38 = .ok (.iload_n 1, 1) := by decide +kernel
theorem dX8_years_39 : decode cX8_years 39 = .ok (.invokevirtual 120, 3) := by decide +kernel
theorem dX8_years_42 : decode cX8_years 42 = .ok (.aload_n 0, 1) := by decide +kernel
theorem dX8_years_43 : decode cX8_years 43 = .ok (.invokevirtual 192, 3) := by decide +kernel
theorem dX8_years_46 : decode cX8_years 46 = .ok (.invokestatic 186, 3) := by decide +kernel
theorem dX8_years_49 : decode cX8_years 49 = .ok (.ireturn, 1) := by decide +kernel
set_option maxRecDepth 20000 in
theorem ggX8_showsThen_X8_isBride : GoodIn wsX8_showsThen wsX8_isBride := goodIn_r _ [5, 6, 65, 66, 67, 68, 69, 70, 71, 72, 73, 74, 75, 76, 77, 78, 79, 80, 81, 82, 83, 84, 85, 86, 87, 88, 89, 90, 91, 92, 93] (by decide +kernel) (by decide +kernel)
set_option maxRecDepth 20000 in
theorem gX8_showsThen_X8_isBride : GoodIn wsX8_showsThen (wsV RX8 130 RX8 yX8_isBride wsX8_isBride) := goodIn_app (goodIn_of _ (by decide +kernel)) ggX8_showsThen_X8_isBride
set_option maxRecDepth 20000 in
theorem ggX8_showsThen_X8_bound : GoodIn wsX8_showsThen wsX8_bound := goodIn_r _ [9] (by decide +kernel) (by decide +kernel)
set_option maxRecDepth 20000 in
theorem gX8_showsThen_X8_bound : GoodIn wsX8_showsThen (va_wsS RX8 79 yX8_bound wsX8_bound) := goodIn_app (goodIn_of _ (by decide +kernel)) ggX8_showsThen_X8_bound
set_option maxRecDepth 20000 in
theorem ggX8_showsThen_X8_no : GoodIn wsX8_showsThen wsX8_no := goodIn_r _ [13, 14, 65, 66, 67, 68, 69, 70, 71, 72, 73, 74, 75, 76, 77, 78, 79, 80, 81, 82, 83, 84, 85, 86, 87, 88, 89, 90, 91, 92, 93] (by decide +kernel) (by decide +kernel)
set_option maxRecDepth 20000 in
theorem gX8_showsThen_X8_no : GoodIn wsX8_showsThen (wsV RX8 86 RX8 yX8_no wsX8_no) := goodIn_app (goodIn_of _ (by decide +kernel)) ggX8_showsThen_X8_no
set_option maxRecDepth 20000 in
theorem ggX8_showsThen_X8_thinks : GoodIn wsX8_showsThen wsX8_thinks := goodIn_r _ [18, 19, 20, 21, 4, 22, 23, 24, 25, 26, 27, 28, 29, 30, 31, 32, 33, 6, 34, 35, 36, 37, 38, 39, 40, 41, 42, 43, 44, 65, 66, 67, 68, 69, 70, 71, 72, 73, 74, 75, 76, 77, 78, 79, 80, 81, 82, 83, 84, 85, 86, 87, 88, 89, 90, 91, 92, 93] (by decide +kernel) (by decide +kernel)
set_option maxRecDepth 20000 in
theorem gX8_showsThen_X8_thinks : GoodIn wsX8_showsThen (wsV RX8 208 RX8 yX8_thinks wsX8_thinks) := goodIn_app (goodIn_of _ (by decide +kernel)) ggX8_showsThen_X8_thinks
set_option maxRecDepth 20000 in
theorem ggX8_showsThen_X8_goes : GoodIn wsX8_showsThen wsX8_goes := goodIn_r _ [48, 49, 50, 51, 4, 52, 35, 6, 28, 29, 34, 32, 65, 66, 67, 68, 69, 70, 71, 72, 73, 74, 75, 76, 77, 78, 79, 80, 81, 82, 83, 84, 85, 86, 87, 88, 89, 90, 91, 92, 93] (by decide +kernel) (by decide +kernel)
set_option maxRecDepth 20000 in
theorem gX8_showsThen_X8_goes : GoodIn wsX8_showsThen (wsV RX8 120 RX8 yX8_goes wsX8_goes) := goodIn_app (goodIn_of _ (by decide +kernel)) ggX8_showsThen_X8_goes
set_option maxRecDepth 20000 in
theorem ggX8_showsThen_X8_showsOf : GoodIn wsX8_showsThen wsX8_showsOf := goodIn_r _ [56, 27, 26, 35, 25, 57, 58, 59, 4, 60, 65, 66, 67, 68, 69, 70, 71, 72, 73, 74, 75, 76, 77, 78, 79, 80, 81, 82, 83, 84, 85, 86, 87, 88, 89, 90, 91, 92, 93] (by decide +kernel) (by decide +kernel)
set_option maxRecDepth 20000 in
theorem gX8_showsThen_X8_showsOf : GoodIn wsX8_showsThen (wsV RX8 176 RX8 yX8_showsOf wsX8_showsOf) := goodIn_app (goodIn_of _ (by decide +kernel)) ggX8_showsThen_X8_showsOf
set_option maxRecDepth 20000 in
theorem ggX8_showsThen_X8_forgets : GoodIn wsX8_showsThen wsX8_forgets := goodIn_r _ [64, 19, 20, 21, 4, 22, 23, 24, 25, 26, 27, 28, 29, 30, 31, 32, 33, 6, 34, 35, 36, 37, 38, 39, 40, 41, 42, 43, 44, 65, 66, 67, 68, 69, 70, 71, 72, 73, 74, 75, 76, 77, 78, 79, 80, 81, 82, 83, 84, 85, 86, 87, 88, 89, 90, 91, 92, 93] (by decide +kernel) (by decide +kernel)
set_option maxRecDepth 20000 in
theorem gX8_showsThen_X8_forgets : GoodIn wsX8_showsThen (wsV RX8 211 RX8 yX8_forgets wsX8_forgets) := goodIn_app (goodIn_of _ (by decide +kernel)) ggX8_showsThen_X8_forgets
theorem dX8_showsThen_0 : decode cX8_showsThen 0 = .ok (.aload_n 0, 1) := by decide +kernel
theorem dX8_showsThen_1 : decode cX8_showsThen 1 = .ok (.iload_n 1, 1) := by decide +kernel
theorem dX8_showsThen_2 : decode cX8_showsThen 2 = .ok (.invokevirtual 130, 3) := by decide +kernel
theorem dX8_showsThen_5 : decode cX8_showsThen 5 = .ok (.ifCond .ne 7, 3) := by decide +kernel
theorem dX8_showsThen_8 : decode cX8_showsThen 8 = .ok (.iconst (-1), 1) := by decide +kernel
theorem dX8_showsThen_9 : decode cX8_showsThen 9 = .ok (.goto 10, 3) := by decide +kernel
theorem dX8_showsThen_12 : decode cX8_showsThen 12 = .ok (.iload_n 2, 1) := by decide +kernel
theorem dX8_showsThen_13 : decode cX8_showsThen 13 = .ok (.iconst 0, 1) := by decide +kernel
theorem dX8_showsThen_14 : decode cX8_showsThen 14 = .ok (.bipush 60, 2) := by decide +kernel
theorem dX8_showsThen_16 : decode cX8_showsThen 16 = .ok (.invokestatic 79, 3) := by decide +kernel
theorem dX8_showsThen_19 : decode cX8_showsThen 19 = .ok (.istore_n 3, 1) := by decide +kernel
theorem dX8_showsThen_20 : decode cX8_showsThen 20 = .ok (.iload_n 3, 1) := by decide +kernel
theorem dX8_showsThen_21 : decode cX8_showsThen 21 = .ok (.ifCond .eq 9, 3) := by decide +kernel
theorem dX8_showsThen_24 : decode cX8_showsThen 24 = .ok (.aload_n 0, 1) := by decide +kernel
theorem dX8_showsThen_25 : decode cX8_showsThen 25 = .ok (.iload_n 3, 1) := by decide +kernel
theorem dX8_showsThen_26 : decode cX8_showsThen 26 = .ok (.invokevirtual 86, 3) := by decide +kernel
theorem dX8_showsThen_29 : decode cX8_showsThen 29 = .ok (.ireturn, 1) := by decide +kernel
theorem dX8_showsThen_30 : decode cX8_showsThen 30 = .ok (.aload_n 0, 1) := by decide +kernel
theorem dX8_showsThen_31 : decode cX8_showsThen 31 = .ok (.invokevirtual 208, 3) := by decide +kernel
theorem dX8_showsThen_34 : decode cX8_showsThen 34 = .ok (.aload_n 0, 1) := by decide +kernel
theorem dX8_showsThen_35 : decode cX8_showsThen 35 = .ok (.iload_n 2, 1) := by decide +kernel
theorem dX8_showsThen_36 : decode cX8_showsThen 36 = .ok (.invokevirtual 120, 3) := by decide +kernel
theorem dX8_showsThen_39 : decode cX8_showsThen 39 = .ok (.aload_n 0, 1) := by decide +kernel
theorem dX8_showsThen_40 : decode cX8_showsThen 40 = .ok (.iload_n 1, 1) := by decide +kernel
theorem dX8_showsThen_41 : decode cX8_showsThen 41 = .ok (.invokevirtual 176, 3) := by decide +kernel
theorem dX8_showsThen_44 : decode cX8_showsThen 44 = .ok (.istore 4, 2) := by decide +kernel
theorem dX8_showsThen_46 : decode cX8_showsThen 46 = .ok (.aload_n 0, 1) := by decide +kernel
theorem dX8_showsThen_47 : decode cX8_showsThen 47 = .ok (.invokevirtual 211, 3) := by decide +kernel
theorem dX8_showsThen_50 : decode cX8_showsThen 50 = .ok (.iload 4, 2) := by decide +kernel
theorem dX8_showsThen_52 : decode cX8_showsThen 52 = .ok (.ireturn, 1) := by decide +kernel
set_option maxRecDepth 20000 in
theorem ggX8_groomThen_X8_isGroom : GoodIn wsX8_groomThen wsX8_isGroom := goodIn_r _ [5, 6, 89, 90, 91, 92, 93, 94, 95, 96, 97, 98, 99, 100, 101, 102, 103, 104, 105, 106, 107, 108, 109, 110, 111, 112, 113, 114, 115, 116, 117] (by decide +kernel) (by decide +kernel)
set_option maxRecDepth 20000 in
theorem gX8_groomThen_X8_isGroom : GoodIn wsX8_groomThen (wsV RX8 133 RX8 yX8_isGroom wsX8_isGroom) := goodIn_app (goodIn_of _ (by decide +kernel)) ggX8_groomThen_X8_isGroom
set_option maxRecDepth 20000 in
theorem ggX8_groomThen_X8_bound : GoodIn wsX8_groomThen wsX8_bound := goodIn_r _ [9] (by decide +kernel) (by decide +kernel)
set_option maxRecDepth 20000 in
theorem gX8_groomThen_X8_bound : GoodIn wsX8_groomThen (va_wsS RX8 79 yX8_bound wsX8_bound) := goodIn_app (goodIn_of _ (by decide +kernel)) ggX8_groomThen_X8_bound
set_option maxRecDepth 20000 in
theorem ggX8_groomThen_X8_isIn : GoodIn wsX8_groomThen wsX8_isIn := goodIn_r _ [12] (by decide +kernel) (by decide +kernel)
set_option maxRecDepth 20000 in
theorem gX8_groomThen_X8_isIn : GoodIn wsX8_groomThen (va_wsS RX8 97 yX8_isIn wsX8_isIn) := goodIn_app (goodIn_of _ (by decide +kernel)) ggX8_groomThen_X8_isIn
set_option maxRecDepth 20000 in
theorem ggX8_groomThen_X8_no : GoodIn wsX8_groomThen wsX8_no := goodIn_r _ [16, 17, 89, 90, 91, 92, 93, 94, 95, 96, 97, 98, 99, 100, 101, 102, 103, 104, 105, 106, 107, 108, 109, 110, 111, 112, 113, 114, 115, 116, 117] (by decide +kernel) (by decide +kernel)
set_option maxRecDepth 20000 in
theorem gX8_groomThen_X8_no : GoodIn wsX8_groomThen (wsV RX8 86 RX8 yX8_no wsX8_no) := goodIn_app (goodIn_of _ (by decide +kernel)) ggX8_groomThen_X8_no
set_option maxRecDepth 20000 in
theorem ggX8_groomThen_X8_thinks : GoodIn wsX8_groomThen wsX8_thinks := goodIn_r _ [21, 22, 23, 24, 4, 25, 26, 27, 28, 29, 30, 31, 32, 33, 34, 35, 36, 37, 6, 38, 39, 40, 41, 42, 43, 44, 45, 46, 47, 89, 90, 91, 92, 93, 94, 95, 96, 97, 98, 99, 100, 101, 102, 103, 104, 105, 106, 107, 108, 109, 110, 111, 112, 113, 114, 115, 116, 117] (by decide +kernel) (by decide +kernel)
set_option maxRecDepth 20000 in
theorem gX8_groomThen_X8_thinks : GoodIn wsX8_groomThen (wsV RX8 208 RX8 yX8_thinks wsX8_thinks) := goodIn_app (goodIn_of _ (by decide +kernel)) ggX8_groomThen_X8_thinks
set_option maxRecDepth 20000 in
theorem ggX8_groomThen_X8_goes : GoodIn wsX8_groomThen wsX8_goes := goodIn_r _ [51, 52, 53, 54, 4, 55, 38, 37, 31, 32, 6, 35, 89, 90, 91, 92, 93, 94, 95, 96, 97, 98, 99, 100, 101, 102, 103, 104, 105, 106, 107, 108, 109, 110, 111, 112, 113, 114, 115, 116, 117] (by decide +kernel) (by decide +kernel)
set_option maxRecDepth 20000 in
theorem gX8_groomThen_X8_goes : GoodIn wsX8_groomThen (wsV RX8 120 RX8 yX8_goes wsX8_goes) := goodIn_app (goodIn_of _ (by decide +kernel)) ggX8_groomThen_X8_goes
set_option maxRecDepth 20000 in
theorem ggX8_groomThen_X8_guesses : GoodIn wsX8_groomThen wsX8_guesses := goodIn_r _ [59, 33, 34, 60, 61, 62, 4, 63, 37, 31, 64, 65, 66, 67, 30, 29, 38, 28, 68, 69, 70, 71, 89, 90, 91, 92, 93, 94, 95, 96, 97, 98, 99, 100, 101, 102, 103, 104, 105, 106, 107, 108, 109, 110, 111, 112, 113, 114, 115, 116, 117] (by decide +kernel) (by decide +kernel)
set_option maxRecDepth 20000 in
theorem gX8_groomThen_X8_guesses : GoodIn wsX8_groomThen (wsV RX8 183 RX8 yX8_guesses wsX8_guesses) := goodIn_app (goodIn_of _ (by decide +kernel)) ggX8_groomThen_X8_guesses
set_option maxRecDepth 20000 in
theorem ggX8_groomThen_X8_knows : GoodIn wsX8_groomThen wsX8_knows := goodIn_r _ [75, 56, 57, 58, 4, 59, 33, 34, 60, 61, 62, 63, 37, 31, 64, 65, 66, 67, 30, 29, 38, 28, 68, 69, 70, 71, 76, 77, 78, 79, 80, 81, 82, 83, 84, 89, 90, 91, 92, 93, 94, 95, 96, 97, 98, 99, 100, 101, 102, 103, 104, 105, 106, 107, 108, 109, 110, 111, 112, 113, 114, 115, 116, 117] (by decide +kernel) (by decide +kernel)
set_option maxRecDepth 20000 in
theorem gX8_groomThen_X8_knows : GoodIn wsX8_groomThen (wsV RX8 195 RX8 yX8_knows wsX8_knows) := goodIn_app (goodIn_of _ (by decide +kernel)) ggX8_groomThen_X8_knows
set_option maxRecDepth 20000 in
theorem ggX8_groomThen_X8_forgets : GoodIn wsX8_groomThen wsX8_forgets := goodIn_r _ [88, 22, 23, 24, 4, 25, 26, 27, 28, 29, 30, 31, 32, 33, 34, 35, 36, 37, 6, 38, 39, 40, 41, 42, 43, 44, 45, 46, 47, 89, 90, 91, 92, 93, 94, 95, 96, 97, 98, 99, 100, 101, 102, 103, 104, 105, 106, 107, 108, 109, 110, 111, 112, 113, 114, 115, 116, 117] (by decide +kernel) (by decide +kernel)
set_option maxRecDepth 20000 in
theorem gX8_groomThen_X8_forgets : GoodIn wsX8_groomThen (wsV RX8 211 RX8 yX8_forgets wsX8_forgets) := goodIn_app (goodIn_of _ (by decide +kernel)) ggX8_groomThen_X8_forgets
theorem dX8_groomThen_0 : decode cX8_groomThen 0 = .ok (.aload_n 0, 1) := by decide +kernel
theorem dX8_groomThen_1 : decode cX8_groomThen 1 = .ok (.iload_n 1, 1) := by decide +kernel
theorem dX8_groomThen_2 : decode cX8_groomThen 2 = .ok (.invokevirtual 133, 3) := by decide +kernel
theorem dX8_groomThen_5 : decode cX8_groomThen 5 = .ok (.ifCond .ne 7, 3) := by decide +kernel
theorem dX8_groomThen_8 : decode cX8_groomThen 8 = .ok (.iconst (-1), 1) := by decide +kernel
theorem dX8_groomThen_9 : decode cX8_groomThen 9 = .ok (.goto 10, 3) := by decide +kernel
theorem dX8_groomThen_12 : decode cX8_groomThen 12 = .ok (.iload_n 2, 1) := by decide +kernel
theorem dX8_groomThen_13 : decode cX8_groomThen 13 = .ok (.iconst 0, 1) := by decide +kernel
theorem dX8_groomThen_14 : decode cX8_groomThen 14 = .ok (.bipush 60, 2) := by decide +kernel
theorem dX8_groomThen_16 : decode cX8_groomThen 16 = .ok (.invokestatic 79, 3) := by decide +kernel
theorem dX8_groomThen_19 : decode cX8_groomThen 19 = .ok (.istore 4, 2) := by decide +kernel
theorem dX8_groomThen_21 : decode cX8_groomThen 21 = .ok (.iload 4, 2) := by decide +kernel
theorem dX8_groomThen_23 : decode cX8_groomThen 23 = .ok (.ifCond .ne 16, 3) := by decide +kernel
theorem dX8_groomThen_26 : decode cX8_groomThen 26 = .ok (.iload_n 3, 1) := by decide +kernel
theorem dX8_groomThen_27 : decode cX8_groomThen 27 = .ok (.iconst 0, 1) := by decide +kernel
theorem dX8_groomThen_28 : decode cX8_groomThen 28 = .ok (.iconst 1, 1) := by decide +kernel
theorem dX8_groomThen_29 : decode cX8_groomThen 29 = .ok (.invokestatic 97, 3) := by decide +kernel
theorem dX8_groomThen_32 : decode cX8_groomThen 32 = .ok (.ifCond .ne 7, 3) := by decide +kernel
theorem dX8_groomThen_35 : decode cX8_groomThen 35 = .ok (.bipush (-2), 2) := by decide +kernel
theorem dX8_groomThen_37 : decode cX8_groomThen 37 = .ok (.istore 4, 2) := by decide +kernel
theorem dX8_groomThen_39 : decode cX8_groomThen 39 = .ok (.iload 4, 2) := by decide +kernel
theorem dX8_groomThen_41 : decode cX8_groomThen 41 = .ok (.ifCond .eq 10, 3) := by decide +kernel
theorem dX8_groomThen_44 : decode cX8_groomThen 44 = .ok (.aload_n 0, 1) := by decide +kernel
theorem dX8_groomThen_45 : decode cX8_groomThen 45 = .ok (.iload 4, 2) := by decide +kernel
theorem dX8_groomThen_47 : decode cX8_groomThen 47 = .ok (.invokevirtual 86, 3) := by decide +kernel
theorem dX8_groomThen_50 : decode cX8_groomThen 50 = .ok (.ireturn, 1) := by decide +kernel
theorem dX8_groomThen_51 : decode cX8_groomThen 51 = .ok (.aload_n 0, 1) := by decide +kernel
theorem dX8_groomThen_52 : decode cX8_groomThen 52 = .ok (.invokevirtual 208, 3) := by decide +kernel
theorem dX8_groomThen_55 : decode cX8_groomThen 55 = .ok (.aload_n 0, 1) := by decide +kernel
theorem dX8_groomThen_56 : decode cX8_groomThen 56 = .ok (.iload_n 2, 1) := by decide +kernel
theorem dX8_groomThen_57 : decode cX8_groomThen 57 = .ok (.invokevirtual 120, 3) := by decide +kernel
theorem dX8_groomThen_60 : decode cX8_groomThen 60 = .ok (.iload_n 3, 1) := by decide +kernel
theorem dX8_groomThen_61 : decode cX8_groomThen 61 = .ok (.ifCond .ne 11, 3) := by decide +kernel
theorem dX8_groomThen_64 : decode cX8_groomThen 64 = .ok (.aload_n 0, 1) := by decide +kernel
theorem dX8_groomThen_65 : decode cX8_groomThen 65 = .ok (.iload_n 1, 1) := by decide +kernel
theorem dX8_groomThen_66 : decode cX8_groomThen 66 = .ok (.invokevirtual 183, 3) := by decide +kernel
theorem dX8_groomThen_69 : decode cX8_groomThen 69 = .ok (.goto 8, 3) := by decide +kernel
theorem dX8_groomThen_72 : decode cX8_groomThen 72 = .ok (.aload_n 0, 1) := by decide +kernel
theorem dX8_groomThen_73 : decode cX8_groomThen 73 = .ok (.iload_n 1, 1) := by decide +kernel
theorem dX8_groomThen_74 : decode cX8_groomThen 74 = .ok (.invokevirtual 195, 3) := by decide +kernel
theorem dX8_groomThen_77 : decode cX8_groomThen 77 = .ok (.istore 5, 2) := by decide +kernel
theorem dX8_groomThen_79 : decode cX8_groomThen 79 = .ok (.aload_n 0, 1) := by decide +kernel
theorem dX8_groomThen_80 : decode cX8_groomThen 80 = .ok (.invokevirtual 211, 3) := by decide +kernel
theorem dX8_groomThen_83 : decode cX8_groomThen 83 = .ok (.iload 5, 2) := by decide +kernel
theorem dX8_groomThen_85 : decode cX8_groomThen 85 = .ok (.ireturn, 1) := by decide +kernel
set_option maxRecDepth 20000 in
theorem ggX8_knownOnes_X8_knows : GoodIn wsX8_knownOnes wsX8_knows := goodIn_r _ [7, 8, 9, 10, 6, 11, 12, 13, 14, 15, 16, 17, 18, 19, 20, 21, 22, 23, 24, 25, 26, 27, 28, 29, 30, 31, 32, 33, 34, 35, 36, 37, 38, 39, 40, 41, 42, 43, 44, 45, 46, 47, 48, 49, 50, 51, 52, 53, 54, 55, 56, 57, 58, 59, 60, 61, 62, 63, 64, 65, 66, 67, 68, 69] (by decide +kernel) (by decide +kernel)
set_option maxRecDepth 20000 in
theorem gX8_knownOnes_X8_knows : GoodIn wsX8_knownOnes (wsV RX8 195 RX8 yX8_knows wsX8_knows) := goodIn_app (goodIn_of _ (by decide +kernel)) ggX8_knownOnes_X8_knows
theorem dX8_knownOnes_0 : decode cX8_knownOnes 0 = .ok (.iconst 0, 1) := by decide +kernel
theorem dX8_knownOnes_1 : decode cX8_knownOnes 1 = .ok (.istore_n 1, 1) := by decide +kernel
theorem dX8_knownOnes_2 : decode cX8_knownOnes 2 = .ok (.iconst 0, 1) := by decide +kernel
theorem dX8_knownOnes_3 : decode cX8_knownOnes 3 = .ok (.istore_n 2, 1) := by decide +kernel
theorem dX8_knownOnes_4 : decode cX8_knownOnes 4 = .ok (.iload_n 2, 1) := by decide +kernel
theorem dX8_knownOnes_5 : decode cX8_knownOnes 5 = .ok (.aload_n 0, 1) := by decide +kernel
theorem dX8_knownOnes_6 : decode cX8_knownOnes 6 = .ok (.getfield 76, 3) := by decide +kernel
theorem dX8_knownOnes_9 : decode cX8_knownOnes 9 = .ok (.if_icmp .ge 43, 3) := by decide +kernel
theorem dX8_knownOnes_12 : decode cX8_knownOnes 12 = .ok (.aload_n 0, 1) := by decide +kernel
theorem dX8_knownOnes_13 : decode cX8_knownOnes 13 = .ok (.getfield 37, 3) := by decide +kernel
theorem dX8_knownOnes_16 : decode cX8_knownOnes 16 = .ok (.iload_n 2, 1) := by decide +kernel
theorem dX8_knownOnes_17 : decode cX8_knownOnes 17 = .ok (.iaload, 1) := by decide +kernel
theorem dX8_knownOnes_18 : decode cX8_knownOnes 18 = .ok (.ifCond .ne 11, 3) := by decide +kernel
theorem dX8_knownOnes_21 : decode cX8_knownOnes 21 = .ok (.aload_n 0, 1) := by decide +kernel
theorem dX8_knownOnes_22 : decode cX8_knownOnes 22 = .ok (.iload_n 2, 1) := by decide +kernel
theorem dX8_knownOnes_23 : decode cX8_knownOnes 23 = .ok (.invokevirtual 195, 3) := by decide +kernel
theorem dX8_knownOnes_26 : decode cX8_knownOnes 26 = .ok (.goto 5, 3) := by decide +kernel
theorem dX8_knownOnes_29 : decode cX8_knownOnes 29 = .ok (.bipush (-9), 2) := by decide +kernel
theorem dX8_knownOnes_31 : decode cX8_knownOnes 31 = .ok (.istore_n 3, 1) := by decide +kernel
theorem dX8_knownOnes_32 : decode cX8_knownOnes 32 = .ok (.iload_n 1, 1) := by decide +kernel
theorem dX8_knownOnes_33 : decode cX8_knownOnes 33 = .ok (.iload_n 3, 1) := by decide +kernel
theorem dX8_knownOnes_34 : decode cX8_knownOnes 34 = .ok (.ifCond .lt 9, 3) := by decide +kernel
theorem dX8_knownOnes_37 : decode cX8_knownOnes 37 = .ok (.iconst 1, 1) := by decide +kernel
theorem dX8_knownOnes_38 : decode cX8_knownOnes 38 = .ok (.iload_n 3, 1) := by decide +kernel
theorem dX8_knownOnes_39 : decode cX8_knownOnes 39 = .ok (.ishl, 1) := by decide +kernel
theorem dX8_knownOnes_40 : decode cX8_knownOnes 40 = .ok (.goto 4, 3) := by decide +kernel
theorem dX8_knownOnes_43 : decode cX8_knownOnes 43 = .ok (.iconst 0, 1) := by decide +kernel
theorem dX8_knownOnes_44 : decode cX8_knownOnes 44 = .ok (.ior, 1) := by decide +kernel
theorem dX8_knownOnes_45 : decode cX8_knownOnes 45 = .ok (.istore_n 1, 1) := by decide +kernel
theorem dX8_knownOnes_46 : decode cX8_knownOnes 46 = .ok (.iinc 2 1, 3) := by decide +kernel
theorem dX8_knownOnes_49 : decode cX8_knownOnes 49 = .ok (.goto (-45), 3) := by decide +kernel
theorem dX8_knownOnes_52 : decode cX8_knownOnes 52 = .ok (.iload_n 1, 1) := by decide +kernel
theorem dX8_knownOnes_53 : decode cX8_knownOnes 53 = .ok (.ireturn, 1) := by decide +kernel
set_option maxRecDepth 20000 in
theorem ggX8_known_X8_isIn : GoodIn wsX8_known wsX8_isIn := goodIn_r _ [4] (by decide +kernel) (by decide +kernel)
set_option maxRecDepth 20000 in
theorem gX8_known_X8_isIn : GoodIn wsX8_known (va_wsS RX8 97 yX8_isIn wsX8_isIn) := goodIn_app (goodIn_of _ (by decide +kernel)) ggX8_known_X8_isIn
set_option maxRecDepth 20000 in
theorem ggX8_known_X8_no : GoodIn wsX8_known wsX8_no := goodIn_r _ [8, 9, 57, 58, 59, 60, 61, 62, 63, 64, 65, 66, 67, 68, 69, 70, 71, 72, 73, 74, 75, 76, 77, 78, 79, 80, 81, 82, 83, 84, 85] (by decide +kernel) (by decide +kernel)
set_option maxRecDepth 20000 in
theorem gX8_known_X8_no : GoodIn wsX8_known (wsV RX8 86 RX8 yX8_no wsX8_no) := goodIn_app (goodIn_of _ (by decide +kernel)) ggX8_known_X8_no
set_option maxRecDepth 20000 in
theorem ggX8_known_X8_knownOnes : GoodIn wsX8_known wsX8_knownOnes := goodIn_r _ [13, 14, 15, 16, 17, 18, 3, 19, 20, 21, 22, 23, 24, 25, 26, 27, 28, 29, 30, 31, 32, 33, 34, 35, 36, 37, 38, 39, 40, 41, 42, 43, 44, 45, 46, 47, 48, 49, 50, 51, 52, 57, 58, 59, 60, 61, 62, 63, 64, 65, 66, 67, 68, 69, 70, 71, 72, 73, 74, 75, 76, 77, 78, 79, 80, 81, 82, 83, 84, 85] (by decide +kernel) (by decide +kernel)
set_option maxRecDepth 20000 in
theorem gX8_known_X8_knownOnes : GoodIn wsX8_known (wsV RX8 214 RX8 yX8_knownOnes wsX8_knownOnes) := goodIn_app (goodIn_of _ (by decide +kernel)) ggX8_known_X8_knownOnes
set_option maxRecDepth 20000 in
theorem ggX8_known_X8_here : GoodIn wsX8_known wsX8_here := goodIn_r _ [56, 30, 31, 57, 58, 59, 60, 61, 62, 63, 64, 65, 66, 67, 68, 69, 70, 71, 72, 73, 74, 75, 76, 77, 78, 79, 80, 81, 82, 83, 84, 85] (by decide +kernel) (by decide +kernel)
set_option maxRecDepth 20000 in
theorem gX8_known_X8_here : GoodIn wsX8_known (wsV RX8 192 RX8 yX8_here wsX8_here) := goodIn_app (goodIn_of _ (by decide +kernel)) ggX8_known_X8_here
theorem dX8_known_0 : decode cX8_known 0 = .ok (.iload_n 1, 1) := by decide +kernel
theorem dX8_known_1 : decode cX8_known 1 = .ok (.iconst 0, 1) := by decide +kernel
theorem dX8_known_2 : decode cX8_known 2 = .ok (.iconst 1, 1) := by decide +kernel
theorem dX8_known_3 : decode cX8_known 3 = .ok (.invokestatic 97, 3) := by decide +kernel
theorem dX8_known_6 : decode cX8_known 6 = .ok (.ifCond .ne 10, 3) := by decide +kernel
theorem dX8_known_9 : decode cX8_known 9 = .ok (.aload_n 0, 1) := by decide +kernel
theorem dX8_known_10 : decode cX8_known 10 = .ok (.bipush (-2), 2) := by decide +kernel
theorem dX8_known_12 : decode cX8_known 12 = .ok (.invokevirtual 86, 3) := by decide +kernel
theorem dX8_known_15 : decode cX8_known 15 = .ok (.ireturn, 1) := by decide +kernel
theorem dX8_known_16 : decode cX8_known 16 = .ok (.iload_n 1, 1) := by decide +kernel
theorem dX8_known_17 : decode cX8_known 17 = .ok (.ifCond .ne 10, 3) := by decide +kernel
theorem dX8_known_20 : decode cX8_known 20 = .ok (.aload_n 0, 1) := by decide +kernel
theorem dX8_known_21 : decode cX8_known 21 = .ok (.invokevirtual 214, 3) := by decide +kernel
theorem dX8_known_24 : decode cX8_known 24 = .ok (.goto 14, 3) := by decide +kernel
theorem dX8_known_27 : decode cX8_known 27 = .ok (.aload_n 0, 1) := by decide +kernel
theorem dX8_known_28 : decode cX8_known 28 = .ok (.invokevirtual 192, 3) := by decide +kernel
theorem dX8_known_31 : decode cX8_known 31 = .ok (.aload_n 0, 1) := by decide +kernel
theorem dX8_known_32 : decode cX8_known 32 = .ok (.invokevirtual 214, 3) := by decide +kernel
theorem dX8_known_35 : decode cX8_known 35 = .ok (.iconst (-1), 1) := by decide +kernel
theorem dX8_known_36 : decode cX8_known 36 = .ok (.ixor, 1) := by decide +kernel
theorem dX8_known_37 : decode cX8_known 37 = .ok (.iand, 1) := by decide +kernel
theorem dX8_known_38 : decode cX8_known 38 = .ok (.ireturn, 1) := by decide +kernel
set_option maxRecDepth 20000 in
theorem ggX8_when_X8_isGroom : GoodIn wsX8_when wsX8_isGroom := goodIn_r _ [5, 6, 79, 80, 81, 82, 83, 84, 85, 86, 87, 88, 89, 90, 91, 92, 93, 94, 95, 96, 97, 98, 99, 100, 101, 102, 103, 104, 105, 106, 107] (by decide +kernel) (by decide +kernel)
set_option maxRecDepth 20000 in
theorem gX8_when_X8_isGroom : GoodIn wsX8_when (wsV RX8 133 RX8 yX8_isGroom wsX8_isGroom) := goodIn_app (goodIn_of _ (by decide +kernel)) ggX8_when_X8_isGroom
set_option maxRecDepth 20000 in
theorem ggX8_when_X8_no : GoodIn wsX8_when wsX8_no := goodIn_r _ [10, 11, 79, 80, 81, 82, 83, 84, 85, 86, 87, 88, 89, 90, 91, 92, 93, 94, 95, 96, 97, 98, 99, 100, 101, 102, 103, 104, 105, 106, 107] (by decide +kernel) (by decide +kernel)
set_option maxRecDepth 20000 in
theorem gX8_when_X8_no : GoodIn wsX8_when (wsV RX8 86 RX8 yX8_no wsX8_no) := goodIn_app (goodIn_of _ (by decide +kernel)) ggX8_when_X8_no
set_option maxRecDepth 20000 in
theorem ggX8_when_X8_thinks : GoodIn wsX8_when wsX8_thinks := goodIn_r _ [15, 16, 17, 18, 4, 19, 20, 21, 22, 23, 24, 25, 26, 27, 28, 29, 30, 31, 6, 32, 33, 34, 35, 36, 37, 38, 39, 40, 41, 79, 80, 81, 82, 83, 84, 85, 86, 87, 88, 89, 90, 91, 92, 93, 94, 95, 96, 97, 98, 99, 100, 101, 102, 103, 104, 105, 106, 107] (by decide +kernel) (by decide +kernel)
set_option maxRecDepth 20000 in
theorem gX8_when_X8_thinks : GoodIn wsX8_when (wsV RX8 208 RX8 yX8_thinks wsX8_thinks) := goodIn_app (goodIn_of _ (by decide +kernel)) ggX8_when_X8_thinks
set_option maxRecDepth 20000 in
theorem ggX8_when_X8_knows : GoodIn wsX8_when wsX8_knows := goodIn_r _ [45, 46, 47, 48, 4, 49, 27, 28, 50, 51, 52, 53, 31, 25, 54, 55, 56, 57, 24, 23, 32, 22, 58, 59, 60, 61, 62, 63, 64, 65, 66, 67, 68, 69, 70, 79, 80, 81, 82, 83, 84, 85, 86, 87, 88, 89, 90, 91, 92, 93, 94, 95, 96, 97, 98, 99, 100, 101, 102, 103, 104, 105, 106, 107] (by decide +kernel) (by decide +kernel)
set_option maxRecDepth 20000 in
theorem gX8_when_X8_knows : GoodIn wsX8_when (wsV RX8 195 RX8 yX8_knows wsX8_knows) := goodIn_app (goodIn_of _ (by decide +kernel)) ggX8_when_X8_knows
set_option maxRecDepth 20000 in
theorem ggX8_when_X8_goesYear : GoodIn wsX8_when wsX8_goesYear := goodIn_r _ [74, 32, 31, 25, 26, 6, 29, 79, 80, 81, 82, 83, 84, 85, 86, 87, 88, 89, 90, 91, 92, 93, 94, 95, 96, 97, 98, 99, 100, 101, 102, 103, 104, 105, 106, 107] (by decide +kernel) (by decide +kernel)
set_option maxRecDepth 20000 in
theorem gX8_when_X8_goesYear : GoodIn wsX8_when (wsV RX8 205 RX8 yX8_goesYear wsX8_goesYear) := goodIn_app (goodIn_of _ (by decide +kernel)) ggX8_when_X8_goesYear
set_option maxRecDepth 20000 in
theorem ggX8_when_X8_forgets : GoodIn wsX8_when wsX8_forgets := goodIn_r _ [78, 16, 17, 18, 4, 19, 20, 21, 22, 23, 24, 25, 26, 27, 28, 29, 30, 31, 6, 32, 33, 34, 35, 36, 37, 38, 39, 40, 41, 79, 80, 81, 82, 83, 84, 85, 86, 87, 88, 89, 90, 91, 92, 93, 94, 95, 96, 97, 98, 99, 100, 101, 102, 103, 104, 105, 106, 107] (by decide +kernel) (by decide +kernel)
set_option maxRecDepth 20000 in
theorem gX8_when_X8_forgets : GoodIn wsX8_when (wsV RX8 211 RX8 yX8_forgets wsX8_forgets) := goodIn_app (goodIn_of _ (by decide +kernel)) ggX8_when_X8_forgets
theorem dX8_when_0 : decode cX8_when 0 = .ok (.aload_n 0, 1) := by decide +kernel
theorem dX8_when_1 : decode cX8_when 1 = .ok (.iload_n 1, 1) := by decide +kernel
theorem dX8_when_2 : decode cX8_when 2 = .ok (.invokevirtual 133, 3) := by decide +kernel
theorem dX8_when_5 : decode cX8_when 5 = .ok (.ifCond .ne 9, 3) := by decide +kernel
theorem dX8_when_8 : decode cX8_when 8 = .ok (.aload_n 0, 1) := by decide +kernel
theorem dX8_when_9 : decode cX8_when 9 = .ok (.iconst (-1), 1) := by decide +kernel
theorem dX8_when_10 : decode cX8_when 10 = .ok (.invokevirtual 86, 3) := by decide +kernel
theorem dX8_when_13 : decode cX8_when 13 = .ok (.ireturn, 1) := by decide +kernel
theorem dX8_when_14 : decode cX8_when 14 = .ok (.aload_n 0, 1) := by decide +kernel
theorem dX8_when_15 : decode cX8_when 15 = .ok (.invokevirtual 208, 3) := by decide +kernel
theorem dX8_when_18 : decode cX8_when 18 = .ok (.bipush (-9), 2) := by decide +kernel
theorem dX8_when_20 : decode cX8_when 20 = .ok (.istore_n 2, 1) := by decide +kernel
theorem dX8_when_21 : decode cX8_when 21 = .ok (.iconst 0, 1) := by decide +kernel
theorem dX8_when_22 : decode cX8_when 22 = .ok (.istore_n 3, 1) := by decide +kernel
theorem dX8_when_23 : decode cX8_when 23 = .ok (.iload_n 3, 1) := by decide +kernel
theorem dX8_when_24 : decode cX8_when 24 = .ok (.bipush 60, 2) := by decide +kernel
theorem dX8_when_26 : decode cX8_when 26 = .ok (.if_icmp .gt 32, 3) := by decide +kernel
theorem dX8_when_29 : decode cX8_when 29 = .ok (.iload_n 2, 1) := by decide +kernel
theorem dX8_when_30 : decode cX8_when 30 = .ok (.ifCond .ge 28, 3) := by decide +kernel
theorem dX8_when_33 : decode cX8_when 33 = .ok (.aload_n 0, 1) := by decide +kernel
theorem dX8_when_34 : decode cX8_when 34 = .ok (.iload_n 1, 1) := by decide +kernel
theorem dX8_when_35 : decode cX8_when 35 = .ok (.invokevirtual 195, 3) := by decide +kernel
theorem dX8_when_38 : decode cX8_when 38 = .ok (.ifCond .lt 7, 3) := by decide +kernel
theorem dX8_when_41 : decode cX8_when 41 = .ok (.iload_n 3, 1) := by decide +kernel
theorem dX8_when_42 : decode cX8_when 42 = .ok (.goto 5, 3) := by decide +kernel
theorem dX8_when_45 : decode cX8_when 45 = .ok (.bipush (-9), 2) := by decide +kernel
theorem dX8_when_47 : decode cX8_when 47 = .ok (.istore_n 2, 1) := by decide +kernel
theorem dX8_when_48 : decode cX8_when 48 = .ok (.aload_n 0, 1) := by decide +kernel
theorem dX8_when_49 : decode cX8_when 49 = .ok (.invokevirtual 205, 3) := by decide +kernel
theorem dX8_when_52 : decode cX8_when 52 = .ok (.iinc 3 1, 3) := by decide +kernel
theorem dX8_when_55 : decode cX8_when 55 = .ok (.goto (-32), 3) := by decide +kernel
theorem dX8_when_58 : decode cX8_when 58 = .ok (.aload_n 0, 1) := by decide +kernel
theorem dX8_when_59 : decode cX8_when 59 = .ok (.invokevirtual 211, 3) := by decide +kernel
theorem dX8_when_62 : decode cX8_when 62 = .ok (.iload_n 2, 1) := by decide +kernel
theorem dX8_when_63 : decode cX8_when 63 = .ok (.ireturn, 1) := by decide +kernel
set_option maxRecDepth 20000 in
theorem ggX8_takes_X8_isGroom : GoodIn wsX8_takes wsX8_isGroom := goodIn_r _ [6, 7, 63, 64, 65, 66, 67, 68, 69, 70, 71, 72, 73, 74, 75, 76, 77, 78, 79, 80, 81, 82, 83, 84, 85, 86, 87, 88, 89, 90, 91] (by decide +kernel) (by decide +kernel)
set_option maxRecDepth 20000 in
theorem gX8_takes_X8_isGroom : GoodIn wsX8_takes (wsV RX8 133 RX8 yX8_isGroom wsX8_isGroom) := goodIn_app (goodIn_of _ (by decide +kernel)) ggX8_takes_X8_isGroom
set_option maxRecDepth 20000 in
theorem ggX8_takes_X8_no : GoodIn wsX8_takes wsX8_no := goodIn_r _ [11, 12, 63, 64, 65, 66, 67, 68, 69, 70, 71, 72, 73, 74, 75, 76, 77, 78, 79, 80, 81, 82, 83, 84, 85, 86, 87, 88, 89, 90, 91] (by decide +kernel) (by decide +kernel)
set_option maxRecDepth 20000 in
theorem gX8_takes_X8_no : GoodIn wsX8_takes (wsV RX8 86 RX8 yX8_no wsX8_no) := goodIn_app (goodIn_of _ (by decide +kernel)) ggX8_takes_X8_no
set_option maxRecDepth 20000 in
theorem ggX8_takes_X8_canWed : GoodIn wsX8_takes wsX8_canWed := goodIn_r _ [16, 17, 18, 19, 20, 5, 21, 22, 23, 63, 64, 65, 66, 67, 68, 69, 70, 71, 72, 73, 74, 75, 76, 77, 78, 79, 80, 81, 82, 83, 84, 85, 86, 87, 88, 89, 90, 91] (by decide +kernel) (by decide +kernel)
set_option maxRecDepth 20000 in
theorem gX8_takes_X8_canWed : GoodIn wsX8_takes (wsV RX8 136 RX8 yX8_canWed wsX8_canWed) := goodIn_app (goodIn_of _ (by decide +kernel)) ggX8_takes_X8_canWed
set_option maxRecDepth 20000 in
theorem ggX8_takes_X8_knows : GoodIn wsX8_takes wsX8_knows := goodIn_r _ [27, 28, 29, 30, 5, 31, 32, 33, 34, 35, 36, 37, 22, 23, 38, 39, 40, 41, 42, 43, 44, 45, 46, 47, 48, 49, 50, 51, 52, 53, 54, 55, 56, 57, 58, 63, 64, 65, 66, 67, 68, 69, 70, 71, 72, 73, 74, 75, 76, 77, 78, 79, 80, 81, 82, 83, 84, 85, 86, 87, 88, 89, 90, 91] (by decide +kernel) (by decide +kernel)
set_option maxRecDepth 20000 in
theorem gX8_takes_X8_knows : GoodIn wsX8_takes (wsV RX8 195 RX8 yX8_knows wsX8_knows) := goodIn_app (goodIn_of _ (by decide +kernel)) ggX8_takes_X8_knows
set_option maxRecDepth 20000 in
theorem ggX8_takes_X8_takenBy : GoodIn wsX8_takes wsX8_takenBy := goodIn_r _ [62, 28, 29, 30, 5, 31, 32, 33, 34, 35, 36, 37, 22, 23, 38, 39, 40, 41, 42, 43, 44, 45, 46, 47, 48, 49, 18, 19, 20, 21, 50, 51, 52, 53, 54, 55, 56, 57, 58, 63, 64, 65, 66, 67, 68, 69, 70, 71, 72, 73, 74, 75, 76, 77, 78, 79, 80, 81, 82, 83, 84, 85, 86, 87, 88, 89, 90, 91] (by decide +kernel) (by decide +kernel)
set_option maxRecDepth 20000 in
theorem gX8_takes_X8_takenBy : GoodIn wsX8_takes (wsV RX8 202 RX8 yX8_takenBy wsX8_takenBy) := goodIn_app (goodIn_of _ (by decide +kernel)) ggX8_takes_X8_takenBy
theorem dX8_takes_0 : decode cX8_takes 0 = .ok (.aload_n 0, 1) := by decide +kernel
theorem dX8_takes_1 : decode cX8_takes 1 = .ok (.iload_n 1, 1) := by decide +kernel
theorem dX8_takes_2 : decode cX8_takes 2 = .ok (.invokevirtual 133, 3) := by decide +kernel
theorem dX8_takes_5 : decode cX8_takes 5 = .ok (.ifCond .ne 9, 3) := by decide +kernel
theorem dX8_takes_8 : decode cX8_takes 8 = .ok (.aload_n 0, 1) := by decide +kernel
theorem dX8_takes_9 : decode cX8_takes 9 = .ok (.iconst (-1), 1) := by decide +kernel
theorem dX8_takes_10 : decode cX8_takes 10 = .ok (.invokevirtual 86, 3) := by decide +kernel
theorem dX8_takes_13 : decode cX8_takes 13 = .ok (.ireturn, 1) := by decide +kernel
theorem dX8_takes_14 : decode cX8_takes 14 = .ok (.aload_n 0, 1) := by decide +kernel
theorem dX8_takes_15 : decode cX8_takes 15 = .ok (.iload_n 1, 1) := by decide +kernel
theorem dX8_takes_16 : decode cX8_takes 16 = .ok (.invokevirtual 136, 3) := by decide +kernel
theorem dX8_takes_19 : decode cX8_takes 19 = .ok (.ifCond .eq 25, 3) := by decide +kernel
theorem dX8_takes_22 : decode cX8_takes 22 = .ok (.aload_n 0, 1) := by decide +kernel
theorem dX8_takes_23 : decode cX8_takes 23 = .ok (.iload_n 1, 1) := by decide +kernel
theorem dX8_takes_24 : decode cX8_takes 24 = .ok (.invokevirtual 195, 3) := by decide +kernel
theorem dX8_takes_27 : decode cX8_takes 27 = .ok (.ifCond .ge 17, 3) := by decide +kernel
theorem dX8_takes_30 : decode cX8_takes 30 = .ok (.aload_n 0, 1) := by decide +kernel
theorem dX8_takes_31 : decode cX8_takes 31 = .ok (.iload_n 1, 1) := by decide +kernel
theorem dX8_takes_32 : decode cX8_takes 32 = .ok (.aload_n 0, 1) := by decide +kernel
theorem dX8_takes_33 : decode cX8_takes 33 = .ok (.getfield 34, 3) := by decide +kernel
theorem dX8_takes_36 : decode cX8_takes 36 = .ok (.iload_n 1, 1) := by decide +kernel
theorem dX8_takes_37 : decode cX8_takes 37 = .ok (.iaload, 1) := by decide +kernel
theorem dX8_takes_38 : decode cX8_takes 38 = .ok (.invokevirtual 202, 3) := by decide +kernel
theorem dX8_takes_41 : decode cX8_takes 41 = .ok (.goto 5, 3) := by decide +kernel
theorem dX8_takes_44 : decode cX8_takes 44 = .ok (.bipush (-9), 2) := by decide +kernel
theorem dX8_takes_46 : decode cX8_takes 46 = .ok (.ireturn, 1) := by decide +kernel
set_option maxRecDepth 20000 in
theorem ggX8_hide_X8_isBride : GoodIn wsX8_hide wsX8_isBride := goodIn_r _ [7, 8, 54, 55, 56, 57, 58, 59, 60, 61, 62, 63, 64, 65, 66, 67, 68, 69, 70, 71, 72, 73, 74, 75, 76, 77, 78, 79, 80, 81, 82] (by decide +kernel) (by decide +kernel)
set_option maxRecDepth 20000 in
theorem gX8_hide_X8_isBride : GoodIn wsX8_hide (wsV RX8 130 RX8 yX8_isBride wsX8_isBride) := goodIn_app (goodIn_of _ (by decide +kernel)) ggX8_hide_X8_isBride
set_option maxRecDepth 20000 in
theorem ggX8_hide_X8_no : GoodIn wsX8_hide wsX8_no := goodIn_r _ [12, 13, 54, 55, 56, 57, 58, 59, 60, 61, 62, 63, 64, 65, 66, 67, 68, 69, 70, 71, 72, 73, 74, 75, 76, 77, 78, 79, 80, 81, 82] (by decide +kernel) (by decide +kernel)
set_option maxRecDepth 20000 in
theorem gX8_hide_X8_no : GoodIn wsX8_hide (wsV RX8 86 RX8 yX8_no wsX8_no) := goodIn_app (goodIn_of _ (by decide +kernel)) ggX8_hide_X8_no
set_option maxRecDepth 20000 in
theorem ggX8_hide_X8_knownOnes : GoodIn wsX8_hide wsX8_knownOnes := goodIn_r _ [17, 18, 19, 20, 21, 22, 6, 23, 24, 25, 26, 27, 28, 29, 30, 31, 32, 33, 8, 1, 34, 35, 36, 37, 2, 38, 39, 40, 41, 42, 43, 44, 45, 46, 47, 48, 49, 50, 51, 52, 53, 54, 55, 56, 57, 58, 59, 60, 61, 62, 63, 64, 65, 66, 67, 68, 69, 70, 71, 72, 73, 74, 75, 76, 77, 78, 79, 80, 81, 82] (by decide +kernel) (by decide +kernel)
set_option maxRecDepth 20000 in
theorem gX8_hide_X8_knownOnes : GoodIn wsX8_hide (wsV RX8 214 RX8 yX8_knownOnes wsX8_knownOnes) := goodIn_app (goodIn_of _ (by decide +kernel)) ggX8_hide_X8_knownOnes
set_option maxRecDepth 20000 in
theorem ggX8_hide_X8_has : GoodIn wsX8_hide wsX8_has := goodIn_r _ [53] (by decide +kernel) (by decide +kernel)
set_option maxRecDepth 20000 in
theorem gX8_hide_X8_has : GoodIn wsX8_hide (va_wsS RX8 72 yX8_has wsX8_has) := goodIn_app (goodIn_of _ (by decide +kernel)) ggX8_hide_X8_has
set_option maxRecDepth 20000 in
theorem ggX8_hide_X8_bits : GoodIn wsX8_hide wsX8_bits := goodIn_r _ [47] (by decide +kernel) (by decide +kernel)
set_option maxRecDepth 20000 in
theorem gX8_hide_X8_bits : GoodIn wsX8_hide (va_wsS RX8 186 yX8_bits wsX8_bits) := goodIn_app (goodIn_of _ (by decide +kernel)) ggX8_hide_X8_bits
theorem dX8_hide_0 : decode cX8_hide 0 = .ok (.aload_n 0, 1) := by decide +kernel
theorem dX8_hide_1 : decode cX8_hide 1 = .ok (.iload_n 1, 1) := by decide +kernel
theorem dX8_hide_2 : decode cX8_hide 2 = .ok (.invokevirtual 130, 3) := by decide +kernel
theorem dX8_hide_5 : decode cX8_hide 5 = .ok (.ifCond .ne 7, 3) := by decide +kernel
theorem dX8_hide_8 : decode cX8_hide 8 = .ok (.iconst (-1), 1) := by decide +kernel
theorem dX8_hide_9 : decode cX8_hide 9 = .ok (.goto 18, 3) := by decide +kernel
theorem dX8_hide_12 : decode cX8_hide 12 = .ok (.aload_n 0, 1) := by decide +kernel
theorem dX8_hide_13 : decode cX8_hide 13 = .ok (.getfield 22, 3) := by decide +kernel
theorem dX8_hide_16 : decode cX8_hide 16 = .ok (.iload_n 1, 1) := by decide +kernel
theorem dX8_hide_17 : decode cX8_hide 17 = .ok (.iaload, 1) := by decide +kernel
theorem dX8_hide_18 : decode cX8_hide 18 = .ok (.ifCond .eq 8, 3) := by decide +kernel
theorem dX8_hide_21 : decode cX8_hide 21 = .ok (.bipush (-3), 2) := by decide +kernel
theorem dX8_hide_23 : decode cX8_hide 23 = .ok (.goto 4, 3) := by decide +kernel
theorem dX8_hide_26 : decode cX8_hide 26 = .ok (.iconst 0, 1) := by decide +kernel
theorem dX8_hide_27 : decode cX8_hide 27 = .ok (.istore_n 2, 1) := by decide +kernel
theorem dX8_hide_28 : decode cX8_hide 28 = .ok (.iload_n 2, 1) := by decide +kernel
theorem dX8_hide_29 : decode cX8_hide 29 = .ok (.ifCond .eq 9, 3) := by decide +kernel
theorem dX8_hide_32 : decode cX8_hide 32 = .ok (.aload_n 0, 1) := by decide +kernel
theorem dX8_hide_33 : decode cX8_hide 33 = .ok (.iload_n 2, 1) := by decide +kernel
theorem dX8_hide_34 : decode cX8_hide 34 = .ok (.invokevirtual 86, 3) := by decide +kernel
theorem dX8_hide_37 : decode cX8_hide 37 = .ok (.ireturn, 1) := by decide +kernel
theorem dX8_hide_38 : decode cX8_hide 38 = .ok (.aload_n 0, 1) := by decide +kernel
theorem dX8_hide_39 : decode cX8_hide 39 = .ok (.getfield 19, 3) := by decide +kernel
theorem dX8_hide_42 : decode cX8_hide 42 = .ok (.iload_n 1, 1) := by decide +kernel
theorem dX8_hide_43 : decode cX8_hide 43 = .ok (.iaload, 1) := by decide +kernel
theorem dX8_hide_44 : decode cX8_hide 44 = .ok (.istore_n 3, 1) := by decide +kernel
theorem dX8_hide_45 : decode cX8_hide 45 = .ok (.bipush (-9), 2) := by decide +kernel
theorem dX8_hide_47 : decode cX8_hide 47 = .ok (.istore 4, 2) := by decide +kernel
theorem dX8_hide_49 : decode cX8_hide 49 = .ok (.iconst 0, 1) := by decide +kernel
theorem dX8_hide_50 : decode cX8_hide 50 = .ok (.istore 5, 2) := by decide +kernel
theorem dX8_hide_52 : decode cX8_hide 52 = .ok (.iload 5, 2) := by decide +kernel
theorem dX8_hide_54 : decode cX8_hide 54 = .ok (.bipush 63, 2) := by decide +kernel
theorem dX8_hide_56 : decode cX8_hide 56 = .ok (.if_icmp .gt 52, 3) := by decide +kernel
theorem dX8_hide_59 : decode cX8_hide 59 = .ok (.aload_n 0, 1) := by decide +kernel
theorem dX8_hide_60 : decode cX8_hide 60 = .ok (.getfield 19, 3) := by decide +kernel
theorem dX8_hide_63 : decode cX8_hide 63 = .ok (.iload_n 1, 1) := by decide +kernel
theorem dX8_hide_64 : decode cX8_hide 64 = .ok (.iload_n 3, 1) := by decide +kernel
theorem dX8_hide_65 : decode cX8_hide 65 = .ok (.iload 5, 2) := by decide +kernel
theorem dX8_hide_67 : decode cX8_hide 67 = .ok (.ixor, 1) := by decide +kernel
theorem dX8_hide_68 : decode cX8_hide 68 = .ok (.iastore, 1) := by decide +kernel
theorem dX8_hide_69 : decode cX8_hide 69 = .ok (.aload_n 0, 1) := by decide +kernel
theorem dX8_hide_70 : decode cX8_hide 70 = .ok (.invokevirtual 214, 3) := by decide +kernel
theorem dX8_hide_73 : decode cX8_hide 73 = .ok (.iload_n 1, 1) := by decide +kernel
theorem dX8_hide_74 : decode cX8_hide 74 = .ok (.invokestatic 72, 3) := by decide +kernel
theorem dX8_hide_77 : decode cX8_hide 77 = .ok (.ifCond .ne 25, 3) := by decide +kernel
theorem dX8_hide_80 : decode cX8_hide 80 = .ok (.iload 4, 2) := by decide +kernel
theorem dX8_hide_82 : decode cX8_hide 82 = .ok (.ifCond .lt 16, 3) := by decide +kernel
theorem dX8_hide_85 : decode cX8_hide 85 = .ok (.iload 5, 2) := by decide +kernel
theorem dX8_hide_87 : decode cX8_hide 87 = .ok (.invokestatic 186, 3) := by decide +kernel
theorem dX8_hide_90 : decode cX8_hide 90 = .ok (.iload 4, 2) := by decide +kernel
theorem dX8_hide_92 : decode cX8_hide 92 = .ok (.invokestatic 186, 3) := by decide +kernel
theorem dX8_hide_95 : decode cX8_hide 95 = .ok (.if_icmp .ge 7, 3) := by decide +kernel
theorem dX8_hide_98 : decode cX8_hide 98 = .ok (.iload 5, 2) := by decide +kernel
theorem dX8_hide_100 : decode cX8_hide 100 = .ok (.istore 4, 2) := by decide +kernel
theorem dX8_hide_102 : decode cX8_hide 102 = .ok (.iinc 5 1, 3) := by decide +kernel
theorem dX8_hide_105 : decode cX8_hide 105 = .ok (.goto (-53), 3) := by decide +kernel
theorem dX8_hide_108 : decode cX8_hide 108 = .ok (.aload_n 0, 1) := by decide +kernel
theorem dX8_hide_109 : decode cX8_hide 109 = .ok (.getfield 19, 3) := by decide +kernel
theorem dX8_hide_112 : decode cX8_hide 112 = .ok (.iload_n 1, 1) := by decide +kernel
theorem dX8_hide_113 : decode cX8_hide 113 = .ok (.iload_n 3, 1) := by decide +kernel
theorem dX8_hide_114 : decode cX8_hide 114 = .ok (.iastore, 1) := by decide +kernel
theorem dX8_hide_115 : decode cX8_hide 115 = .ok (.iload 4, 2) := by decide +kernel
theorem dX8_hide_117 : decode cX8_hide 117 = .ok (.ireturn, 1) := by decide +kernel
set_option maxRecDepth 20000 in
theorem ggX8_forget_X8_isGroom : GoodIn wsX8_forget wsX8_isGroom := goodIn_r _ [8, 9, 36, 37, 38, 39, 40, 41, 42, 43, 44, 45, 46, 47, 48, 49, 50, 51, 52, 53, 54, 55, 56, 57, 58, 59, 60, 61, 62, 63, 64] (by decide +kernel) (by decide +kernel)
set_option maxRecDepth 20000 in
theorem gX8_forget_X8_isGroom : GoodIn wsX8_forget (wsV RX8 133 RX8 yX8_isGroom wsX8_isGroom) := goodIn_app (goodIn_of _ (by decide +kernel)) ggX8_forget_X8_isGroom
set_option maxRecDepth 20000 in
theorem ggX8_forget_X8_no : GoodIn wsX8_forget wsX8_no := goodIn_r _ [13, 14, 36, 37, 38, 39, 40, 41, 42, 43, 44, 45, 46, 47, 48, 49, 50, 51, 52, 53, 54, 55, 56, 57, 58, 59, 60, 61, 62, 63, 64] (by decide +kernel) (by decide +kernel)
set_option maxRecDepth 20000 in
theorem gX8_forget_X8_no : GoodIn wsX8_forget (wsV RX8 86 RX8 yX8_no wsX8_no) := goodIn_app (goodIn_of _ (by decide +kernel)) ggX8_forget_X8_no
set_option maxRecDepth 20000 in
theorem ggX8_forget_X8_bits : GoodIn wsX8_forget wsX8_bits := goodIn_r _ [17] (by decide +kernel) (by decide +kernel)
set_option maxRecDepth 20000 in
theorem gX8_forget_X8_bits : GoodIn wsX8_forget (va_wsS RX8 186 yX8_bits wsX8_bits) := goodIn_app (goodIn_of _ (by decide +kernel)) ggX8_forget_X8_bits
set_option maxRecDepth 20000 in
theorem ggX8_forget_X8_guessesBy : GoodIn wsX8_forget wsX8_guessesBy := goodIn_r _ [21, 22, 23, 24, 25, 26, 7, 27, 28, 29, 30, 31, 32, 33, 34, 35, 36, 37, 38, 39, 40, 41, 42, 43, 44, 45, 46, 47, 48, 49, 50, 51, 52, 53, 54, 55, 56, 57, 58, 59, 60, 61, 62, 63, 64] (by decide +kernel) (by decide +kernel)
set_option maxRecDepth 20000 in
theorem gX8_forget_X8_guessesBy : GoodIn wsX8_forget (wsV RX8 179 RX8 yX8_guessesBy wsX8_guessesBy) := goodIn_app (goodIn_of _ (by decide +kernel)) ggX8_forget_X8_guessesBy
theorem dX8_forget_0 : decode cX8_forget 0 = .ok (.aload_n 0, 1) := by decide +kernel
theorem dX8_forget_1 : decode cX8_forget 1 = .ok (.iload_n 1, 1) := by decide +kernel
theorem dX8_forget_2 : decode cX8_forget 2 = .ok (.invokevirtual 133, 3) := by decide +kernel
theorem dX8_forget_5 : decode cX8_forget 5 = .ok (.ifCond .ne 7, 3) := by decide +kernel
theorem dX8_forget_8 : decode cX8_forget 8 = .ok (.iconst (-1), 1) := by decide +kernel
theorem dX8_forget_9 : decode cX8_forget 9 = .ok (.goto 19, 3) := by decide +kernel
theorem dX8_forget_12 : decode cX8_forget 12 = .ok (.aload_n 0, 1) := by decide +kernel
theorem dX8_forget_13 : decode cX8_forget 13 = .ok (.getfield 37, 3) := by decide +kernel
theorem dX8_forget_16 : decode cX8_forget 16 = .ok (.iload_n 1, 1) := by decide +kernel
theorem dX8_forget_17 : decode cX8_forget 17 = .ok (.iaload, 1) := by decide +kernel
theorem dX8_forget_18 : decode cX8_forget 18 = .ok (.iconst 1, 1) := by decide +kernel
theorem dX8_forget_19 : decode cX8_forget 19 = .ok (.if_icmp .ne 8, 3) := by decide +kernel
theorem dX8_forget_22 : decode cX8_forget 22 = .ok (.bipush (-3), 2) := by decide +kernel
theorem dX8_forget_24 : decode cX8_forget 24 = .ok (.goto 4, 3) := by decide +kernel
theorem dX8_forget_27 : decode cX8_forget 27 = .ok (.iconst 0, 1) := by decide +kernel
theorem dX8_forget_28 : decode cX8_forget 28 = .ok (.istore_n 2, 1) := by decide +kernel
theorem dX8_forget_29 : decode cX8_forget 29 = .ok (.iload_n 2, 1) := by decide +kernel
theorem dX8_forget_30 : decode cX8_forget 30 = .ok (.ifCond .eq 9, 3) := by decide +kernel
theorem dX8_forget_33 : decode cX8_forget 33 = .ok (.aload_n 0, 1) := by decide +kernel
theorem dX8_forget_34 : decode cX8_forget 34 = .ok (.iload_n 2, 1) := by decide +kernel
theorem dX8_forget_35 : decode cX8_forget 35 = .ok (.invokevirtual 86, 3) := by decide +kernel
theorem dX8_forget_38 : decode cX8_forget 38 = .ok (.ireturn, 1) := by decide +kernel
theorem dX8_forget_39 : decode cX8_forget 39 = .ok (.bipush (-9), 2) := by decide +kernel
theorem dX8_forget_41 : decode cX8_forget 41 = .ok (.istore_n 3, 1) := by decide +kernel
theorem dX8_forget_42 : decode cX8_forget 42 = .ok (.iconst 0, 1) := by decide +kernel
theorem dX8_forget_43 : decode cX8_forget 43 = .ok (.istore 4, 2) := by decide +kernel
theorem dX8_forget_45 : decode cX8_forget 45 = .ok (.iload 4, 2) := by decide +kernel
theorem dX8_forget_47 : decode cX8_forget 47 = .ok (.bipush 63, 2) := by decide +kernel
theorem dX8_forget_49 : decode cX8_forget 49 = .ok (.if_icmp .gt 73, 3) := by decide +kernel
theorem dX8_forget_52 : decode cX8_forget 52 = .ok (.iload 4, 2) := by decide +kernel
theorem dX8_forget_54 : decode cX8_forget 54 = .ok (.aload_n 0, 1) := by decide +kernel
theorem dX8_forget_55 : decode cX8_forget 55 = .ok (.getfield 28, 3) := by decide +kernel
theorem dX8_forget_58 : decode cX8_forget 58 = .ok (.iload_n 1, 1) := by decide +kernel
theorem dX8_forget_59 : decode cX8_forget 59 = .ok (.iaload, 1) := by decide +kernel
theorem dX8_forget_60 : decode cX8_forget 60 = .ok (.iconst (-1), 1) := by decide +kernel
theorem dX8_forget_61 : decode cX8_forget 61 = .ok (.ixor, 1) := by decide +kernel
theorem dX8_forget_62 : decode cX8_forget 62 = .ok (.iand, 1) := by decide +kernel
theorem dX8_forget_63 : decode cX8_forget 63 = .ok (.ifCond .ne 53, 3) := by decide +kernel
theorem dX8_forget_66 : decode cX8_forget 66 = .ok (.iload_n 3, 1) := by decide +kernel
theorem dX8_forget_67 : decode cX8_forget 67 = .ok (.ifCond .lt 18, 3) := by decide +kernel
theorem dX8_forget_70 : decode cX8_forget 70 = .ok (.iload 4, 2) := by decide +kernel
theorem dX8_forget_72 : decode cX8_forget 72 = .ok (.invokestatic 186, 3) := by decide +kernel
theorem dX8_forget_75 : decode cX8_forget 75 = .ok (.iload_n 3, 1) := by decide +kernel
theorem dX8_forget_76 : decode cX8_forget 76 = .ok (.invokestatic 186, 3) := by decide +kernel
theorem dX8_forget_79 : decode cX8_forget 79 = .ok (.if_icmp .lt 6, 3) := by decide +kernel
theorem dX8_forget_82 : decode cX8_forget 82 = .ok (.goto 34, 3) := by decide +kernel
theorem dX8_forget_85 : decode cX8_forget 85 = .ok (.aload_n 0, 1) := by decide +kernel
theorem dX8_forget_86 : decode cX8_forget 86 = .ok (.aload_n 0, 1) := by decide +kernel
theorem dX8_forget_87 : decode cX8_forget 87 = .ok (.getfield 28, 3) := by decide +kernel
theorem dX8_forget_90 : decode cX8_forget 90 = .ok (.iload_n 1, 1) := by decide +kernel
theorem dX8_forget_91 : decode cX8_forget 91 = .ok (.iaload, 1) := by decide +kernel
theorem dX8_forget_92 : decode cX8_forget 92 = .ok (.iload 4, 2) := by decide +kernel
theorem dX8_forget_94 : decode cX8_forget 94 = .ok (.iconst (-1), 1) := by decide +kernel
theorem dX8_forget_95 : decode cX8_forget 95 = .ok (.ixor, 1) := by decide +kernel
theorem dX8_forget_96 : decode cX8_forget 96 = .ok (.iand, 1) := by decide +kernel
theorem dX8_forget_97 : decode cX8_forget 97 = .ok (.aload_n 0, 1) := by decide +kernel
theorem dX8_forget_98 : decode cX8_forget 98 = .ok (.getfield 31, 3) := by decide +kernel
theorem dX8_forget_101 : decode cX8_forget 101 = .ok (.iload_n 1, 1) := by decide +kernel
theorem dX8_forget_102 : decode cX8_forget 102 = .ok (.iaload, 1) := by decide +kernel
theorem dX8_forget_103 : decode cX8_forget 103 = .ok (.invokevirtual 179, 3) := by decide +kernel
theorem dX8_forget_106 : decode cX8_forget 106 = .ok (.invokestatic 186, 3) := by decide +kernel
theorem dX8_forget_109 : decode cX8_forget 109 = .ok (.iconst 1, 1) := by decide +kernel
theorem dX8_forget_110 : decode cX8_forget 110 = .ok (.if_icmp .eq 6, 3) := by decide +kernel
theorem dX8_forget_113 : decode cX8_forget 113 = .ok (.iload 4, 2) := by decide +kernel
theorem dX8_forget_115 : decode cX8_forget 115 = .ok (.istore_n 3, 1) := by decide +kernel
theorem dX8_forget_116 : decode cX8_forget 116 = .ok (.iinc 4 1, 3) := by decide +kernel
theorem dX8_forget_119 : decode cX8_forget 119 = .ok (.goto (-74), 3) := by decide +kernel
theorem dX8_forget_122 : decode cX8_forget 122 = .ok (.iload_n 3, 1) := by decide +kernel
theorem dX8_forget_123 : decode cX8_forget 123 = .ok (.ireturn, 1) := by decide +kernel
set_option maxRecDepth 20000 in
theorem ggX8_drink_X8_isGroom : GoodIn wsX8_drink wsX8_isGroom := goodIn_r _ [5, 6, 66, 67, 68, 69, 70, 71, 72, 73, 74, 75, 76, 77, 78, 79, 80, 81, 82, 83, 84, 85, 86, 87, 88, 89, 90, 91, 92, 93, 94] (by decide +kernel) (by decide +kernel)
set_option maxRecDepth 20000 in
theorem gX8_drink_X8_isGroom : GoodIn wsX8_drink (wsV RX8 133 RX8 yX8_isGroom wsX8_isGroom) := goodIn_app (goodIn_of _ (by decide +kernel)) ggX8_drink_X8_isGroom
set_option maxRecDepth 20000 in
theorem ggX8_drink_X8_isBride : GoodIn wsX8_drink wsX8_isBride := goodIn_r _ [10, 11, 66, 67, 68, 69, 70, 71, 72, 73, 74, 75, 76, 77, 78, 79, 80, 81, 82, 83, 84, 85, 86, 87, 88, 89, 90, 91, 92, 93, 94] (by decide +kernel) (by decide +kernel)
set_option maxRecDepth 20000 in
theorem gX8_drink_X8_isBride : GoodIn wsX8_drink (wsV RX8 130 RX8 yX8_isBride wsX8_isBride) := goodIn_app (goodIn_of _ (by decide +kernel)) ggX8_drink_X8_isBride
set_option maxRecDepth 20000 in
theorem ggX8_drink_X8_no : GoodIn wsX8_drink wsX8_no := goodIn_r _ [15, 16, 66, 67, 68, 69, 70, 71, 72, 73, 74, 75, 76, 77, 78, 79, 80, 81, 82, 83, 84, 85, 86, 87, 88, 89, 90, 91, 92, 93, 94] (by decide +kernel) (by decide +kernel)
set_option maxRecDepth 20000 in
theorem gX8_drink_X8_no : GoodIn wsX8_drink (wsV RX8 86 RX8 yX8_no wsX8_no) := goodIn_app (goodIn_of _ (by decide +kernel)) ggX8_drink_X8_no
set_option maxRecDepth 20000 in
theorem ggX8_drink_X8_canWed : GoodIn wsX8_drink wsX8_canWed := goodIn_r _ [20, 21, 22, 23, 24, 4, 25, 11, 26, 66, 67, 68, 69, 70, 71, 72, 73, 74, 75, 76, 77, 78, 79, 80, 81, 82, 83, 84, 85, 86, 87, 88, 89, 90, 91, 92, 93, 94] (by decide +kernel) (by decide +kernel)
set_option maxRecDepth 20000 in
theorem gX8_drink_X8_canWed : GoodIn wsX8_drink (wsV RX8 136 RX8 yX8_canWed wsX8_canWed) := goodIn_app (goodIn_of _ (by decide +kernel)) ggX8_drink_X8_canWed
set_option maxRecDepth 20000 in
theorem ggX8_drink_X8_knows : GoodIn wsX8_drink wsX8_knows := goodIn_r _ [30, 31, 32, 33, 4, 34, 35, 36, 37, 38, 39, 40, 11, 26, 41, 42, 43, 44, 45, 46, 47, 48, 49, 50, 51, 52, 53, 54, 55, 56, 57, 58, 59, 60, 61, 66, 67, 68, 69, 70, 71, 72, 73, 74, 75, 76, 77, 78, 79, 80, 81, 82, 83, 84, 85, 86, 87, 88, 89, 90, 91, 92, 93, 94] (by decide +kernel) (by decide +kernel)
set_option maxRecDepth 20000 in
theorem gX8_drink_X8_knows : GoodIn wsX8_drink (wsV RX8 195 RX8 yX8_knows wsX8_knows) := goodIn_app (goodIn_of _ (by decide +kernel)) ggX8_drink_X8_knows
set_option maxRecDepth 20000 in
theorem ggX8_drink_X8_takenBy : GoodIn wsX8_drink wsX8_takenBy := goodIn_r _ [65, 31, 32, 33, 4, 34, 35, 36, 37, 38, 39, 40, 11, 26, 41, 42, 43, 44, 45, 46, 47, 48, 49, 50, 51, 52, 22, 23, 24, 25, 53, 54, 55, 56, 57, 58, 59, 60, 61, 66, 67, 68, 69, 70, 71, 72, 73, 74, 75, 76, 77, 78, 79, 80, 81, 82, 83, 84, 85, 86, 87, 88, 89, 90, 91, 92, 93, 94] (by decide +kernel) (by decide +kernel)
set_option maxRecDepth 20000 in
theorem gX8_drink_X8_takenBy : GoodIn wsX8_drink (wsV RX8 202 RX8 yX8_takenBy wsX8_takenBy) := goodIn_app (goodIn_of _ (by decide +kernel)) ggX8_drink_X8_takenBy
theorem dX8_drink_0 : decode cX8_drink 0 = .ok (.aload_n 0, 1) := by decide +kernel
theorem dX8_drink_1 : decode cX8_drink 1 = .ok (.iload_n 1, 1) := by decide +kernel
theorem dX8_drink_2 : decode cX8_drink 2 = .ok (.invokevirtual 133, 3) := by decide +kernel
theorem dX8_drink_5 : decode cX8_drink 5 = .ok (.ifCond .eq 11, 3) := by decide +kernel
theorem dX8_drink_8 : decode cX8_drink 8 = .ok (.aload_n 0, 1) := by decide +kernel
theorem dX8_drink_9 : decode cX8_drink 9 = .ok (.iload_n 2, 1) := by decide +kernel
theorem dX8_drink_10 : decode cX8_drink 10 = .ok (.invokevirtual 130, 3) := by decide +kernel
theorem dX8_drink_13 : decode cX8_drink 13 = .ok (.ifCond .ne 9, 3) := by decide +kernel
theorem dX8_drink_16 : decode cX8_drink 16 = .ok (.aload_n 0, 1) := by decide +kernel
theorem dX8_drink_17 : decode cX8_drink 17 = .ok (.iconst (-1), 1) := by decide +kernel
theorem dX8_drink_18 : decode cX8_drink 18 = .ok (.invokevirtual 86, 3) := by decide +kernel
theorem dX8_drink_21 : decode cX8_drink 21 = .ok (.ireturn, 1) := by decide +kernel
theorem dX8_drink_22 : decode cX8_drink 22 = .ok (.aload_n 0, 1) := by decide +kernel
theorem dX8_drink_23 : decode cX8_drink 23 = .ok (.iload_n 1, 1) := by decide +kernel
theorem dX8_drink_24 : decode cX8_drink 24 = .ok (.invokevirtual 136, 3) := by decide +kernel
theorem dX8_drink_27 : decode cX8_drink 27 = .ok (.ifCond .eq 11, 3) := by decide +kernel
theorem dX8_drink_30 : decode cX8_drink 30 = .ok (.aload_n 0, 1) := by decide +kernel
theorem dX8_drink_31 : decode cX8_drink 31 = .ok (.iload_n 1, 1) := by decide +kernel
theorem dX8_drink_32 : decode cX8_drink 32 = .ok (.invokevirtual 195, 3) := by decide +kernel
theorem dX8_drink_35 : decode cX8_drink 35 = .ok (.ifCond .lt 6, 3) := by decide +kernel
theorem dX8_drink_38 : decode cX8_drink 38 = .ok (.bipush (-9), 2) := by decide +kernel
theorem dX8_drink_40 : decode cX8_drink 40 = .ok (.ireturn, 1) := by decide +kernel
theorem dX8_drink_41 : decode cX8_drink 41 = .ok (.iconst 0, 1) := by decide +kernel
theorem dX8_drink_42 : decode cX8_drink 42 = .ok (.istore_n 3, 1) := by decide +kernel
theorem dX8_drink_43 : decode cX8_drink 43 = .ok (.iload_n 3, 1) := by decide +kernel
theorem dX8_drink_44 : decode cX8_drink 44 = .ok (.bipush 10, 2) := by decide +kernel
theorem dX8_drink_46 : decode cX8_drink 46 = .ok (.if_icmp .ge 21, 3) := by decide +kernel
theorem dX8_drink_49 : decode cX8_drink 49 = .ok (.aload_n 0, 1) := by decide +kernel
theorem dX8_drink_50 : decode cX8_drink 50 = .ok (.iload_n 1, 1) := by decide +kernel
theorem dX8_drink_51 : decode cX8_drink 51 = .ok (.iload_n 3, 1) := by decide +kernel
theorem dX8_drink_52 : decode cX8_drink 52 = .ok (.invokevirtual 202, 3) := by decide +kernel
theorem dX8_drink_55 : decode cX8_drink 55 = .ok (.iload_n 2, 1) := by decide +kernel
theorem dX8_drink_56 : decode cX8_drink 56 = .ok (.if_icmp .ne 5, 3) := by decide +kernel
theorem dX8_drink_59 : decode cX8_drink 59 = .ok (.iload_n 3, 1) := by decide +kernel
theorem dX8_drink_60 : decode cX8_drink 60 = .ok (.ireturn, 1) := by decide +kernel
theorem dX8_drink_61 : decode cX8_drink 61 = .ok (.iinc 3 1, 3) := by decide +kernel
theorem dX8_drink_64 : decode cX8_drink 64 = .ok (.goto (-21), 3) := by decide +kernel
theorem dX8_drink_67 : decode cX8_drink 67 = .ok (.bipush (-9), 2) := by decide +kernel
theorem dX8_drink_69 : decode cX8_drink 69 = .ok (.ireturn, 1) := by decide +kernel
set_option maxRecDepth 20000 in
theorem ggX8_away_X8_knownOnes : GoodIn wsX8_away wsX8_knownOnes := goodIn_r _ [7, 8, 9, 10, 11, 12, 6, 13, 14, 15, 16, 17, 18, 19, 20, 21, 22, 23, 1, 2, 24, 25, 26, 27, 28, 29, 30, 31, 32, 33, 34, 35, 36, 37, 38, 39, 40, 41, 42, 43, 44, 45, 46, 47, 48, 49, 50, 51, 52, 53, 54, 55, 56, 57, 58, 59, 60, 61, 62, 63, 64, 65, 66, 67, 68, 69, 70, 71, 72, 73] (by decide +kernel) (by decide +kernel)
set_option maxRecDepth 20000 in
theorem gX8_away_X8_knownOnes : GoodIn wsX8_away (wsV RX8 214 RX8 yX8_knownOnes wsX8_knownOnes) := goodIn_app (goodIn_of _ (by decide +kernel)) ggX8_away_X8_knownOnes
set_option maxRecDepth 20000 in
theorem ggX8_away_X8_bits : GoodIn wsX8_away wsX8_bits := goodIn_r _ [38] (by decide +kernel) (by decide +kernel)
set_option maxRecDepth 20000 in
theorem gX8_away_X8_bits : GoodIn wsX8_away (va_wsS RX8 186 yX8_bits wsX8_bits) := goodIn_app (goodIn_of _ (by decide +kernel)) ggX8_away_X8_bits
theorem dX8_away_0 : decode cX8_away 0 = .ok (.bipush (-9), 2) := by decide +kernel
theorem dX8_away_2 : decode cX8_away 2 = .ok (.istore_n 1, 1) := by decide +kernel
theorem dX8_away_3 : decode cX8_away 3 = .ok (.aload_n 0, 1) := by decide +kernel
theorem dX8_away_4 : decode cX8_away 4 = .ok (.invokevirtual 214, 3) := by decide +kernel
theorem dX8_away_7 : decode cX8_away 7 = .ok (.invokestatic 186, 3) := by decide +kernel
theorem dX8_away_10 : decode cX8_away 10 = .ok (.istore_n 2, 1) := by decide +kernel
theorem dX8_away_11 : decode cX8_away 11 = .ok (.iconst 0, 1) := by decide +kernel
theorem dX8_away_12 : decode cX8_away 12 = .ok (.istore_n 3, 1) := by decide +kernel
theorem dX8_away_13 : decode cX8_away 13 = .ok (.iload_n 3, 1) := by decide +kernel
theorem dX8_away_14 : decode cX8_away 14 = .ok (.aload_n 0, 1) := by decide +kernel
theorem dX8_away_15 : decode cX8_away 15 = .ok (.getfield 66, 3) := by decide +kernel
theorem dX8_away_18 : decode cX8_away 18 = .ok (.if_icmp .ge 58, 3) := by decide +kernel
theorem dX8_away_21 : decode cX8_away 21 = .ok (.aload_n 0, 1) := by decide +kernel
theorem dX8_away_22 : decode cX8_away 22 = .ok (.getfield 22, 3) := by decide +kernel
theorem dX8_away_25 : decode cX8_away 25 = .ok (.iload_n 3, 1) := by decide +kernel
theorem dX8_away_26 : decode cX8_away 26 = .ok (.iaload, 1) := by decide +kernel
theorem dX8_away_27 : decode cX8_away 27 = .ok (.ifCond .eq 6, 3) := by decide +kernel
theorem dX8_away_30 : decode cX8_away 30 = .ok (.goto 40, 3) := by decide +kernel
theorem dX8_away_33 : decode cX8_away 33 = .ok (.aload_n 0, 1) := by decide +kernel
theorem dX8_away_34 : decode cX8_away 34 = .ok (.getfield 22, 3) := by decide +kernel
theorem dX8_away_37 : decode cX8_away 37 = .ok (.iload_n 3, 1) := by decide +kernel
theorem dX8_away_38 : decode cX8_away 38 = .ok (.iconst 1, 1) := by decide +kernel
theorem dX8_away_39 : decode cX8_away 39 = .ok (.iastore, 1) := by decide +kernel
theorem dX8_away_40 : decode cX8_away 40 = .ok (.aload_n 0, 1) := by decide +kernel
theorem dX8_away_41 : decode cX8_away 41 = .ok (.invokevirtual 214, 3) := by decide +kernel
theorem dX8_away_44 : decode cX8_away 44 = .ok (.invokestatic 186, 3) := by decide +kernel
theorem dX8_away_47 : decode cX8_away 47 = .ok (.istore 4, 2) := by decide +kernel
theorem dX8_away_49 : decode cX8_away 49 = .ok (.aload_n 0, 1) := by decide +kernel
theorem dX8_away_50 : decode cX8_away 50 = .ok (.getfield 22, 3) := by decide +kernel
theorem dX8_away_53 : decode cX8_away 53 = .ok (.iload_n 3, 1) := by decide +kernel
theorem dX8_away_54 : decode cX8_away 54 = .ok (.iconst 0, 1) := by decide +kernel
theorem dX8_away_55 : decode cX8_away 55 = .ok (.iastore, 1) := by decide +kernel
theorem dX8_away_56 : decode cX8_away 56 = .ok (.iload 4, 2) := by decide +kernel
theorem dX8_away_58 : decode cX8_away 58 = .ok (.iload_n 2, 1) := by decide +kernel
theorem dX8_away_59 : decode cX8_away 59 = .ok (.if_icmp .lt 6, 3) := by decide +kernel
theorem dX8_away_62 : decode cX8_away 62 = .ok (.goto 8, 3) := by decide +kernel
theorem dX8_away_65 : decode cX8_away 65 = .ok (.iload_n 3, 1) := by decide +kernel
theorem dX8_away_66 : decode cX8_away 66 = .ok (.istore_n 1, 1) := by decide +kernel
theorem dX8_away_67 : decode cX8_away 67 = .ok (.iload 4, 2) := by decide +kernel
theorem dX8_away_69 : decode cX8_away 69 = .ok (.istore_n 2, 1) := by decide +kernel
theorem dX8_away_70 : decode cX8_away 70 = .ok (.iinc 3 1, 3) := by decide +kernel
theorem dX8_away_73 : decode cX8_away 73 = .ok (.goto (-60), 3) := by decide +kernel
theorem dX8_away_76 : decode cX8_away 76 = .ok (.iload_n 1, 1) := by decide +kernel
theorem dX8_away_77 : decode cX8_away 77 = .ok (.ireturn, 1) := by decide +kernel
set_option maxRecDepth 20000 in
theorem ggX8_isPair_X8_knows : GoodIn wsX8_isPair wsX8_knows := goodIn_r _ [7, 8, 9, 10, 6, 11, 12, 13, 14, 15, 16, 17, 18, 2, 19, 20, 21, 22, 23, 24, 25, 26, 27, 28, 29, 30, 31, 32, 33, 34, 35, 36, 37, 38, 39, 40, 41, 42, 43, 44, 45, 46, 47, 48, 49, 50, 51, 52, 53, 54, 55, 56, 57, 58, 59, 60, 61, 62, 63, 64, 65, 66, 67, 68] (by decide +kernel) (by decide +kernel)
set_option maxRecDepth 20000 in
theorem gX8_isPair_X8_knows : GoodIn wsX8_isPair (wsV RX8 195 RX8 yX8_knows wsX8_knows) := goodIn_app (goodIn_of _ (by decide +kernel)) ggX8_isPair_X8_knows
theorem dX8_isPair_0 : decode cX8_isPair 0 = .ok (.aload_n 0, 1) := by decide +kernel
theorem dX8_isPair_1 : decode cX8_isPair 1 = .ok (.getfield 37, 3) := by decide +kernel
theorem dX8_isPair_4 : decode cX8_isPair 4 = .ok (.iload_n 1, 1) := by decide +kernel
theorem dX8_isPair_5 : decode cX8_isPair 5 = .ok (.iaload, 1) := by decide +kernel
theorem dX8_isPair_6 : decode cX8_isPair 6 = .ok (.ifCond .ne 25, 3) := by decide +kernel
theorem dX8_isPair_9 : decode cX8_isPair 9 = .ok (.aload_n 0, 1) := by decide +kernel
theorem dX8_isPair_10 : decode cX8_isPair 10 = .ok (.getfield 22, 3) := by decide +kernel
theorem dX8_isPair_13 : decode cX8_isPair 13 = .ok (.iload_n 2, 1) := by decide +kernel
theorem dX8_isPair_14 : decode cX8_isPair 14 = .ok (.iaload, 1) := by decide +kernel
theorem dX8_isPair_15 : decode cX8_isPair 15 = .ok (.ifCond .ne 16, 3) := by decide +kernel
theorem dX8_isPair_18 : decode cX8_isPair 18 = .ok (.aload_n 0, 1) := by decide +kernel
theorem dX8_isPair_19 : decode cX8_isPair 19 = .ok (.iload_n 1, 1) := by decide +kernel
theorem dX8_isPair_20 : decode cX8_isPair 20 = .ok (.invokevirtual 195, 3) := by decide +kernel
theorem dX8_isPair_23 : decode cX8_isPair 23 = .ok (.iload_n 2, 1) := by decide +kernel
theorem dX8_isPair_24 : decode cX8_isPair 24 = .ok (.if_icmp .eq 7, 3) := by decide +kernel
theorem dX8_isPair_27 : decode cX8_isPair 27 = .ok (.iconst 1, 1) := by decide +kernel
theorem dX8_isPair_28 : decode cX8_isPair 28 = .ok (.goto 4, 3) := by decide +kernel
theorem dX8_isPair_31 : decode cX8_isPair 31 = .ok (.iconst 0, 1) := by decide +kernel
theorem dX8_isPair_32 : decode cX8_isPair 32 = .ok (.ireturn, 1) := by decide +kernel
set_option maxRecDepth 20000 in
theorem ggX8_findPairs_X8_isPair : GoodIn wsX8_findPairs wsX8_isPair := goodIn_r _ [8, 9, 10, 11, 12, 13, 7, 14, 15, 16, 17, 18, 19, 20, 21, 22, 23, 24, 3, 25, 26, 27, 28, 29, 30, 31, 32, 33, 34, 35, 36, 37, 38, 39, 40, 41, 42, 43, 44, 45, 50, 51, 52, 53, 54, 55, 56, 57, 58, 59, 60, 61, 62, 63, 64, 65, 66, 67, 68, 69, 70, 71, 72, 73, 74, 75, 76, 77, 78] (by decide +kernel) (by decide +kernel)
set_option maxRecDepth 20000 in
theorem gX8_findPairs_X8_isPair : GoodIn wsX8_findPairs (wsV RX8 217 RX8 yX8_isPair wsX8_isPair) := goodIn_app (goodIn_of _ (by decide +kernel)) ggX8_findPairs_X8_isPair
set_option maxRecDepth 20000 in
theorem ggX8_findPairs_X8_findPairsWith : GoodIn wsX8_findPairs wsX8_findPairsWith := goodIn_r _ [49, 1, 43, 44, 7, 45, 50, 51, 52, 53, 54, 55, 56, 57, 58, 59, 60, 61, 62, 63, 64, 65, 66, 67, 68, 69, 70, 71, 72, 73, 74, 75, 76, 77, 78] (by decide +kernel) (by decide +kernel)
set_option maxRecDepth 20000 in
theorem gX8_findPairs_X8_findPairsWith : GoodIn wsX8_findPairs (wsV RX8 220 RX8 yX8_findPairsWith wsX8_findPairsWith) := goodIn_app (goodIn_of _ (by decide +kernel)) ggX8_findPairs_X8_findPairsWith
theorem dX8_findPairs_0 : decode cX8_findPairs 0 = .ok (.iconst 0, 1) := by decide +kernel
theorem dX8_findPairs_1 : decode cX8_findPairs 1 = .ok (.istore_n 1, 1) := by decide +kernel
theorem dX8_findPairs_2 : decode cX8_findPairs 2 = .ok (.iload_n 1, 1) := by decide +kernel
theorem dX8_findPairs_3 : decode cX8_findPairs 3 = .ok (.sipush 256, 3) := by decide +kernel
theorem dX8_findPairs_6 : decode cX8_findPairs 6 = .ok (.if_icmp .ge 21, 3) := by decide +kernel
theorem dX8_findPairs_9 : decode cX8_findPairs 9 = .ok (.aload_n 0, 1) := by decide +kernel
theorem dX8_findPairs_10 : decode cX8_findPairs 10 = .ok (.getfield 57, 3) := by decide +kernel
theorem dX8_findPairs_13 : decode cX8_findPairs 13 = .ok (.aload_n 0, 1) := by decide +kernel
theorem dX8_findPairs_14 : decode cX8_findPairs 14 = .ok (.getfield 76, 3) := by decide +kernel
theorem dX8_findPairs_17 : decode cX8_findPairs 17 = .ok (.aaload, 1) := by decide +kernel
theorem dX8_findPairs_18 : decode cX8_findPairs 18 = .ok (.iload_n 1, 1) := by decide +kernel
theorem dX8_findPairs_19 : decode cX8_findPairs 19 = .ok (.iconst 0, 1) := by decide +kernel
theorem dX8_findPairs_20 : decode cX8_findPairs 20 = .ok (.iastore, 1) := by decide +kernel
theorem dX8_findPairs_21 : decode cX8_findPairs 21 = .ok (.iinc 1 1, 3) := by decide +kernel
theorem dX8_findPairs_24 : decode cX8_findPairs 24 = .ok (.goto (-22), 3) := by decide +kernel
theorem dX8_findPairs_27 : decode cX8_findPairs 27 = .ok (.aload_n 0, 1) := by decide +kernel
theorem dX8_findPairs_28 : decode cX8_findPairs 28 = .ok (.getfield 76, 3) := by decide +kernel
theorem dX8_findPairs_31 : decode cX8_findPairs 31 = .ok (.iconst 1, 1) := by decide +kernel
theorem dX8_findPairs_32 : decode cX8_findPairs 32 = .ok (.isub, 1) := by decide +kernel
theorem dX8_findPairs_33 : decode cX8_findPairs 33 = .ok (.istore_n 1, 1) := by decide +kernel
theorem dX8_findPairs_34 : decode cX8_findPairs 34 = .ok (.iload_n 1, 1) := by decide +kernel
theorem dX8_findPairs_35 : decode cX8_findPairs 35 = .ok (.ifCond .lt 73, 3) := by decide +kernel
theorem dX8_findPairs_38 : decode cX8_findPairs 38 = .ok (.iconst 0, 1) := by decide +kernel
theorem dX8_findPairs_39 : decode cX8_findPairs 39 = .ok (.istore_n 2, 1) := by decide +kernel
theorem dX8_findPairs_40 : decode cX8_findPairs 40 = .ok (.iload_n 2, 1) := by decide +kernel
theorem dX8_findPairs_41 : decode cX8_findPairs 41 = .ok (.sipush 256, 3) := by decide +kernel
theorem dX8_findPairs_44 : decode cX8_findPairs 44 = .ok (.if_icmp .ge 27, 3) := by decide +kernel
theorem dX8_findPairs_47 : decode cX8_findPairs 47 = .ok (.aload_n 0, 1) := by decide +kernel
theorem dX8_findPairs_48 : decode cX8_findPairs 48 = .ok (.getfield 57, 3) := by decide +kernel
theorem dX8_findPairs_51 : decode cX8_findPairs 51 = .ok (.iload_n 1, 1) := by decide +kernel
theorem dX8_findPairs_52 : decode cX8_findPairs 52 = .ok (.aaload, 1) := by decide +kernel
theorem dX8_findPairs_53 : decode cX8_findPairs 53 = .ok (.iload_n 2, 1) := by decide +kernel
theorem dX8_findPairs_54 : decode cX8_findPairs 54 = .ok (.aload_n 0, 1) := by decide +kernel
theorem dX8_findPairs_55 : decode cX8_findPairs 55 = .ok (.getfield 57, 3) := by decide +kernel
theorem dX8_findPairs_58 : decode cX8_findPairs 58 = .ok (.iload_n 1, 1) := by decide +kernel
theorem dX8_findPairs_59 : decode cX8_findPairs 59 = .ok (.iconst 1, 1) := by decide +kernel
theorem dX8_findPairs_60 : decode cX8_findPairs 60 = .ok (.iadd, 1) := by decide +kernel
theorem dX8_findPairs_61 : decode cX8_findPairs 61 = .ok (.aaload, 1) := by decide +kernel
theorem dX8_findPairs_62 : decode cX8_findPairs 62 = .ok (.iload_n 2, 1) := by decide +kernel
theorem dX8_findPairs_63 : decode cX8_findPairs 63 = .ok (.iaload, 1) := by decide +kernel
theorem dX8_findPairs_64 : decode cX8_findPairs 64 = .ok (.iastore, 1) := by decide +kernel
theorem dX8_findPairs_65 : decode cX8_findPairs 65 = .ok (.iinc 2 1, 3) := by decide +kernel
theorem dX8_findPairs_68 : decode cX8_findPairs 68 = .ok (.goto (-28), 3) := by decide +kernel
theorem dX8_findPairs_71 : decode cX8_findPairs 71 = .ok (.iconst 0, 1) := by decide +kernel
theorem dX8_findPairs_72 : decode cX8_findPairs 72 = .ok (.istore_n 2, 1) := by decide +kernel
theorem dX8_findPairs_73 : decode cX8_findPairs 73 = .ok (.iload_n 2, 1) := by decide +kernel
theorem dX8_findPairs_74 : decode cX8_findPairs 74 = .ok (.aload_n 0, 1) := by decide +kernel
theorem dX8_findPairs_75 : decode cX8_findPairs 75 = .ok (.getfield 66, 3) := by decide +kernel
theorem dX8_findPairs_78 : decode cX8_findPairs 78 = .ok (.if_icmp .ge 24, 3) := by decide +kernel
theorem dX8_findPairs_81 : decode cX8_findPairs 81 = .ok (.aload_n 0, 1) := by decide +kernel
theorem dX8_findPairs_82 : decode cX8_findPairs 82 = .ok (.iload_n 1, 1) := by decide +kernel
theorem dX8_findPairs_83 : decode cX8_findPairs 83 = .ok (.iload_n 2, 1) := by decide +kernel
theorem dX8_findPairs_84 : decode cX8_findPairs 84 = .ok (.invokevirtual 217, 3) := by decide +kernel
theorem dX8_findPairs_87 : decode cX8_findPairs 87 = .ok (.ifCond .eq 9, 3) := by decide +kernel
theorem dX8_findPairs_90 : decode cX8_findPairs 90 = .ok (.aload_n 0, 1) := by decide +kernel
theorem dX8_findPairs_91 : decode cX8_findPairs 91 = .ok (.iload_n 1, 1) := by decide +kernel
theorem dX8_findPairs_92 : decode cX8_findPairs 92 = .ok (.iload_n 2, 1) := by decide +kernel
theorem dX8_findPairs_93 : decode cX8_findPairs 93 = .ok (.invokevirtual 220, 3) := by decide +kernel
theorem dX8_findPairs_96 : decode cX8_findPairs 96 = .ok (.iinc 2 1, 3) := by decide +kernel
theorem dX8_findPairs_99 : decode cX8_findPairs 99 = .ok (.goto (-26), 3) := by decide +kernel
theorem dX8_findPairs_102 : decode cX8_findPairs 102 = .ok (.iinc 1 (-1), 3) := by decide +kernel
theorem dX8_findPairs_105 : decode cX8_findPairs 105 = .ok (.goto (-71), 3) := by decide +kernel
theorem dX8_findPairs_108 : decode cX8_findPairs 108 = .ok (.return_, 1) := by decide +kernel
set_option maxRecDepth 20000 in
theorem ggX8_findPairsWith_X8_has : GoodIn wsX8_findPairsWith wsX8_has := goodIn_r _ [5] (by decide +kernel) (by decide +kernel)
set_option maxRecDepth 20000 in
theorem gX8_findPairsWith_X8_has : GoodIn wsX8_findPairsWith (va_wsS RX8 72 yX8_has wsX8_has) := goodIn_app (goodIn_of _ (by decide +kernel)) ggX8_findPairsWith_X8_has
theorem dX8_findPairsWith_0 : decode cX8_findPairsWith 0 = .ok (.iconst 0, 1) := by decide +kernel
theorem dX8_findPairsWith_1 : decode cX8_findPairsWith 1 = .ok (.istore_n 3, 1) := by decide +kernel
theorem dX8_findPairsWith_2 : decode cX8_findPairsWith 2 = .ok (.iload_n 3, 1) := by decide +kernel
theorem dX8_findPairsWith_3 : decode cX8_findPairsWith 3 = .ok (.sipush 256, 3) := by decide +kernel
theorem dX8_findPairsWith_6 : decode cX8_findPairsWith 6 = .ok (.if_icmp .ge 74, 3) := by decide +kernel
theorem dX8_findPairsWith_9 : decode cX8_findPairsWith 9 = .ok (.iload_n 3, 1) := by decide +kernel
theorem dX8_findPairsWith_10 : decode cX8_findPairsWith 10 = .ok (.iload_n 2, 1) := by decide +kernel
theorem dX8_findPairsWith_11 : decode cX8_findPairsWith 11 = .ok (.invokestatic 72, 3) := by decide +kernel
theorem dX8_findPairsWith_14 : decode cX8_findPairsWith 14 = .ok (.ifCond .ne 6, 3) := by decide +kernel
theorem dX8_findPairsWith_17 : decode cX8_findPairsWith 17 = .ok (.goto 57, 3) := by decide +kernel
theorem dX8_findPairsWith_20 : decode cX8_findPairsWith 20 = .ok (.iconst 1, 1) := by decide +kernel
theorem dX8_findPairsWith_21 : decode cX8_findPairsWith 21 = .ok (.aload_n 0, 1) := by decide +kernel
theorem dX8_findPairsWith_22 : decode cX8_findPairsWith 22 = .ok (.getfield 57, 3) := by decide +kernel
theorem dX8_findPairsWith_25 : decode cX8_findPairsWith 25 = .ok (.iload_n 1, 1) := by decide +kernel
theorem dX8_findPairsWith_26 : decode cX8_findPairsWith 26 = .ok (.iconst 1, 1) := by decide +kernel
theorem dX8_findPairsWith_27 : decode cX8_findPairsWith 27 = .ok (.iadd, 1) := by decide +kernel
theorem dX8_findPairsWith_28 : decode cX8_findPairsWith 28 = .ok (.aaload, 1) := by decide +kernel
theorem dX8_findPairsWith_29 : decode cX8_findPairsWith 29 = .ok (.iload_n 3, 1) := by decide +kernel
theorem dX8_findPairsWith_30 : decode cX8_findPairsWith 30 = .ok (.iconst 1, 1) := by decide +kernel
theorem dX8_findPairsWith_31 : decode cX8_findPairsWith 31 = .ok (.iload_n 2, 1) := by decide +kernel
theorem dX8_findPairsWith_32 : decode cX8_findPairsWith 32 = .ok (.ishl, 1) := by decide +kernel
theorem dX8_findPairsWith_33 : decode cX8_findPairsWith 33 = .ok (.iconst (-1), 1) := by decide +kernel
theorem dX8_findPairsWith_34 : decode cX8_findPairsWith 34 = .ok (.ixor, 1) := by decide +kernel
theorem dX8_findPairsWith_35 : decode cX8_findPairsWith 35 = .ok (.iand, 1) := by decide +kernel
theorem dX8_findPairsWith_36 : decode cX8_findPairsWith 36 = .ok (.iaload, 1) := by decide +kernel
theorem dX8_findPairsWith_37 : decode cX8_findPairsWith 37 = .ok (.iadd, 1) := by decide +kernel
theorem dX8_findPairsWith_38 : decode cX8_findPairsWith 38 = .ok (.istore 4, 2) := by decide +kernel
theorem dX8_findPairsWith_40 : decode cX8_findPairsWith 40 = .ok (.aload_n 0, 1) := by decide +kernel
theorem dX8_findPairsWith_41 : decode cX8_findPairsWith 41 = .ok (.getfield 57, 3) := by decide +kernel
theorem dX8_findPairsWith_44 : decode cX8_findPairsWith 44 = .ok (.iload_n 1, 1) := by decide +kernel
theorem dX8_findPairsWith_45 : decode cX8_findPairsWith 45 = .ok (.aaload, 1) := by decide +kernel
theorem dX8_findPairsWith_46 : decode cX8_findPairsWith 46 = .ok (.iload_n 3, 1) := by decide +kernel
theorem dX8_findPairsWith_47 : decode cX8_findPairsWith 47 = .ok (.iload 4, 2) := by decide +kernel
theorem dX8_findPairsWith_49 : decode cX8_findPairsWith 49 = .ok (.aload_n 0, 1) := by decide +kernel
theorem dX8_findPairsWith_50 : decode cX8_findPairsWith 50 = .ok (.getfield 57, 3) := by decide +kernel
theorem dX8_findPairsWith_53 : decode cX8_findPairsWith 53 = .ok (.iload_n 1, 1) := by decide +kernel
theorem dX8_findPairsWith_54 : decode cX8_findPairsWith 54 = .ok (.aaload, 1) := by decide +kernel
theorem dX8_findPairsWith_55 : decode cX8_findPairsWith 55 = .ok (.iload_n 3, 1) := by decide +kernel
theorem dX8_findPairsWith_56 : decode cX8_findPairsWith 56 = .ok (.iaload, 1) := by decide +kernel
theorem dX8_findPairsWith_57 : decode cX8_findPairsWith 57 = .ok (.if_icmp .le 8, 3) := by decide +kernel
theorem dX8_findPairsWith_60 : decode cX8_findPairsWith 60 = .ok (.iload 4, 2) := by decide +kernel
theorem dX8_findPairsWith_62 : decode cX8_findPairsWith 62 = .ok (.goto 11, 3) := by decide +kernel
theorem dX8_findPairsWith_65 : decode cX8_findPairsWith 65 = .ok (.aload_n 0, 1) := by decide +kernel
theorem dX8_findPairsWith_66 : decode cX8_findPairsWith 66 = .ok (.getfield 57, 3) := by decide +kernel
theorem dX8_findPairsWith_69 : decode cX8_findPairsWith 69 = .ok (.iload_n 1, 1) := by decide +kernel
theorem dX8_findPairsWith_70 : decode cX8_findPairsWith 70 = .ok (.aaload, 1) := by decide +kernel
theorem dX8_findPairsWith_71 : decode cX8_findPairsWith 71 = .ok (.iload_n 3, 1) := by decide +kernel
theorem dX8_findPairsWith_72 : decode cX8_findPairsWith 72 = .ok (.iaload, 1) := by decide +kernel
theorem dX8_findPairsWith_73 : decode cX8_findPairsWith 73 = .ok (.iastore, 1) := by decide +kernel
theorem dX8_findPairsWith_74 : decode cX8_findPairsWith 74 = .ok (.iinc 3 1, 3) := by decide +kernel
theorem dX8_findPairsWith_77 : decode cX8_findPairsWith 77 = .ok (.goto (-75), 3) := by decide +kernel
theorem dX8_findPairsWith_80 : decode cX8_findPairsWith 80 = .ok (.return_, 1) := by decide +kernel
set_option maxRecDepth 20000 in
theorem ggX8_pairedBy_X8_has : GoodIn wsX8_pairedBy wsX8_has := goodIn_r _ [6] (by decide +kernel) (by decide +kernel)
set_option maxRecDepth 20000 in
theorem gX8_pairedBy_X8_has : GoodIn wsX8_pairedBy (va_wsS RX8 72 yX8_has wsX8_has) := goodIn_app (goodIn_of _ (by decide +kernel)) ggX8_pairedBy_X8_has
set_option maxRecDepth 20000 in
theorem ggX8_pairedBy_X8_isPair : GoodIn wsX8_pairedBy wsX8_isPair := goodIn_r _ [10, 11, 12, 13, 14, 15, 5, 16, 17, 18, 19, 20, 21, 22, 23, 24, 25, 26, 1, 27, 28, 29, 30, 31, 32, 33, 34, 35, 36, 37, 38, 39, 40, 41, 42, 43, 44, 3, 4, 6, 45, 46, 47, 48, 49, 50, 51, 52, 53, 54, 55, 56, 57, 58, 59, 60, 61, 62, 63, 64, 65, 66, 67, 68, 69, 70, 71, 72, 73] (by decide +kernel) (by decide +kernel)
set_option maxRecDepth 20000 in
theorem gX8_pairedBy_X8_isPair : GoodIn wsX8_pairedBy (wsV RX8 217 RX8 yX8_isPair wsX8_isPair) := goodIn_app (goodIn_of _ (by decide +kernel)) ggX8_pairedBy_X8_isPair
theorem dX8_pairedBy_0 : decode cX8_pairedBy 0 = .ok (.iconst 0, 1) := by decide +kernel
theorem dX8_pairedBy_1 : decode cX8_pairedBy 1 = .ok (.istore_n 3, 1) := by decide +kernel
theorem dX8_pairedBy_2 : decode cX8_pairedBy 2 = .ok (.iload_n 3, 1) := by decide +kernel
theorem dX8_pairedBy_3 : decode cX8_pairedBy 3 = .ok (.aload_n 0, 1) := by decide +kernel
theorem dX8_pairedBy_4 : decode cX8_pairedBy 4 = .ok (.getfield 66, 3) := by decide +kernel
theorem dX8_pairedBy_7 : decode cX8_pairedBy 7 = .ok (.if_icmp .ge 57, 3) := by decide +kernel
theorem dX8_pairedBy_10 : decode cX8_pairedBy 10 = .ok (.iload_n 2, 1) := by decide +kernel
theorem dX8_pairedBy_11 : decode cX8_pairedBy 11 = .ok (.iload_n 3, 1) := by decide +kernel
theorem dX8_pairedBy_12 : decode cX8_pairedBy 12 = .ok (.invokestatic 72, 3) := by decide +kernel
theorem dX8_pairedBy_15 : decode cX8_pairedBy 15 = .ok (.ifCond .eq 43, 3) := by decide +kernel
theorem dX8_pairedBy_18 : decode cX8_pairedBy 18 = .ok (.aload_n 0, 1) := by decide +kernel
theorem dX8_pairedBy_19 : decode cX8_pairedBy 19 = .ok (.iload_n 1, 1) := by decide +kernel
theorem dX8_pairedBy_20 : decode cX8_pairedBy 20 = .ok (.iload_n 3, 1) := by decide +kernel
theorem dX8_pairedBy_21 : decode cX8_pairedBy 21 = .ok (.invokevirtual 217, 3) := by decide +kernel
theorem dX8_pairedBy_24 : decode cX8_pairedBy 24 = .ok (.ifCond .eq 34, 3) := by decide +kernel
theorem dX8_pairedBy_27 : decode cX8_pairedBy 27 = .ok (.iconst 1, 1) := by decide +kernel
theorem dX8_pairedBy_28 : decode cX8_pairedBy 28 = .ok (.aload_n 0, 1) := by decide +kernel
theorem dX8_pairedBy_29 : decode cX8_pairedBy 29 = .ok (.getfield 57, 3) := by decide +kernel
theorem dX8_pairedBy_32 : decode cX8_pairedBy 32 = .ok (.iload_n 1, 1) := by decide +kernel
theorem dX8_pairedBy_33 : decode cX8_pairedBy 33 = .ok (.iconst 1, 1) := by decide +kernel
theorem dX8_pairedBy_34 : decode cX8_pairedBy 34 = .ok (.iadd, 1) := by decide +kernel
theorem dX8_pairedBy_35 : decode cX8_pairedBy 35 = .ok (.aaload, 1) := by decide +kernel
theorem dX8_pairedBy_36 : decode cX8_pairedBy 36 = .ok (.iload_n 2, 1) := by decide +kernel
theorem dX8_pairedBy_37 : decode cX8_pairedBy 37 = .ok (.iconst 1, 1) := by decide +kernel
theorem dX8_pairedBy_38 : decode cX8_pairedBy 38 = .ok (.iload_n 3, 1) := by decide +kernel
theorem dX8_pairedBy_39 : decode cX8_pairedBy 39 = .ok (.ishl, 1) := by decide +kernel
theorem dX8_pairedBy_40 : decode cX8_pairedBy 40 = .ok (.iconst (-1), 1) := by decide +kernel
theorem dX8_pairedBy_41 : decode cX8_pairedBy 41 = .ok (.ixor, 1) := by decide +kernel
theorem dX8_pairedBy_42 : decode cX8_pairedBy 42 = .ok (.iand, 1) := by decide +kernel
theorem dX8_pairedBy_43 : decode cX8_pairedBy 43 = .ok (.iaload, 1) := by decide +kernel
theorem dX8_pairedBy_44 : decode cX8_pairedBy 44 = .ok (.iadd, 1) := by decide +kernel
theorem dX8_pairedBy_45 : decode cX8_pairedBy 45 = .ok (.aload_n 0, 1) := by decide +kernel
theorem dX8_pairedBy_46 : decode cX8_pairedBy 46 = .ok (.getfield 57, 3) := by decide +kernel
theorem dX8_pairedBy_49 : decode cX8_pairedBy 49 = .ok (.iload_n 1, 1) := by decide +kernel
theorem dX8_pairedBy_50 : decode cX8_pairedBy 50 = .ok (.aaload, 1) := by decide +kernel
theorem dX8_pairedBy_51 : decode cX8_pairedBy 51 = .ok (.iload_n 2, 1) := by decide +kernel
theorem dX8_pairedBy_52 : decode cX8_pairedBy 52 = .ok (.iaload, 1) := by decide +kernel
theorem dX8_pairedBy_53 : decode cX8_pairedBy 53 = .ok (.if_icmp .ne 5, 3) := by decide +kernel
theorem dX8_pairedBy_56 : decode cX8_pairedBy 56 = .ok (.iload_n 3, 1) := by decide +kernel
theorem dX8_pairedBy_57 : decode cX8_pairedBy 57 = .ok (.ireturn, 1) := by decide +kernel
theorem dX8_pairedBy_58 : decode cX8_pairedBy 58 = .ok (.iinc 3 1, 3) := by decide +kernel
theorem dX8_pairedBy_61 : decode cX8_pairedBy 61 = .ok (.goto (-59), 3) := by decide +kernel
theorem dX8_pairedBy_64 : decode cX8_pairedBy 64 = .ok (.bipush (-9), 2) := by decide +kernel
theorem dX8_pairedBy_66 : decode cX8_pairedBy 66 = .ok (.ireturn, 1) := by decide +kernel
set_option maxRecDepth 20000 in
theorem ggX8_pairs_X8_no : GoodIn wsX8_pairs wsX8_no := goodIn_r _ [7, 8, 63, 64, 65, 66, 67, 68, 69, 70, 71, 72, 73, 74, 75, 76, 77, 78, 79, 80, 81, 82, 83, 84, 85, 86, 87, 88, 89, 90, 91] (by decide +kernel) (by decide +kernel)
set_option maxRecDepth 20000 in
theorem gX8_pairs_X8_no : GoodIn wsX8_pairs (wsV RX8 86 RX8 yX8_no wsX8_no) := goodIn_app (goodIn_of _ (by decide +kernel)) ggX8_pairs_X8_no
set_option maxRecDepth 20000 in
theorem ggX8_pairs_X8_findPairs : GoodIn wsX8_pairs wsX8_findPairs := goodIn_r _ [12, 2, 1, 13, 14, 15, 16, 6, 17, 18, 19, 20, 21, 22, 23, 24, 25, 26, 27, 28, 29, 30, 31, 32, 33, 34, 35, 36, 37, 38, 39, 40, 41, 42, 43, 44, 45, 46, 47, 48, 49, 50, 51, 52, 53, 54, 55, 56, 57, 58, 63, 64, 65, 66, 67, 68, 69, 70, 71, 72, 73, 74, 75, 76, 77, 78, 79, 80, 81, 82, 83, 84, 85, 86, 87, 88, 89, 90, 91] (by decide +kernel) (by decide +kernel)
set_option maxRecDepth 20000 in
theorem gX8_pairs_X8_findPairs : GoodIn wsX8_pairs (wsV RX8 223 RX8 yX8_findPairs wsX8_findPairs) := goodIn_app (goodIn_of _ (by decide +kernel)) ggX8_pairs_X8_findPairs
set_option maxRecDepth 20000 in
theorem ggX8_pairs_X8_pairedBy : GoodIn wsX8_pairs wsX8_pairedBy := goodIn_r _ [62, 13, 2, 52, 53, 6, 54, 14, 15, 16, 17, 18, 19, 20, 21, 22, 23, 24, 25, 26, 27, 28, 29, 30, 31, 32, 33, 34, 35, 36, 37, 38, 39, 40, 41, 42, 43, 44, 45, 46, 47, 48, 49, 50, 51, 63, 64, 65, 66, 67, 68, 69, 70, 71, 72, 73, 74, 75, 76, 77, 78, 79, 80, 81, 82, 83, 84, 85, 86, 87, 88, 89, 90, 91] (by decide +kernel) (by decide +kernel)
set_option maxRecDepth 20000 in
theorem gX8_pairs_X8_pairedBy : GoodIn wsX8_pairs (wsV RX8 226 RX8 yX8_pairedBy wsX8_pairedBy) := goodIn_app (goodIn_of _ (by decide +kernel)) ggX8_pairs_X8_pairedBy
theorem dX8_pairs_0 : decode cX8_pairs 0 = .ok (.iload_n 1, 1) := by decide +kernel
theorem dX8_pairs_1 : decode cX8_pairs 1 = .ok (.iconst (-1), 1) := by decide +kernel
theorem dX8_pairs_2 : decode cX8_pairs 2 = .ok (.if_icmp .lt 11, 3) := by decide +kernel
theorem dX8_pairs_5 : decode cX8_pairs 5 = .ok (.iload_n 1, 1) := by decide +kernel
theorem dX8_pairs_6 : decode cX8_pairs 6 = .ok (.aload_n 0, 1) := by decide +kernel
theorem dX8_pairs_7 : decode cX8_pairs 7 = .ok (.getfield 76, 3) := by decide +kernel
theorem dX8_pairs_10 : decode cX8_pairs 10 = .ok (.if_icmp .lt 9, 3) := by decide +kernel
theorem dX8_pairs_13 : decode cX8_pairs 13 = .ok (.aload_n 0, 1) := by decide +kernel
theorem dX8_pairs_14 : decode cX8_pairs 14 = .ok (.iconst (-1), 1) := by decide +kernel
theorem dX8_pairs_15 : decode cX8_pairs 15 = .ok (.invokevirtual 86, 3) := by decide +kernel
theorem dX8_pairs_18 : decode cX8_pairs 18 = .ok (.ireturn, 1) := by decide +kernel
theorem dX8_pairs_19 : decode cX8_pairs 19 = .ok (.aload_n 0, 1) := by decide +kernel
theorem dX8_pairs_20 : decode cX8_pairs 20 = .ok (.invokevirtual 223, 3) := by decide +kernel
theorem dX8_pairs_23 : decode cX8_pairs 23 = .ok (.iload_n 1, 1) := by decide +kernel
theorem dX8_pairs_24 : decode cX8_pairs 24 = .ok (.ifCond .ge 14, 3) := by decide +kernel
theorem dX8_pairs_27 : decode cX8_pairs 27 = .ok (.aload_n 0, 1) := by decide +kernel
theorem dX8_pairs_28 : decode cX8_pairs 28 = .ok (.getfield 57, 3) := by decide +kernel
theorem dX8_pairs_31 : decode cX8_pairs 31 = .ok (.iconst 0, 1) := by decide +kernel
theorem dX8_pairs_32 : decode cX8_pairs 32 = .ok (.aaload, 1) := by decide +kernel
theorem dX8_pairs_33 : decode cX8_pairs 33 = .ok (.sipush 255, 3) := by decide +kernel
theorem dX8_pairs_36 : decode cX8_pairs 36 = .ok (.iaload, 1) := by decide +kernel
theorem dX8_pairs_37 : decode cX8_pairs 37 = .ok (.ireturn, 1) := by decide +kernel
theorem dX8_pairs_38 : decode cX8_pairs 38 = .ok (.sipush 255, 3) := by decide +kernel
theorem dX8_pairs_41 : decode cX8_pairs 41 = .ok (.istore_n 2, 1) := by decide +kernel
theorem dX8_pairs_42 : decode cX8_pairs 42 = .ok (.bipush (-9), 2) := by decide +kernel
theorem dX8_pairs_44 : decode cX8_pairs 44 = .ok (.istore_n 3, 1) := by decide +kernel
theorem dX8_pairs_45 : decode cX8_pairs 45 = .ok (.iconst 0, 1) := by decide +kernel
theorem dX8_pairs_46 : decode cX8_pairs 46 = .ok (.istore 4, 2) := by decide +kernel
theorem dX8_pairs_48 : decode cX8_pairs 48 = .ok (.iload 4, 2) := by decide +kernel
theorem dX8_pairs_50 : decode cX8_pairs 50 = .ok (.iload_n 1, 1) := by decide +kernel
theorem dX8_pairs_51 : decode cX8_pairs 51 = .ok (.if_icmp .gt 33, 3) := by decide +kernel
theorem dX8_pairs_54 : decode cX8_pairs 54 = .ok (.aload_n 0, 1) := by decide +kernel
theorem dX8_pairs_55 : decode cX8_pairs 55 = .ok (.iload 4, 2) := by decide +kernel
theorem dX8_pairs_57 : decode cX8_pairs 57 = .ok (.iload_n 2, 1) := by decide +kernel
theorem dX8_pairs_58 : decode cX8_pairs 58 = .ok (.invokevirtual 226, 3) := by decide +kernel
theorem dX8_pairs_61 : decode cX8_pairs 61 = .ok (.istore_n 3, 1) := by decide +kernel
theorem dX8_pairs_62 : decode cX8_pairs 62 = .ok (.iload_n 2, 1) := by decide +kernel
theorem dX8_pairs_63 : decode cX8_pairs 63 = .ok (.iload_n 3, 1) := by decide +kernel
theorem dX8_pairs_64 : decode cX8_pairs 64 = .ok (.ifCond .ge 7, 3) := by decide +kernel
theorem dX8_pairs_67 : decode cX8_pairs 67 = .ok (.iconst (-1), 1) := by decide +kernel
theorem dX8_pairs_68 : decode cX8_pairs 68 = .ok (.goto 8, 3) := by decide +kernel
theorem dX8_pairs_71 : decode cX8_pairs 71 = .ok (.iconst 1, 1) := by decide +kernel
theorem dX8_pairs_72 : decode cX8_pairs 72 = .ok (.iload_n 3, 1) := by decide +kernel
theorem dX8_pairs_73 : decode cX8_pairs 73 = .ok (.ishl, 1) := by decide +kernel
theorem dX8_pairs_74 : decode cX8_pairs 74 = .ok (.iconst (-1), 1) := by decide +kernel
theorem dX8_pairs_75 : decode cX8_pairs 75 = .ok (.ixor, 1) := by decide +kernel
theorem dX8_pairs_76 : decode cX8_pairs 76 = .ok (.iand, 1) := by decide +kernel
theorem dX8_pairs_77 : decode cX8_pairs 77 = .ok (.istore_n 2, 1) := by decide +kernel
theorem dX8_pairs_78 : decode cX8_pairs 78 = .ok (.iinc 4 1, 3) := by decide +kernel
theorem dX8_pairs_81 : decode cX8_pairs 81 = .ok (.goto (-33), 3) := by decide +kernel
theorem dX8_pairs_84 : decode cX8_pairs 84 = .ok (.iload_n 3, 1) := by decide +kernel
theorem dX8_pairs_85 : decode cX8_pairs 85 = .ok (.ireturn, 1) := by decide +kernel
set_option maxRecDepth 20000 in
theorem ggX8_otherwise_X8_bits : GoodIn wsX8_otherwise wsX8_bits := goodIn_r _ [6] (by decide +kernel) (by decide +kernel)
set_option maxRecDepth 20000 in
theorem gX8_otherwise_X8_bits : GoodIn wsX8_otherwise (va_wsS RX8 186 yX8_bits wsX8_bits) := goodIn_app (goodIn_of _ (by decide +kernel)) ggX8_otherwise_X8_bits
theorem dX8_otherwise_0 : decode cX8_otherwise 0 = .ok (.aload_n 0, 1) := by decide +kernel
theorem dX8_otherwise_1 : decode cX8_otherwise 1 = .ok (.getfield 19, 3) := by decide +kernel
theorem dX8_otherwise_4 : decode cX8_otherwise 4 = .ok (.iload_n 1, 1) := by decide +kernel
theorem dX8_otherwise_5 : decode cX8_otherwise 5 = .ok (.iaload, 1) := by decide +kernel
theorem dX8_otherwise_6 : decode cX8_otherwise 6 = .ok (.aload_n 0, 1) := by decide +kernel
theorem dX8_otherwise_7 : decode cX8_otherwise 7 = .ok (.getfield 31, 3) := by decide +kernel
theorem dX8_otherwise_10 : decode cX8_otherwise 10 = .ok (.iload_n 2, 1) := by decide +kernel
theorem dX8_otherwise_11 : decode cX8_otherwise 11 = .ok (.iaload, 1) := by decide +kernel
theorem dX8_otherwise_12 : decode cX8_otherwise 12 = .ok (.ixor, 1) := by decide +kernel
theorem dX8_otherwise_13 : decode cX8_otherwise 13 = .ok (.invokestatic 186, 3) := by decide +kernel
theorem dX8_otherwise_16 : decode cX8_otherwise 16 = .ok (.ireturn, 1) := by decide +kernel
set_option maxRecDepth 20000 in
theorem ggX8_meantFor_X8_otherwise : GoodIn wsX8_meantFor wsX8_otherwise := goodIn_r _ [6, 7, 8, 9, 10, 5, 11, 12, 13, 14, 15, 16, 17, 18, 19, 20, 21, 22, 23, 24, 25, 26, 27, 28, 29, 30, 31, 32, 33, 34, 35, 36, 37, 38, 39, 40] (by decide +kernel) (by decide +kernel)
set_option maxRecDepth 20000 in
theorem gX8_meantFor_X8_otherwise : GoodIn wsX8_meantFor (wsV RX8 229 RX8 yX8_otherwise wsX8_otherwise) := goodIn_app (goodIn_of _ (by decide +kernel)) ggX8_meantFor_X8_otherwise
theorem dX8_meantFor_0 : decode cX8_meantFor 0 = .ok (.bipush (-9), 2) := by decide +kernel
theorem dX8_meantFor_2 : decode cX8_meantFor 2 = .ok (.istore_n 2, 1) := by decide +kernel
theorem dX8_meantFor_3 : decode cX8_meantFor 3 = .ok (.iconst 0, 1) := by decide +kernel
theorem dX8_meantFor_4 : decode cX8_meantFor 4 = .ok (.istore_n 3, 1) := by decide +kernel
theorem dX8_meantFor_5 : decode cX8_meantFor 5 = .ok (.iload_n 3, 1) := by decide +kernel
theorem dX8_meantFor_6 : decode cX8_meantFor 6 = .ok (.aload_n 0, 1) := by decide +kernel
theorem dX8_meantFor_7 : decode cX8_meantFor 7 = .ok (.getfield 66, 3) := by decide +kernel
theorem dX8_meantFor_10 : decode cX8_meantFor 10 = .ok (.if_icmp .ge 34, 3) := by decide +kernel
theorem dX8_meantFor_13 : decode cX8_meantFor 13 = .ok (.iload_n 2, 1) := by decide +kernel
theorem dX8_meantFor_14 : decode cX8_meantFor 14 = .ok (.ifCond .lt 18, 3) := by decide +kernel
theorem dX8_meantFor_17 : decode cX8_meantFor 17 = .ok (.aload_n 0, 1) := by decide +kernel
theorem dX8_meantFor_18 : decode cX8_meantFor 18 = .ok (.iload_n 3, 1) := by decide +kernel
theorem dX8_meantFor_19 : decode cX8_meantFor 19 = .ok (.iload_n 1, 1) := by decide +kernel
theorem dX8_meantFor_20 : decode cX8_meantFor 20 = .ok (.invokevirtual 229, 3) := by decide +kernel
theorem dX8_meantFor_23 : decode cX8_meantFor 23 = .ok (.aload_n 0, 1) := by decide +kernel
theorem dX8_meantFor_24 : decode cX8_meantFor 24 = .ok (.iload_n 2, 1) := by decide +kernel
theorem dX8_meantFor_25 : decode cX8_meantFor 25 = .ok (.iload_n 1, 1) := by decide +kernel
theorem dX8_meantFor_26 : decode cX8_meantFor 26 = .ok (.invokevirtual 229, 3) := by decide +kernel
theorem dX8_meantFor_29 : decode cX8_meantFor 29 = .ok (.if_icmp .ge 7, 3) := by decide +kernel
theorem dX8_meantFor_32 : decode cX8_meantFor 32 = .ok (.iload_n 3, 1) := by decide +kernel
theorem dX8_meantFor_33 : decode cX8_meantFor 33 = .ok (.goto 4, 3) := by decide +kernel
theorem dX8_meantFor_36 : decode cX8_meantFor 36 = .ok (.iload_n 2, 1) := by decide +kernel
theorem dX8_meantFor_37 : decode cX8_meantFor 37 = .ok (.istore_n 2, 1) := by decide +kernel
theorem dX8_meantFor_38 : decode cX8_meantFor 38 = .ok (.iinc 3 1, 3) := by decide +kernel
theorem dX8_meantFor_41 : decode cX8_meantFor 41 = .ok (.goto (-36), 3) := by decide +kernel
theorem dX8_meantFor_44 : decode cX8_meantFor 44 = .ok (.iload_n 2, 1) := by decide +kernel
theorem dX8_meantFor_45 : decode cX8_meantFor 45 = .ok (.ireturn, 1) := by decide +kernel
set_option maxRecDepth 20000 in
theorem ggX8_meant_X8_isGroom : GoodIn wsX8_meant wsX8_isGroom := goodIn_r _ [5, 6, 29, 30, 31, 32, 33, 34, 35, 36, 37, 38, 39, 40, 41, 42, 43, 44, 45, 46, 47, 48, 49, 50, 51, 52, 53, 54, 55, 56, 57] (by decide +kernel) (by decide +kernel)
set_option maxRecDepth 20000 in
theorem gX8_meant_X8_isGroom : GoodIn wsX8_meant (wsV RX8 133 RX8 yX8_isGroom wsX8_isGroom) := goodIn_app (goodIn_of _ (by decide +kernel)) ggX8_meant_X8_isGroom
set_option maxRecDepth 20000 in
theorem ggX8_meant_X8_isIn : GoodIn wsX8_meant wsX8_isIn := goodIn_r _ [9] (by decide +kernel) (by decide +kernel)
set_option maxRecDepth 20000 in
theorem gX8_meant_X8_isIn : GoodIn wsX8_meant (va_wsS RX8 97 yX8_isIn wsX8_isIn) := goodIn_app (goodIn_of _ (by decide +kernel)) ggX8_meant_X8_isIn
set_option maxRecDepth 20000 in
theorem ggX8_meant_X8_no : GoodIn wsX8_meant wsX8_no := goodIn_r _ [13, 14, 29, 30, 31, 32, 33, 34, 35, 36, 37, 38, 39, 40, 41, 42, 43, 44, 45, 46, 47, 48, 49, 50, 51, 52, 53, 54, 55, 56, 57] (by decide +kernel) (by decide +kernel)
set_option maxRecDepth 20000 in
theorem gX8_meant_X8_no : GoodIn wsX8_meant (wsV RX8 86 RX8 yX8_no wsX8_no) := goodIn_app (goodIn_of _ (by decide +kernel)) ggX8_meant_X8_no
set_option maxRecDepth 20000 in
theorem ggX8_meant_X8_meantFor : GoodIn wsX8_meant wsX8_meantFor := goodIn_r _ [18, 19, 20, 21, 22, 4, 23, 24, 25, 26, 27, 28, 29, 30, 31, 32, 33, 34, 35, 36, 37, 38, 39, 40, 41, 42, 43, 44, 45, 46, 47, 48, 49, 50, 51, 52, 53, 54, 55, 56, 57] (by decide +kernel) (by decide +kernel)
set_option maxRecDepth 20000 in
theorem gX8_meant_X8_meantFor : GoodIn wsX8_meant (wsV RX8 232 RX8 yX8_meantFor wsX8_meantFor) := goodIn_app (goodIn_of _ (by decide +kernel)) ggX8_meant_X8_meantFor
set_option maxRecDepth 20000 in
theorem ggX8_meant_X8_otherwise : GoodIn wsX8_meant wsX8_otherwise := goodIn_r _ [23, 24, 25, 26, 27, 4, 28, 29, 30, 31, 32, 33, 34, 35, 36, 37, 38, 39, 40, 41, 42, 43, 44, 45, 46, 47, 48, 49, 50, 51, 52, 53, 54, 55, 56, 57] (by decide +kernel) (by decide +kernel)
set_option maxRecDepth 20000 in
theorem gX8_meant_X8_otherwise : GoodIn wsX8_meant (wsV RX8 229 RX8 yX8_otherwise wsX8_otherwise) := goodIn_app (goodIn_of _ (by decide +kernel)) ggX8_meant_X8_otherwise
theorem dX8_meant_0 : decode cX8_meant 0 = .ok (.aload_n 0, 1) := by decide +kernel
theorem dX8_meant_1 : decode cX8_meant 1 = .ok (.iload_n 1, 1) := by decide +kernel
theorem dX8_meant_2 : decode cX8_meant 2 = .ok (.invokevirtual 133, 3) := by decide +kernel
theorem dX8_meant_5 : decode cX8_meant 5 = .ok (.ifCond .ne 7, 3) := by decide +kernel
theorem dX8_meant_8 : decode cX8_meant 8 = .ok (.iconst (-1), 1) := by decide +kernel
theorem dX8_meant_9 : decode cX8_meant 9 = .ok (.goto 18, 3) := by decide +kernel
theorem dX8_meant_12 : decode cX8_meant 12 = .ok (.iload_n 2, 1) := by decide +kernel
theorem dX8_meant_13 : decode cX8_meant 13 = .ok (.iconst 0, 1) := by decide +kernel
theorem dX8_meant_14 : decode cX8_meant 14 = .ok (.iconst 1, 1) := by decide +kernel
theorem dX8_meant_15 : decode cX8_meant 15 = .ok (.invokestatic 97, 3) := by decide +kernel
theorem dX8_meant_18 : decode cX8_meant 18 = .ok (.ifCond .ne 8, 3) := by decide +kernel
theorem dX8_meant_21 : decode cX8_meant 21 = .ok (.bipush (-2), 2) := by decide +kernel
theorem dX8_meant_23 : decode cX8_meant 23 = .ok (.goto 4, 3) := by decide +kernel
theorem dX8_meant_26 : decode cX8_meant 26 = .ok (.iconst 0, 1) := by decide +kernel
theorem dX8_meant_27 : decode cX8_meant 27 = .ok (.istore_n 3, 1) := by decide +kernel
theorem dX8_meant_28 : decode cX8_meant 28 = .ok (.iload_n 3, 1) := by decide +kernel
theorem dX8_meant_29 : decode cX8_meant 29 = .ok (.ifCond .eq 9, 3) := by decide +kernel
theorem dX8_meant_32 : decode cX8_meant 32 = .ok (.aload_n 0, 1) := by decide +kernel
theorem dX8_meant_33 : decode cX8_meant 33 = .ok (.iload_n 3, 1) := by decide +kernel
theorem dX8_meant_34 : decode cX8_meant 34 = .ok (.invokevirtual 86, 3) := by decide +kernel
theorem dX8_meant_37 : decode cX8_meant 37 = .ok (.ireturn, 1) := by decide +kernel
theorem dX8_meant_38 : decode cX8_meant 38 = .ok (.aload_n 0, 1) := by decide +kernel
theorem dX8_meant_39 : decode cX8_meant 39 = .ok (.iload_n 1, 1) := by decide +kernel
theorem dX8_meant_40 : decode cX8_meant 40 = .ok (.invokevirtual 232, 3) := by decide +kernel
theorem dX8_meant_43 : decode cX8_meant 43 = .ok (.istore 4, 2) := by decide +kernel
theorem dX8_meant_45 : decode cX8_meant 45 = .ok (.iload_n 2, 1) := by decide +kernel
theorem dX8_meant_46 : decode cX8_meant 46 = .ok (.ifCond .eq 8, 3) := by decide +kernel
theorem dX8_meant_49 : decode cX8_meant 49 = .ok (.iload 4, 2) := by decide +kernel
theorem dX8_meant_51 : decode cX8_meant 51 = .ok (.ifCond .ge 8, 3) := by decide +kernel
theorem dX8_meant_54 : decode cX8_meant 54 = .ok (.iload 4, 2) := by decide +kernel
theorem dX8_meant_56 : decode cX8_meant 56 = .ok (.goto 10, 3) := by decide +kernel
theorem dX8_meant_59 : decode cX8_meant 59 = .ok (.aload_n 0, 1) := by decide +kernel
theorem dX8_meant_60 : decode cX8_meant 60 = .ok (.iload 4, 2) := by decide +kernel
theorem dX8_meant_62 : decode cX8_meant 62 = .ok (.iload_n 1, 1) := by decide +kernel
theorem dX8_meant_63 : decode cX8_meant 63 = .ok (.invokevirtual 229, 3) := by decide +kernel
theorem dX8_meant_66 : decode cX8_meant 66 = .ok (.ireturn, 1) := by decide +kernel
set_option maxRecDepth 20000 in
theorem ggX8_loses_X8_knows : GoodIn wsX8_loses wsX8_knows := goodIn_r _ [6, 7, 8, 9, 5, 10, 11, 12, 13, 14, 15, 16, 17, 18, 19, 20, 21, 22, 23, 24, 25, 26, 27, 28, 29, 30, 31, 32, 33, 34, 35, 36, 37, 38, 39, 48, 49, 50, 51, 52, 53, 54, 55, 56, 57, 58, 59, 60, 61, 62, 63, 64, 65, 66, 67, 68, 69, 70, 71, 72, 73, 74, 75, 76] (by decide +kernel) (by decide +kernel)
set_option maxRecDepth 20000 in
theorem gX8_loses_X8_knows : GoodIn wsX8_loses (wsV RX8 195 RX8 yX8_knows wsX8_knows) := goodIn_app (goodIn_of _ (by decide +kernel)) ggX8_loses_X8_knows
set_option maxRecDepth 20000 in
theorem ggX8_loses_X8_meantFor : GoodIn wsX8_loses wsX8_meantFor := goodIn_r _ [43, 17, 44, 45, 46, 5, 47, 23, 12, 31, 32, 33, 48, 49, 50, 51, 52, 53, 54, 55, 56, 57, 58, 59, 60, 61, 62, 63, 64, 65, 66, 67, 68, 69, 70, 71, 72, 73, 74, 75, 76] (by decide +kernel) (by decide +kernel)
set_option maxRecDepth 20000 in
theorem gX8_loses_X8_meantFor : GoodIn wsX8_loses (wsV RX8 232 RX8 yX8_meantFor wsX8_meantFor) := goodIn_app (goodIn_of _ (by decide +kernel)) ggX8_loses_X8_meantFor
theorem dX8_loses_0 : decode cX8_loses 0 = .ok (.iconst 0, 1) := by decide +kernel
theorem dX8_loses_1 : decode cX8_loses 1 = .ok (.istore_n 1, 1) := by decide +kernel
theorem dX8_loses_2 : decode cX8_loses 2 = .ok (.iconst 0, 1) := by decide +kernel
theorem dX8_loses_3 : decode cX8_loses 3 = .ok (.istore_n 2, 1) := by decide +kernel
theorem dX8_loses_4 : decode cX8_loses 4 = .ok (.iload_n 2, 1) := by decide +kernel
theorem dX8_loses_5 : decode cX8_loses 5 = .ok (.aload_n 0, 1) := by decide +kernel
theorem dX8_loses_6 : decode cX8_loses 6 = .ok (.getfield 76, 3) := by decide +kernel
theorem dX8_loses_9 : decode cX8_loses 9 = .ok (.if_icmp .ge 40, 3) := by decide +kernel
theorem dX8_loses_12 : decode cX8_loses 12 = .ok (.iload_n 1, 1) := by decide +kernel
theorem dX8_loses_13 : decode cX8_loses 13 = .ok (.aload_n 0, 1) := by decide +kernel
theorem dX8_loses_14 : decode cX8_loses 14 = .ok (.iload_n 2, 1) := by decide +kernel
theorem dX8_loses_15 : decode cX8_loses 15 = .ok (.invokevirtual 195, 3) := by decide +kernel
theorem dX8_loses_18 : decode cX8_loses 18 = .ok (.ifCond .lt 22, 3) := by decide +kernel
theorem dX8_loses_21 : decode cX8_loses 21 = .ok (.aload_n 0, 1) := by decide +kernel
theorem dX8_loses_22 : decode cX8_loses 22 = .ok (.iload_n 2, 1) := by decide +kernel
theorem dX8_loses_23 : decode cX8_loses 23 = .ok (.invokevirtual 195, 3) := by decide +kernel
theorem dX8_loses_26 : decode cX8_loses 26 = .ok (.aload_n 0, 1) := by decide +kernel
theorem dX8_loses_27 : decode cX8_loses 27 = .ok (.iload_n 2, 1) := by decide +kernel
theorem dX8_loses_28 : decode cX8_loses 28 = .ok (.invokevirtual 232, 3) := by decide +kernel
theorem dX8_loses_31 : decode cX8_loses 31 = .ok (.if_icmp .ne 9, 3) := by decide +kernel
theorem dX8_loses_34 : decode cX8_loses 34 = .ok (.iconst 1, 1) := by decide +kernel
theorem dX8_loses_35 : decode cX8_loses 35 = .ok (.iload_n 2, 1) := by decide +kernel
theorem dX8_loses_36 : decode cX8_loses 36 = .ok (.ishl, 1) := by decide +kernel
theorem dX8_loses_37 : decode cX8_loses 37 = .ok (.goto 4, 3) := by decide +kernel
theorem dX8_loses_40 : decode cX8_loses 40 = .ok (.iconst 0, 1) := by decide +kernel
theorem dX8_loses_41 : decode cX8_loses 41 = .ok (.ior, 1) := by decide +kernel
theorem dX8_loses_42 : decode cX8_loses 42 = .ok (.istore_n 1, 1) := by decide +kernel
theorem dX8_loses_43 : decode cX8_loses 43 = .ok (.iinc 2 1, 3) := by decide +kernel
theorem dX8_loses_46 : decode cX8_loses 46 = .ok (.goto (-42), 3) := by decide +kernel
theorem dX8_loses_49 : decode cX8_loses 49 = .ok (.iload_n 1, 1) := by decide +kernel
theorem dX8_loses_50 : decode cX8_loses 50 = .ok (.ireturn, 1) := by decide +kernel
set_option maxRecDepth 20000 in
theorem ggX8_showing_X8_guessesBy : GoodIn wsX8_showing wsX8_guessesBy := goodIn_r _ [5, 6, 7, 8, 9, 10, 4, 11, 12, 13, 14, 15, 16, 17, 18, 19, 20, 21, 22, 23, 24, 25, 26, 27, 28, 29, 30, 31, 32, 33, 34, 35, 36, 37, 38, 39, 40, 41, 42, 43, 44, 45, 46, 47, 48] (by decide +kernel) (by decide +kernel)
set_option maxRecDepth 20000 in
theorem gX8_showing_X8_guessesBy : GoodIn wsX8_showing (wsV RX8 179 RX8 yX8_guessesBy wsX8_guessesBy) := goodIn_app (goodIn_of _ (by decide +kernel)) ggX8_showing_X8_guessesBy
theorem dX8_showing_0 : decode cX8_showing 0 = .ok (.aload_n 0, 1) := by decide +kernel
theorem dX8_showing_1 : decode cX8_showing 1 = .ok (.bipush 63, 2) := by decide +kernel
theorem dX8_showing_3 : decode cX8_showing 3 = .ok (.iload_n 1, 1) := by decide +kernel
theorem dX8_showing_4 : decode cX8_showing 4 = .ok (.invokevirtual 179, 3) := by decide +kernel
theorem dX8_showing_7 : decode cX8_showing 7 = .ok (.ireturn, 1) := by decide +kernel
set_option maxRecDepth 20000 in
theorem ggX8_firstAlike_X8_showsOf : GoodIn wsX8_firstAlike wsX8_showsOf := goodIn_r _ [7, 8, 9, 10, 11, 12, 13, 14, 6, 15, 30, 31, 32, 33, 34, 35, 36, 37, 38, 39, 40, 41, 42, 43, 44, 45, 46, 47, 48, 49, 50, 51, 52, 53, 54, 55, 56, 57, 58] (by decide +kernel) (by decide +kernel)
set_option maxRecDepth 20000 in
theorem gX8_firstAlike_X8_showsOf : GoodIn wsX8_firstAlike (wsV RX8 176 RX8 yX8_showsOf wsX8_showsOf) := goodIn_app (goodIn_of _ (by decide +kernel)) ggX8_firstAlike_X8_showsOf
set_option maxRecDepth 20000 in
theorem ggX8_firstAlike_X8_showing : GoodIn wsX8_firstAlike wsX8_showing := goodIn_r _ [19, 20, 21, 22, 6, 23, 1, 2, 3, 4, 5, 7, 8, 9, 10, 11, 12, 13, 14, 15, 30, 31, 32, 33, 34, 35, 36, 37, 38, 39, 40, 41, 42, 43, 44, 45, 46, 47, 48, 49, 50, 51, 52, 53, 54, 55, 56, 57, 58] (by decide +kernel) (by decide +kernel)
set_option maxRecDepth 20000 in
theorem gX8_firstAlike_X8_showing : GoodIn wsX8_firstAlike (wsV RX8 235 RX8 yX8_showing wsX8_showing) := goodIn_app (goodIn_of _ (by decide +kernel)) ggX8_firstAlike_X8_showing
set_option maxRecDepth 20000 in
theorem ggX8_firstAlike_X8_lowest : GoodIn wsX8_firstAlike wsX8_lowest := goodIn_r _ [26, 27, 28, 6, 29] (by decide +kernel) (by decide +kernel)
set_option maxRecDepth 20000 in
theorem gX8_firstAlike_X8_lowest : GoodIn wsX8_firstAlike (va_wsS RX8 189 yX8_lowest wsX8_lowest) := goodIn_app (goodIn_of _ (by decide +kernel)) ggX8_firstAlike_X8_lowest
theorem dX8_firstAlike_0 : decode cX8_firstAlike 0 = .ok (.iconst 0, 1) := by decide +kernel
theorem dX8_firstAlike_1 : decode cX8_firstAlike 1 = .ok (.istore_n 1, 1) := by decide +kernel
theorem dX8_firstAlike_2 : decode cX8_firstAlike 2 = .ok (.iload_n 1, 1) := by decide +kernel
theorem dX8_firstAlike_3 : decode cX8_firstAlike 3 = .ok (.aload_n 0, 1) := by decide +kernel
theorem dX8_firstAlike_4 : decode cX8_firstAlike 4 = .ok (.getfield 66, 3) := by decide +kernel
theorem dX8_firstAlike_7 : decode cX8_firstAlike 7 = .ok (.if_icmp .ge 54, 3) := by decide +kernel
theorem dX8_firstAlike_10 : decode cX8_firstAlike 10 = .ok (.aload_n 0, 1) := by decide +kernel
theorem dX8_firstAlike_11 : decode cX8_firstAlike 11 = .ok (.getfield 22, 3) := by decide +kernel
theorem dX8_firstAlike_14 : decode cX8_firstAlike 14 = .ok (.iload_n 1, 1) := by decide +kernel
theorem dX8_firstAlike_15 : decode cX8_firstAlike 15 = .ok (.iaload, 1) := by decide +kernel
theorem dX8_firstAlike_16 : decode cX8_firstAlike 16 = .ok (.ifCond .ne 19, 3) := by decide +kernel
theorem dX8_firstAlike_19 : decode cX8_firstAlike 19 = .ok (.aload_n 0, 1) := by decide +kernel
theorem dX8_firstAlike_20 : decode cX8_firstAlike 20 = .ok (.aload_n 0, 1) := by decide +kernel
theorem dX8_firstAlike_21 : decode cX8_firstAlike 21 = .ok (.iload_n 1, 1) := by decide +kernel
theorem dX8_firstAlike_22 : decode cX8_firstAlike 22 = .ok (.invokevirtual 176, 3) := by decide +kernel
theorem dX8_firstAlike_25 : decode cX8_firstAlike 25 = .ok (.invokevirtual 235, 3) := by decide +kernel
theorem dX8_firstAlike_28 : decode cX8_firstAlike 28 = .ok (.iload_n 1, 1) := by decide +kernel
theorem dX8_firstAlike_29 : decode cX8_firstAlike 29 = .ok (.iconst 1, 1) := by decide +kernel
theorem dX8_firstAlike_30 : decode cX8_firstAlike 30 = .ok (.iadd, 1) := by decide +kernel
