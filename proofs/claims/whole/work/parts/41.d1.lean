theorem dX6_wed_1 : decode cX6_wed 1 = .ok (.getfield 30, 3) := by decide +kernel
theorem dX6_wed_4 : decode cX6_wed 4 = .ok (.iload_n 1, 1) := by decide +kernel
theorem dX6_wed_5 : decode cX6_wed 5 = .ok (.invokestatic 53, 3) := by decide +kernel
theorem dX6_wed_8 : decode cX6_wed 8 = .ok (.istore_n 2, 1) := by decide +kernel
theorem dX6_wed_9 : decode cX6_wed 9 = .ok (.aload_n 0, 1) := by decide +kernel
theorem dX6_wed_10 : decode cX6_wed 10 = .ok (.iload_n 1, 1) := by decide +kernel
theorem dX6_wed_11 : decode cX6_wed 11 = .ok (.aload_n 0, 1) := by decide +kernel
theorem dX6_wed_12 : decode cX6_wed 12 = .ok (.getfield 24, 3) := by decide +kernel
theorem dX6_wed_15 : decode cX6_wed 15 = .ok (.iload_n 1, 1) := by decide +kernel
theorem dX6_wed_16 : decode cX6_wed 16 = .ok (.invokestatic 53, 3) := by decide +kernel
theorem dX6_wed_19 : decode cX6_wed 19 = .ok (.iconst 0, 1) := by decide +kernel
theorem dX6_wed_20 : decode cX6_wed 20 = .ok (.invokevirtual 102, 3) := by decide +kernel
theorem dX6_wed_23 : decode cX6_wed 23 = .ok (.istore_n 3, 1) := by decide +kernel
theorem dX6_wed_24 : decode cX6_wed 24 = .ok (.iload_n 3, 1) := by decide +kernel
theorem dX6_wed_25 : decode cX6_wed 25 = .ok (.invokestatic 109, 3) := by decide +kernel
theorem dX6_wed_28 : decode cX6_wed 28 = .ok (.istore 4, 2) := by decide +kernel
theorem dX6_wed_30 : decode cX6_wed 30 = .ok (.iload 4, 2) := by decide +kernel
theorem dX6_wed_32 : decode cX6_wed 32 = .ok (.bipush (-9), 2) := by decide +kernel
theorem dX6_wed_34 : decode cX6_wed 34 = .ok (.if_icmp .eq 20, 3) := by decide +kernel
theorem dX6_wed_37 : decode cX6_wed 37 = .ok (.aload_n 0, 1) := by decide +kernel
theorem dX6_wed_38 : decode cX6_wed 38 = .ok (.getfield 21, 3) := by decide +kernel
theorem dX6_wed_41 : decode cX6_wed 41 = .ok (.iload 4, 2) := by decide +kernel
theorem dX6_wed_43 : decode cX6_wed 43 = .ok (.iconst 1, 1) := by decide +kernel
theorem dX6_wed_44 : decode cX6_wed 44 = .ok (.iload_n 2, 1) := by decide +kernel
theorem dX6_wed_45 : decode cX6_wed 45 = .ok (.iconst 3, 1) := by decide +kernel
theorem dX6_wed_46 : decode cX6_wed 46 = .ok (.idiv, 1) := by decide +kernel
theorem dX6_wed_47 : decode cX6_wed 47 = .ok (.iadd, 1) := by decide +kernel
theorem dX6_wed_48 : decode cX6_wed 48 = .ok (.invokestatic 65, 3) := by decide +kernel
theorem dX6_wed_51 : decode cX6_wed 51 = .ok (.iload 4, 2) := by decide +kernel
theorem dX6_wed_53 : decode cX6_wed 53 = .ok (.ireturn, 1) := by decide +kernel
theorem dX6_wed_54 : decode cX6_wed 54 = .ok (.aload_n 0, 1) := by decide +kernel
theorem dX6_wed_55 : decode cX6_wed 55 = .ok (.iload_n 3, 1) := by decide +kernel
theorem dX6_wed_56 : decode cX6_wed 56 = .ok (.invokevirtual 125, 3) := by decide +kernel
theorem dX6_wed_59 : decode cX6_wed 59 = .ok (.iload_n 2, 1) := by decide +kernel
theorem dX6_wed_60 : decode cX6_wed 60 = .ok (.invokestatic 131, 3) := by decide +kernel
theorem dX6_wed_63 : decode cX6_wed 63 = .ok (.istore 5, 2) := by decide +kernel
theorem dX6_wed_65 : decode cX6_wed 65 = .ok (.iload 5, 2) := by decide +kernel
theorem dX6_wed_67 : decode cX6_wed 67 = .ok (.bipush (-9), 2) := by decide +kernel
theorem dX6_wed_69 : decode cX6_wed 69 = .ok (.if_icmp .ne 6, 3) := by decide +kernel
theorem dX6_wed_72 : decode cX6_wed 72 = .ok (.bipush (-9), 2) := by decide +kernel
theorem dX6_wed_74 : decode cX6_wed 74 = .ok (.ireturn, 1) := by decide +kernel
theorem dX6_wed_75 : decode cX6_wed 75 = .ok (.aload_n 0, 1) := by decide +kernel
theorem dX6_wed_76 : decode cX6_wed 76 = .ok (.dup, 1) := by decide +kernel
theorem dX6_wed_77 : decode cX6_wed 77 = .ok (.getfield 44, 3) := by decide +kernel
theorem dX6_wed_80 : decode cX6_wed 80 = .ok (.iconst 1, 1) := by decide +kernel
theorem dX6_wed_81 : decode cX6_wed 81 = .ok (.iload 5, 2) := by decide +kernel
theorem dX6_wed_83 : decode cX6_wed 83 = .ok (.ishl, 1) := by decide +kernel
theorem dX6_wed_84 : decode cX6_wed 84 = .ok (.ior, 1) := by decide +kernel
theorem dX6_wed_85 : decode cX6_wed 85 = .ok (.putfield 44, 3) := by decide +kernel
theorem dX6_wed_88 : decode cX6_wed 88 = .ok (.aload_n 0, 1) := by decide +kernel
theorem dX6_wed_89 : decode cX6_wed 89 = .ok (.dup, 1) := by decide +kernel
theorem dX6_wed_90 : decode cX6_wed 90 = .ok (.getfield 50, 3) := by decide +kernel
theorem dX6_wed_93 : decode cX6_wed 93 = .ok (.iconst 1, 1) := by decide +kernel
theorem dX6_wed_94 : decode cX6_wed 94 = .ok (.iload_n 1, 1) := by decide +kernel
theorem dX6_wed_95 : decode cX6_wed 95 = .ok (.ishl, 1) := by decide +kernel
theorem dX6_wed_96 : decode cX6_wed 96 = .ok (.ior, 1) := by decide +kernel
theorem dX6_wed_97 : decode cX6_wed 97 = .ok (.putfield 50, 3) := by decide +kernel
theorem dX6_wed_100 : decode cX6_wed 100 = .ok (.bipush 100, 2) := by decide +kernel
theorem dX6_wed_102 : decode cX6_wed 102 = .ok (.iload 5, 2) := by decide +kernel
theorem dX6_wed_104 : decode cX6_wed 104 = .ok (.iadd, 1) := by decide +kernel
theorem dX6_wed_105 : decode cX6_wed 105 = .ok (.ireturn, 1) := by decide +kernel
set_option maxRecDepth 20000 in
theorem ggX6_wedAll_X6_canWed : GoodIn wsX6_wedAll wsX6_canWed := goodIn_r _ [6, 7, 8, 9, 5, 10, 1, 11, 12, 13, 14, 15, 16, 17, 18, 19, 20, 21, 22, 23, 24, 25, 26, 27, 70, 71, 72, 73, 74, 75, 76, 77, 78, 79, 80, 81] (by decide +kernel) (by decide +kernel)
set_option maxRecDepth 20000 in
theorem gX6_wedAll_X6_canWed : GoodIn wsX6_wedAll (wsV RX6 128 RX6 yX6_canWed wsX6_canWed) := goodIn_app (goodIn_of _ (by decide +kernel)) ggX6_wedAll_X6_canWed
set_option maxRecDepth 20000 in
theorem ggX6_wedAll_X6_wed : GoodIn wsX6_wedAll wsX6_wed := goodIn_r _ [31, 32, 33, 25, 24, 15, 26, 17, 27, 34, 35, 36, 5, 37, 38, 23, 39, 40, 19, 20, 21, 22, 16, 18, 41, 42, 43, 44, 45, 46, 47, 48, 49, 50, 51, 52, 53, 54, 55, 56, 57, 58, 59, 60, 61, 62, 63, 64, 65, 66, 67, 68, 69, 70, 71, 72, 73, 74, 75, 76, 77, 78, 79, 80, 81] (by decide +kernel) (by decide +kernel)
set_option maxRecDepth 20000 in
theorem gX6_wedAll_X6_wed : GoodIn wsX6_wedAll (wsV RX6 142 RX6 yX6_wed wsX6_wed) := goodIn_app (goodIn_of _ (by decide +kernel)) ggX6_wedAll_X6_wed
theorem dX6_wedAll_0 : decode cX6_wedAll 0 = .ok (.iconst 0, 1) := by decide +kernel
theorem dX6_wedAll_1 : decode cX6_wedAll 1 = .ok (.istore_n 2, 1) := by decide +kernel
theorem dX6_wedAll_2 : decode cX6_wedAll 2 = .ok (.iconst 0, 1) := by decide +kernel
theorem dX6_wedAll_3 : decode cX6_wedAll 3 = .ok (.istore_n 3, 1) := by decide +kernel
theorem dX6_wedAll_4 : decode cX6_wedAll 4 = .ok (.iconst 0, 1) := by decide +kernel
theorem dX6_wedAll_5 : decode cX6_wedAll 5 = .ok (.istore 4, 2) := by decide +kernel
theorem dX6_wedAll_7 : decode cX6_wedAll 7 = .ok (.iload 4, 2) := by decide +kernel
theorem dX6_wedAll_9 : decode cX6_wedAll 9 = .ok (.aload_n 0, 1) := by decide +kernel
theorem dX6_wedAll_10 : decode cX6_wedAll 10 = .ok (.getfield 47, 3) := by decide +kernel
theorem dX6_wedAll_13 : decode cX6_wedAll 13 = .ok (.if_icmp .ge 38, 3) := by decide +kernel
theorem dX6_wedAll_16 : decode cX6_wedAll 16 = .ok (.aload_n 0, 1) := by decide +kernel
theorem dX6_wedAll_17 : decode cX6_wedAll 17 = .ok (.iload 4, 2) := by decide +kernel
theorem dX6_wedAll_19 : decode cX6_wedAll 19 = .ok (.invokevirtual 128, 3) := by decide +kernel
theorem dX6_wedAll_22 : decode cX6_wedAll 22 = .ok (.ifCond .eq 23, 3) := by decide +kernel
theorem dX6_wedAll_25 : decode cX6_wedAll 25 = .ok (.aload_n 0, 1) := by decide +kernel
theorem dX6_wedAll_26 : decode cX6_wedAll 26 = .ok (.iload 4, 2) := by decide +kernel
theorem dX6_wedAll_28 : decode cX6_wedAll 28 = .ok (.invokevirtual 142, 3) := by decide +kernel
theorem dX6_wedAll_31 : decode cX6_wedAll 31 = .ok (.bipush 100, 2) := by decide +kernel
theorem dX6_wedAll_33 : decode cX6_wedAll 33 = .ok (.if_icmp .lt 9, 3) := by decide +kernel
theorem dX6_wedAll_36 : decode cX6_wedAll 36 = .ok (.iinc 2 1, 3) := by decide +kernel
theorem dX6_wedAll_39 : decode cX6_wedAll 39 = .ok (.goto 6, 3) := by decide +kernel
theorem dX6_wedAll_42 : decode cX6_wedAll 42 = .ok (.iinc 3 1, 3) := by decide +kernel
theorem dX6_wedAll_45 : decode cX6_wedAll 45 = .ok (.iinc 4 1, 3) := by decide +kernel
theorem dX6_wedAll_48 : decode cX6_wedAll 48 = .ok (.goto (-41), 3) := by decide +kernel
theorem dX6_wedAll_51 : decode cX6_wedAll 51 = .ok (.iload_n 1, 1) := by decide +kernel
theorem dX6_wedAll_52 : decode cX6_wedAll 52 = .ok (.ifCond .ne 7, 3) := by decide +kernel
theorem dX6_wedAll_55 : decode cX6_wedAll 55 = .ok (.iload_n 2, 1) := by decide +kernel
theorem dX6_wedAll_56 : decode cX6_wedAll 56 = .ok (.goto 4, 3) := by decide +kernel
theorem dX6_wedAll_59 : decode cX6_wedAll 59 = .ok (.iload_n 3, 1) := by decide +kernel
theorem dX6_wedAll_60 : decode cX6_wedAll 60 = .ok (.ireturn, 1) := by decide +kernel
set_option maxRecDepth 20000 in
theorem ggX6_toesFromMind_X6_footOf : GoodIn wsX6_toesFromMind wsX6_footOf := goodIn_r _ [5, 6, 7, 8, 9, 22, 23, 24, 25, 26, 27, 28, 29, 30, 31, 32, 33] (by decide +kernel) (by decide +kernel)
set_option maxRecDepth 20000 in
theorem gX6_toesFromMind_X6_footOf : GoodIn wsX6_toesFromMind (wsV RX6 69 RX6 yX6_footOf wsX6_footOf) := goodIn_app (goodIn_of _ (by decide +kernel)) ggX6_toesFromMind_X6_footOf
set_option maxRecDepth 20000 in
theorem ggX6_toesFromMind_X6_mindOf : GoodIn wsX6_toesFromMind wsX6_mindOf := goodIn_r _ [13, 14, 7, 8, 9, 22, 23, 24, 25, 26, 27, 28, 29, 30, 31, 32, 33] (by decide +kernel) (by decide +kernel)
set_option maxRecDepth 20000 in
theorem gX6_toesFromMind_X6_mindOf : GoodIn wsX6_toesFromMind (wsV RX6 145 RX6 yX6_mindOf wsX6_mindOf) := goodIn_app (goodIn_of _ (by decide +kernel)) ggX6_toesFromMind_X6_mindOf
set_option maxRecDepth 20000 in
theorem ggX6_toesFromMind_J6_bitCount_0f7a4 : GoodIn wsX6_toesFromMind wsJ6_bitCount_0f7a4 := goodIn_r _ [18, 19, 20, 21] (by decide +kernel) (by decide +kernel)
set_option maxRecDepth 20000 in
theorem gX6_toesFromMind_J6_bitCount_0f7a4 : GoodIn wsX6_toesFromMind (va_wsS RX6 134 yJ6_bitCount_0f7a4 wsJ6_bitCount_0f7a4) := goodIn_app (goodIn_of _ (by decide +kernel)) ggX6_toesFromMind_J6_bitCount_0f7a4
theorem dX6_toesFromMind_0 : decode cX6_toesFromMind 0 = .ok (.aload_n 0, 1) := by decide +kernel
theorem dX6_toesFromMind_1 : decode cX6_toesFromMind 1 = .ok (.iload_n 2, 1) := by decide +kernel
theorem dX6_toesFromMind_2 : decode cX6_toesFromMind 2 = .ok (.invokevirtual 69, 3) := by decide +kernel
theorem dX6_toesFromMind_5 : decode cX6_toesFromMind 5 = .ok (.aload_n 0, 1) := by decide +kernel
theorem dX6_toesFromMind_6 : decode cX6_toesFromMind 6 = .ok (.iload_n 1, 1) := by decide +kernel
theorem dX6_toesFromMind_7 : decode cX6_toesFromMind 7 = .ok (.invokevirtual 145, 3) := by decide +kernel
theorem dX6_toesFromMind_10 : decode cX6_toesFromMind 10 = .ok (.ixor, 1) := by decide +kernel
theorem dX6_toesFromMind_11 : decode cX6_toesFromMind 11 = .ok (.invokestatic 134, 3) := by decide +kernel
theorem dX6_toesFromMind_14 : decode cX6_toesFromMind 14 = .ok (.ireturn, 1) := by decide +kernel
set_option maxRecDepth 20000 in
theorem ggX6_nearestTo_X6_toesFromMind : GoodIn wsX6_nearestTo wsX6_toesFromMind := goodIn_r _ [6, 7, 8, 9, 5, 10, 11, 12, 13, 14, 15, 16, 17, 18, 19, 20, 21, 22, 23, 24, 25, 26, 27, 28, 29, 30, 31, 32, 33, 34, 35, 36, 37, 38] (by decide +kernel) (by decide +kernel)
set_option maxRecDepth 20000 in
theorem gX6_nearestTo_X6_toesFromMind : GoodIn wsX6_nearestTo (wsV RX6 148 RX6 yX6_toesFromMind wsX6_toesFromMind) := goodIn_app (goodIn_of _ (by decide +kernel)) ggX6_nearestTo_X6_toesFromMind
theorem dX6_nearestTo_0 : decode cX6_nearestTo 0 = .ok (.bipush (-9), 2) := by decide +kernel
theorem dX6_nearestTo_2 : decode cX6_nearestTo 2 = .ok (.istore_n 2, 1) := by decide +kernel
theorem dX6_nearestTo_3 : decode cX6_nearestTo 3 = .ok (.bipush 7, 2) := by decide +kernel
theorem dX6_nearestTo_5 : decode cX6_nearestTo 5 = .ok (.istore_n 3, 1) := by decide +kernel
theorem dX6_nearestTo_6 : decode cX6_nearestTo 6 = .ok (.iconst 0, 1) := by decide +kernel
theorem dX6_nearestTo_7 : decode cX6_nearestTo 7 = .ok (.istore 4, 2) := by decide +kernel
theorem dX6_nearestTo_9 : decode cX6_nearestTo 9 = .ok (.iload 4, 2) := by decide +kernel
theorem dX6_nearestTo_11 : decode cX6_nearestTo 11 = .ok (.aload_n 0, 1) := by decide +kernel
theorem dX6_nearestTo_12 : decode cX6_nearestTo 12 = .ok (.getfield 37, 3) := by decide +kernel
theorem dX6_nearestTo_15 : decode cX6_nearestTo 15 = .ok (.if_icmp .ge 30, 3) := by decide +kernel
theorem dX6_nearestTo_18 : decode cX6_nearestTo 18 = .ok (.aload_n 0, 1) := by decide +kernel
theorem dX6_nearestTo_19 : decode cX6_nearestTo 19 = .ok (.iload_n 1, 1) := by decide +kernel
theorem dX6_nearestTo_20 : decode cX6_nearestTo 20 = .ok (.iload 4, 2) := by decide +kernel
theorem dX6_nearestTo_22 : decode cX6_nearestTo 22 = .ok (.invokevirtual 148, 3) := by decide +kernel
theorem dX6_nearestTo_25 : decode cX6_nearestTo 25 = .ok (.istore 5, 2) := by decide +kernel
theorem dX6_nearestTo_27 : decode cX6_nearestTo 27 = .ok (.iload 5, 2) := by decide +kernel
theorem dX6_nearestTo_29 : decode cX6_nearestTo 29 = .ok (.iload_n 3, 1) := by decide +kernel
theorem dX6_nearestTo_30 : decode cX6_nearestTo 30 = .ok (.if_icmp .ge 9, 3) := by decide +kernel
theorem dX6_nearestTo_33 : decode cX6_nearestTo 33 = .ok (.iload 5, 2) := by decide +kernel
theorem dX6_nearestTo_35 : decode cX6_nearestTo 35 = .ok (.istore_n 3, 1) := by decide +kernel
theorem dX6_nearestTo_36 : decode cX6_nearestTo 36 = .ok (.iload 4, 2) := by decide +kernel
theorem dX6_nearestTo_38 : decode cX6_nearestTo 38 = .ok (.istore_n 2, 1) := by decide +kernel
theorem dX6_nearestTo_39 : decode cX6_nearestTo 39 = .ok (.iinc 4 1, 3) := by decide +kernel
theorem dX6_nearestTo_42 : decode cX6_nearestTo 42 = .ok (.goto (-33), 3) := by decide +kernel
theorem dX6_nearestTo_45 : decode cX6_nearestTo 45 = .ok (.iload_n 2, 1) := by decide +kernel
theorem dX6_nearestTo_46 : decode cX6_nearestTo 46 = .ok (.ireturn, 1) := by decide +kernel
set_option maxRecDepth 20000 in
theorem ggX6_allLiquor_X6_liquorOf : GoodIn wsX6_allLiquor wsX6_liquorOf := goodIn_r _ [6, 7, 8, 9, 10, 11, 12, 13, 14, 15, 16, 17, 18, 19, 20, 21, 22] (by decide +kernel) (by decide +kernel)
set_option maxRecDepth 20000 in
theorem gX6_allLiquor_X6_liquorOf : GoodIn wsX6_allLiquor (wsV RX6 92 RX6 yX6_liquorOf wsX6_liquorOf) := goodIn_app (goodIn_of _ (by decide +kernel)) ggX6_allLiquor_X6_liquorOf
theorem dX6_allLiquor_0 : decode cX6_allLiquor 0 = .ok (.iconst 0, 1) := by decide +kernel
theorem dX6_allLiquor_1 : decode cX6_allLiquor 1 = .ok (.istore_n 1, 1) := by decide +kernel
theorem dX6_allLiquor_2 : decode cX6_allLiquor 2 = .ok (.iconst 0, 1) := by decide +kernel
theorem dX6_allLiquor_3 : decode cX6_allLiquor 3 = .ok (.istore_n 2, 1) := by decide +kernel
theorem dX6_allLiquor_4 : decode cX6_allLiquor 4 = .ok (.iload_n 2, 1) := by decide +kernel
theorem dX6_allLiquor_5 : decode cX6_allLiquor 5 = .ok (.aload_n 0, 1) := by decide +kernel
theorem dX6_allLiquor_6 : decode cX6_allLiquor 6 = .ok (.getfield 47, 3) := by decide +kernel
theorem dX6_allLiquor_9 : decode cX6_allLiquor 9 = .ok (.if_icmp .ge 17, 3) := by decide +kernel
theorem dX6_allLiquor_12 : decode cX6_allLiquor 12 = .ok (.iload_n 1, 1) := by decide +kernel
theorem dX6_allLiquor_13 : decode cX6_allLiquor 13 = .ok (.aload_n 0, 1) := by decide +kernel
theorem dX6_allLiquor_14 : decode cX6_allLiquor 14 = .ok (.iload_n 2, 1) := by decide +kernel
theorem dX6_allLiquor_15 : decode cX6_allLiquor 15 = .ok (.invokevirtual 92, 3) := by decide +kernel
theorem dX6_allLiquor_18 : decode cX6_allLiquor 18 = .ok (.iadd, 1) := by decide +kernel
theorem dX6_allLiquor_19 : decode cX6_allLiquor 19 = .ok (.istore_n 1, 1) := by decide +kernel
theorem dX6_allLiquor_20 : decode cX6_allLiquor 20 = .ok (.iinc 2 1, 3) := by decide +kernel
theorem dX6_allLiquor_23 : decode cX6_allLiquor 23 = .ok (.goto (-19), 3) := by decide +kernel
theorem dX6_allLiquor_26 : decode cX6_allLiquor 26 = .ok (.iload_n 1, 1) := by decide +kernel
theorem dX6_allLiquor_27 : decode cX6_allLiquor 27 = .ok (.ireturn, 1) := by decide +kernel
set_option maxRecDepth 20000 in
theorem ggX6_drawFeetAndMinds_X6_nextSeed : GoodIn wsX6_drawFeetAndMinds wsX6_nextSeed := goodIn_r _ [7, 8, 9] (by decide +kernel) (by decide +kernel)
set_option maxRecDepth 20000 in
theorem gX6_drawFeetAndMinds_X6_nextSeed : GoodIn wsX6_drawFeetAndMinds (va_wsS RX6 151 yX6_nextSeed wsX6_nextSeed) := goodIn_app (goodIn_of _ (by decide +kernel)) ggX6_drawFeetAndMinds_X6_nextSeed
set_option maxRecDepth 20000 in
theorem ggX6_drawFeetAndMinds_X6_drawnFoot : GoodIn wsX6_drawFeetAndMinds wsX6_drawnFoot := goodIn_r _ [12, 13] (by decide +kernel) (by decide +kernel)
set_option maxRecDepth 20000 in
theorem gX6_drawFeetAndMinds_X6_drawnFoot : GoodIn wsX6_drawFeetAndMinds (va_wsS RX6 154 yX6_drawnFoot wsX6_drawnFoot) := goodIn_app (goodIn_of _ (by decide +kernel)) ggX6_drawFeetAndMinds_X6_drawnFoot
set_option maxRecDepth 20000 in
theorem ggX6_drawFeetAndMinds_X7_put : GoodIn wsX6_drawFeetAndMinds wsX7_put := goodIn_r _ [16] (by decide +kernel) (by decide +kernel)
set_option maxRecDepth 20000 in
theorem gX6_drawFeetAndMinds_X7_put_n65 : GoodIn wsX6_drawFeetAndMinds (wsX7_put) := ggX6_drawFeetAndMinds_X7_put
set_option maxRecDepth 20000 in
theorem ggX6_drawFeetAndMinds_X6_setMind : GoodIn wsX6_drawFeetAndMinds wsX6_setMind := goodIn_r _ [20, 21, 14, 15, 16, 22, 23, 24, 25, 26, 27, 28, 29, 30, 31, 32, 33] (by decide +kernel) (by decide +kernel)
set_option maxRecDepth 20000 in
theorem gX6_drawFeetAndMinds_X6_setMind : GoodIn wsX6_drawFeetAndMinds (wsV RX6 80 RX6 yX6_setMind wsX6_setMind) := goodIn_app (goodIn_of _ (by decide +kernel)) ggX6_drawFeetAndMinds_X6_setMind
theorem dX6_drawFeetAndMinds_0 : decode cX6_drawFeetAndMinds 0 = .ok (.iload_n 1, 1) := by decide +kernel
theorem dX6_drawFeetAndMinds_1 : decode cX6_drawFeetAndMinds 1 = .ok (.istore_n 2, 1) := by decide +kernel
theorem dX6_drawFeetAndMinds_2 : decode cX6_drawFeetAndMinds 2 = .ok (.iconst 0, 1) := by decide +kernel
theorem dX6_drawFeetAndMinds_3 : decode cX6_drawFeetAndMinds 3 = .ok (.istore_n 3, 1) := by decide +kernel
theorem dX6_drawFeetAndMinds_4 : decode cX6_drawFeetAndMinds 4 = .ok (.iload_n 3, 1) := by decide +kernel
theorem dX6_drawFeetAndMinds_5 : decode cX6_drawFeetAndMinds 5 = .ok (.aload_n 0, 1) := by decide +kernel
theorem dX6_drawFeetAndMinds_6 : decode cX6_drawFeetAndMinds 6 = .ok (.getfield 37, 3) := by decide +kernel
theorem dX6_drawFeetAndMinds_9 : decode cX6_drawFeetAndMinds 9 = .ok (.if_icmp .ge 26, 3) := by decide +kernel
theorem dX6_drawFeetAndMinds_12 : decode cX6_drawFeetAndMinds 12 = .ok (.iload_n 2, 1) := by decide +kernel
theorem dX6_drawFeetAndMinds_13 : decode cX6_drawFeetAndMinds 13 = .ok (.invokestatic 151, 3) := by decide +kernel
theorem dX6_drawFeetAndMinds_16 : decode cX6_drawFeetAndMinds 16 = .ok (.istore_n 2, 1) := by decide +kernel
theorem dX6_drawFeetAndMinds_17 : decode cX6_drawFeetAndMinds 17 = .ok (.aload_n 0, 1) := by decide +kernel
theorem dX6_drawFeetAndMinds_18 : decode cX6_drawFeetAndMinds 18 = .ok (.getfield 18, 3) := by decide +kernel
theorem dX6_drawFeetAndMinds_21 : decode cX6_drawFeetAndMinds 21 = .ok (.iload_n 3, 1) := by decide +kernel
theorem dX6_drawFeetAndMinds_22 : decode cX6_drawFeetAndMinds 22 = .ok (.iload_n 2, 1) := by decide +kernel
theorem dX6_drawFeetAndMinds_23 : decode cX6_drawFeetAndMinds 23 = .ok (.invokestatic 154, 3) := by decide +kernel
theorem dX6_drawFeetAndMinds_26 : decode cX6_drawFeetAndMinds 26 = .ok (.invokestatic 65, 3) := by decide +kernel
theorem dX6_drawFeetAndMinds_29 : decode cX6_drawFeetAndMinds 29 = .ok (.iinc 3 1, 3) := by decide +kernel
theorem dX6_drawFeetAndMinds_32 : decode cX6_drawFeetAndMinds 32 = .ok (.goto (-28), 3) := by decide +kernel
theorem dX6_drawFeetAndMinds_35 : decode cX6_drawFeetAndMinds 35 = .ok (.iconst 0, 1) := by decide +kernel
theorem dX6_drawFeetAndMinds_36 : decode cX6_drawFeetAndMinds 36 = .ok (.istore_n 3, 1) := by decide +kernel
theorem dX6_drawFeetAndMinds_37 : decode cX6_drawFeetAndMinds 37 = .ok (.iload_n 3, 1) := by decide +kernel
theorem dX6_drawFeetAndMinds_38 : decode cX6_drawFeetAndMinds 38 = .ok (.aload_n 0, 1) := by decide +kernel
theorem dX6_drawFeetAndMinds_39 : decode cX6_drawFeetAndMinds 39 = .ok (.getfield 47, 3) := by decide +kernel
theorem dX6_drawFeetAndMinds_42 : decode cX6_drawFeetAndMinds 42 = .ok (.if_icmp .ge 23, 3) := by decide +kernel
theorem dX6_drawFeetAndMinds_45 : decode cX6_drawFeetAndMinds 45 = .ok (.iload_n 2, 1) := by decide +kernel
theorem dX6_drawFeetAndMinds_46 : decode cX6_drawFeetAndMinds 46 = .ok (.invokestatic 151, 3) := by decide +kernel
theorem dX6_drawFeetAndMinds_49 : decode cX6_drawFeetAndMinds 49 = .ok (.istore_n 2, 1) := by decide +kernel
theorem dX6_drawFeetAndMinds_50 : decode cX6_drawFeetAndMinds 50 = .ok (.aload_n 0, 1) := by decide +kernel
theorem dX6_drawFeetAndMinds_51 : decode cX6_drawFeetAndMinds 51 = .ok (.iload_n 3, 1) := by decide +kernel
theorem dX6_drawFeetAndMinds_52 : decode cX6_drawFeetAndMinds 52 = .ok (.iload_n 2, 1) := by decide +kernel
theorem dX6_drawFeetAndMinds_53 : decode cX6_drawFeetAndMinds 53 = .ok (.invokestatic 154, 3) := by decide +kernel
theorem dX6_drawFeetAndMinds_56 : decode cX6_drawFeetAndMinds 56 = .ok (.invokevirtual 80, 3) := by decide +kernel
theorem dX6_drawFeetAndMinds_59 : decode cX6_drawFeetAndMinds 59 = .ok (.iinc 3 1, 3) := by decide +kernel
theorem dX6_drawFeetAndMinds_62 : decode cX6_drawFeetAndMinds 62 = .ok (.goto (-25), 3) := by decide +kernel
theorem dX6_drawFeetAndMinds_65 : decode cX6_drawFeetAndMinds 65 = .ok (.iload_n 2, 1) := by decide +kernel
theorem dX6_drawFeetAndMinds_66 : decode cX6_drawFeetAndMinds 66 = .ok (.ireturn, 1) := by decide +kernel
theorem dX6_nextSeed_0 : decode cX6_nextSeed 0 = .ok (.iload_n 0, 1) := by decide +kernel
theorem dX6_nextSeed_1 : decode cX6_nextSeed 1 = .ok (.ldc 157, 2) := by decide +kernel
theorem dX6_nextSeed_3 : decode cX6_nextSeed 3 = .ok (.imul, 1) := by decide +kernel
theorem dX6_nextSeed_4 : decode cX6_nextSeed 4 = .ok (.ldc 158, 2) := by decide +kernel
theorem dX6_nextSeed_6 : decode cX6_nextSeed 6 = .ok (.iadd, 1) := by decide +kernel
theorem dX6_nextSeed_7 : decode cX6_nextSeed 7 = .ok (.ireturn, 1) := by decide +kernel
theorem dX6_drawnFoot_0 : decode cX6_drawnFoot 0 = .ok (.iload_n 0, 1) := by decide +kernel
theorem dX6_drawnFoot_1 : decode cX6_drawnFoot 1 = .ok (.ldc 159, 2) := by decide +kernel
theorem dX6_drawnFoot_3 : decode cX6_drawnFoot 3 = .ok (.iand, 1) := by decide +kernel
theorem dX6_drawnFoot_4 : decode cX6_drawnFoot 4 = .ok (.sipush 256, 3) := by decide +kernel
theorem dX6_drawnFoot_7 : decode cX6_drawnFoot 7 = .ok (.idiv, 1) := by decide +kernel
theorem dX6_drawnFoot_8 : decode cX6_drawnFoot 8 = .ok (.bipush 64, 2) := by decide +kernel
theorem dX6_drawnFoot_10 : decode cX6_drawnFoot 10 = .ok (.irem, 1) := by decide +kernel
theorem dX6_drawnFoot_11 : decode cX6_drawnFoot 11 = .ok (.ireturn, 1) := by decide +kernel
set_option maxRecDepth 20000 in
theorem ggX7_init_X6_init : GoodIn wsX7_init wsX6_init := goodIn_r _ [25, 26, 2, 3, 22, 27, 28, 29, 30, 31, 32, 33, 46, 47, 48, 49, 50, 51, 52, 53, 54, 55, 56, 57] (by decide +kernel) (by decide +kernel)
set_option maxRecDepth 20000 in
theorem gX7_init_X6_init_n9 : GoodIn wsX7_init (wsX6_init) := ggX7_init_X6_init
set_option maxRecDepth 20000 in
theorem ggX7_init_X5_init : GoodIn wsX7_init wsX5_init := goodIn_r _ [35, 36, 2, 3, 22, 37, 66, 67] (by decide +kernel) (by decide +kernel)
set_option maxRecDepth 20000 in
theorem gX7_init_X5_init_n24 : GoodIn wsX7_init (wsX5_init) := ggX7_init_X5_init
set_option maxRecDepth 20000 in
theorem ggX7_init_X4_init : GoodIn wsX7_init wsX4_init := goodIn_r _ [39, 40, 2, 3, 22, 41, 68, 69] (by decide +kernel) (by decide +kernel)
set_option maxRecDepth 20000 in
theorem gX7_init_X4_init_n31 : GoodIn wsX7_init (wsX4_init) := ggX7_init_X4_init
set_option maxRecDepth 20000 in
theorem ggX7_init_X3_init : GoodIn wsX7_init wsX3_init := goodIn_r _ [43, 44, 2, 3, 22, 45, 70, 71] (by decide +kernel) (by decide +kernel)
set_option maxRecDepth 20000 in
theorem gX7_init_X3_init_n38 : GoodIn wsX7_init (wsX3_init) := ggX7_init_X3_init
theorem dX7_init_0 : decode cX7_init 0 = .ok (.aload_n 0, 1) := by decide +kernel
theorem dX7_init_1 : decode cX7_init 1 = .ok (.invokespecial 1, 3) := by decide +kernel
theorem dX7_init_4 : decode cX7_init 4 = .ok (.aload_n 0, 1) := by decide +kernel
theorem dX7_init_5 : decode cX7_init 5 = .ok (.new 7, 3) := by decide +kernel
theorem dX7_init_8 : decode cX7_init 8 = .ok (.dup, 1) := by decide +kernel
theorem dX7_init_9 : decode cX7_init 9 = .ok (.invokespecial 9, 3) := by decide +kernel
theorem dX7_init_12 : decode cX7_init 12 = .ok (.putfield 10, 3) := by decide +kernel
theorem dX7_init_15 : decode cX7_init 15 = .ok (.aload_n 0, 1) := by decide +kernel
theorem dX7_init_16 : decode cX7_init 16 = .ok (.new 7, 3) := by decide +kernel
theorem dX7_init_19 : decode cX7_init 19 = .ok (.dup, 1) := by decide +kernel
theorem dX7_init_20 : decode cX7_init 20 = .ok (.invokespecial 9, 3) := by decide +kernel
theorem dX7_init_23 : decode cX7_init 23 = .ok (.putfield 16, 3) := by decide +kernel
theorem dX7_init_26 : decode cX7_init 26 = .ok (.aload_n 0, 1) := by decide +kernel
theorem dX7_init_27 : decode cX7_init 27 = .ok (.new 7, 3) := by decide +kernel
theorem dX7_init_30 : decode cX7_init 30 = .ok (.dup, 1) := by decide +kernel
theorem dX7_init_31 : decode cX7_init 31 = .ok (.invokespecial 9, 3) := by decide +kernel
theorem dX7_init_34 : decode cX7_init 34 = .ok (.putfield 19, 3) := by decide +kernel
theorem dX7_init_37 : decode cX7_init 37 = .ok (.aload_n 0, 1) := by decide +kernel
theorem dX7_init_38 : decode cX7_init 38 = .ok (.new 22, 3) := by decide +kernel
theorem dX7_init_41 : decode cX7_init 41 = .ok (.dup, 1) := by decide +kernel
theorem dX7_init_42 : decode cX7_init 42 = .ok (.invokespecial 24, 3) := by decide +kernel
theorem dX7_init_45 : decode cX7_init 45 = .ok (.putfield 25, 3) := by decide +kernel
theorem dX7_init_48 : decode cX7_init 48 = .ok (.aload_n 0, 1) := by decide +kernel
theorem dX7_init_49 : decode cX7_init 49 = .ok (.new 29, 3) := by decide +kernel
theorem dX7_init_52 : decode cX7_init 52 = .ok (.dup, 1) := by decide +kernel
theorem dX7_init_53 : decode cX7_init 53 = .ok (.invokespecial 31, 3) := by decide +kernel
theorem dX7_init_56 : decode cX7_init 56 = .ok (.putfield 32, 3) := by decide +kernel
theorem dX7_init_59 : decode cX7_init 59 = .ok (.aload_n 0, 1) := by decide +kernel
theorem dX7_init_60 : decode cX7_init 60 = .ok (.new 36, 3) := by decide +kernel
theorem dX7_init_63 : decode cX7_init 63 = .ok (.dup, 1) := by decide +kernel
theorem dX7_init_64 : decode cX7_init 64 = .ok (.invokespecial 38, 3) := by decide +kernel
theorem dX7_init_67 : decode cX7_init 67 = .ok (.putfield 39, 3) := by decide +kernel
theorem dX7_init_70 : decode cX7_init 70 = .ok (.aload_n 0, 1) := by decide +kernel
theorem dX7_init_71 : decode cX7_init 71 = .ok (.bipush 7, 2) := by decide +kernel
theorem dX7_init_73 : decode cX7_init 73 = .ok (.newarray .int, 2) := by decide +kernel
theorem dX7_init_75 : decode cX7_init 75 = .ok (.putfield 43, 3) := by decide +kernel
theorem dX7_init_78 : decode cX7_init 78 = .ok (.return_, 1) := by decide +kernel
set_option maxRecDepth 20000 in
theorem ggX7_letter_X7_refuse : GoodIn wsX7_letter wsX7_refuse := goodIn_r _ [6, 7, 8, 9, 5, 10, 11, 12, 13, 25, 26, 27, 28, 29, 30, 31, 32] (by decide +kernel) (by decide +kernel)
set_option maxRecDepth 20000 in
theorem gX7_letter_X7_refuse : GoodIn wsX7_letter (wsV RX7 47 RX7 yX7_refuse wsX7_refuse) := goodIn_app (goodIn_of _ (by decide +kernel)) ggX7_letter_X7_refuse
set_option maxRecDepth 20000 in
theorem ggX7_letter_X5_isFull : GoodIn wsX7_letter wsX5_isFull := goodIn_r _ [18, 19, 33, 34] (by decide +kernel) (by decide +kernel)
set_option maxRecDepth 20000 in
theorem gX7_letter_X5_isFull : GoodIn wsX7_letter (wsV RX7 51 RX5 yX5_isFull wsX5_isFull) := goodIn_app (goodIn_of _ (by decide +kernel)) ggX7_letter_X5_isFull
set_option maxRecDepth 20000 in
theorem ggX7_letter_X5_add : GoodIn wsX7_letter wsX5_add := goodIn_r _ [23, 24, 19, 12, 5, 13, 33, 34] (by decide +kernel) (by decide +kernel)
set_option maxRecDepth 20000 in
theorem gX7_letter_X5_add : GoodIn wsX7_letter (wsV RX7 55 RX5 yX5_add wsX5_add) := goodIn_app (goodIn_of _ (by decide +kernel)) ggX7_letter_X5_add
theorem dX7_letter_0 : decode cX7_letter 0 = .ok (.iload_n 1, 1) := by decide +kernel
theorem dX7_letter_1 : decode cX7_letter 1 = .ok (.ifCond .ge 10, 3) := by decide +kernel
theorem dX7_letter_4 : decode cX7_letter 4 = .ok (.aload_n 0, 1) := by decide +kernel
theorem dX7_letter_5 : decode cX7_letter 5 = .ok (.bipush (-4), 2) := by decide +kernel
theorem dX7_letter_7 : decode cX7_letter 7 = .ok (.invokevirtual 47, 3) := by decide +kernel
theorem dX7_letter_10 : decode cX7_letter 10 = .ok (.ireturn, 1) := by decide +kernel
theorem dX7_letter_11 : decode cX7_letter 11 = .ok (.iload_n 1, 1) := by decide +kernel
theorem dX7_letter_12 : decode cX7_letter 12 = .ok (.sipush 255, 3) := by decide +kernel
theorem dX7_letter_15 : decode cX7_letter 15 = .ok (.if_icmp .gt 13, 3) := by decide +kernel
theorem dX7_letter_18 : decode cX7_letter 18 = .ok (.aload_n 0, 1) := by decide +kernel
theorem dX7_letter_19 : decode cX7_letter 19 = .ok (.getfield 25, 3) := by decide +kernel
theorem dX7_letter_22 : decode cX7_letter 22 = .ok (.invokevirtual 51, 3) := by decide +kernel
theorem dX7_letter_25 : decode cX7_letter 25 = .ok (.ifCond .eq 10, 3) := by decide +kernel
theorem dX7_letter_28 : decode cX7_letter 28 = .ok (.aload_n 0, 1) := by decide +kernel
theorem dX7_letter_29 : decode cX7_letter 29 = .ok (.bipush (-6), 2) := by decide +kernel
theorem dX7_letter_31 : decode cX7_letter 31 = .ok (.invokevirtual 47, 3) := by decide +kernel
theorem dX7_letter_34 : decode cX7_letter 34 = .ok (.ireturn, 1) := by decide +kernel
theorem dX7_letter_35 : decode cX7_letter 35 = .ok (.aload_n 0, 1) := by decide +kernel
theorem dX7_letter_36 : decode cX7_letter 36 = .ok (.getfield 25, 3) := by decide +kernel
theorem dX7_letter_39 : decode cX7_letter 39 = .ok (.iload_n 1, 1) := by decide +kernel
theorem dX7_letter_40 : decode cX7_letter 40 = .ok (.invokevirtual 55, 3) := by decide +kernel
theorem dX7_letter_43 : decode cX7_letter 43 = .ok (.ireturn, 1) := by decide +kernel
set_option maxRecDepth 20000 in
theorem ggX7_valley_X6_become : GoodIn wsX7_valley wsX6_become := goodIn_r _ [8, 9, 10, 11, 12, 13, 14, 15, 16, 17, 18, 19, 20, 21, 22, 23, 302, 303, 304, 305, 306, 307, 308, 309, 310, 311, 312, 313] (by decide +kernel) (by decide +kernel)
set_option maxRecDepth 20000 in
theorem gX7_valley_X6_become : GoodIn wsX7_valley (wsV RX7 58 RX6 yX6_become wsX6_become) := goodIn_app (goodIn_of _ (by decide +kernel)) ggX7_valley_X6_become
set_option maxRecDepth 20000 in
theorem ggX7_valley_X5_tellTo : GoodIn wsX7_valley wsX5_tellTo := goodIn_r _ [28, 29, 30, 31, 32, 33, 27, 34, 35, 22, 36, 37, 38, 39, 40, 41, 42, 43, 44, 45, 46, 47, 48, 49, 50, 51, 52, 53, 54, 55, 56, 57, 58, 59, 60, 61, 62, 63, 64, 65, 66, 67, 68, 69, 70, 71, 72, 73, 74, 75, 76, 77, 78, 79, 80, 81, 82, 83, 84, 85, 86, 87, 88, 89, 90, 91, 92, 93, 94, 95, 96, 97, 98, 99, 100, 101, 102, 103, 104, 105, 106, 107, 108, 109, 110, 111, 112, 113, 114, 115, 116, 117, 118, 119, 120, 121, 122, 123, 124, 125, 126, 127, 128, 129, 130, 131, 132, 133, 134, 135, 136, 137, 138, 139, 140, 141, 142, 143, 144, 145, 146, 147, 148, 149, 150, 151, 152, 153, 154, 155, 156, 157, 158, 159, 160, 161, 162, 163, 164, 165, 166, 167, 168, 169, 170, 171, 172, 173, 174, 175, 7, 176, 10, 13, 177, 178, 179, 180, 11, 12, 181, 182, 183, 184, 185, 186, 16, 187, 188, 189, 190, 17, 191, 192, 193, 194, 18, 195, 196, 197, 198, 199, 200, 201, 202, 203, 204, 205, 206, 207, 208, 209, 210, 211, 212, 213, 214, 215, 216, 217, 218, 219, 220, 19, 221, 222, 223, 224, 225, 226, 227, 228, 229, 20, 230, 231, 232, 233, 234, 235, 15, 14, 236, 237, 238, 239, 240, 241, 242, 243, 244, 245, 246, 247, 9, 248, 249, 250, 251, 252, 253, 254, 255, 256, 257, 258, 259, 260, 261, 262, 263, 264, 265, 266, 267, 268, 269, 270, 271, 272, 273, 274, 275, 276, 277, 278, 279, 280, 281, 282, 283, 284, 285, 286, 287, 288, 289, 314, 315, 302, 303, 304, 305, 306, 307, 308, 309, 310, 311, 312, 313] (by decide +kernel) (by decide +kernel)
set_option maxRecDepth 20000 in
theorem gX7_valley_X5_tellTo : GoodIn wsX7_valley (wsV RX7 62 RX5 yX5_tellTo wsX5_tellTo) := goodIn_app (goodIn_of _ (by decide +kernel)) ggX7_valley_X5_tellTo
set_option maxRecDepth 20000 in
theorem ggX7_valley_X5_empty : GoodIn wsX7_valley wsX5_empty := goodIn_r _ [293, 29, 314, 315] (by decide +kernel) (by decide +kernel)
set_option maxRecDepth 20000 in
theorem gX7_valley_X5_empty : GoodIn wsX7_valley (wsV RX7 66 RX5 yX5_empty wsX5_empty) := goodIn_app (goodIn_of _ (by decide +kernel)) ggX7_valley_X5_empty
theorem dX7_valley_0 : decode cX7_valley 0 = .ok (.aload_n 0, 1) := by decide +kernel
theorem dX7_valley_1 : decode cX7_valley 1 = .ok (.getfield 16, 3) := by decide +kernel
theorem dX7_valley_4 : decode cX7_valley 4 = .ok (.aload_n 0, 1) := by decide +kernel
theorem dX7_valley_5 : decode cX7_valley 5 = .ok (.getfield 10, 3) := by decide +kernel
theorem dX7_valley_8 : decode cX7_valley 8 = .ok (.invokevirtual 58, 3) := by decide +kernel
theorem dX7_valley_11 : decode cX7_valley 11 = .ok (.aload_n 0, 1) := by decide +kernel
theorem dX7_valley_12 : decode cX7_valley 12 = .ok (.getfield 25, 3) := by decide +kernel
theorem dX7_valley_15 : decode cX7_valley 15 = .ok (.aload_n 0, 1) := by decide +kernel
theorem dX7_valley_16 : decode cX7_valley 16 = .ok (.getfield 16, 3) := by decide +kernel
theorem dX7_valley_19 : decode cX7_valley 19 = .ok (.invokevirtual 62, 3) := by decide +kernel
theorem dX7_valley_22 : decode cX7_valley 22 = .ok (.istore_n 1, 1) := by decide +kernel
theorem dX7_valley_23 : decode cX7_valley 23 = .ok (.aload_n 0, 1) := by decide +kernel
theorem dX7_valley_24 : decode cX7_valley 24 = .ok (.getfield 25, 3) := by decide +kernel
theorem dX7_valley_27 : decode cX7_valley 27 = .ok (.invokevirtual 66, 3) := by decide +kernel
theorem dX7_valley_30 : decode cX7_valley 30 = .ok (.iload_n 1, 1) := by decide +kernel
theorem dX7_valley_31 : decode cX7_valley 31 = .ok (.ifCond .lt 14, 3) := by decide +kernel
theorem dX7_valley_34 : decode cX7_valley 34 = .ok (.aload_n 0, 1) := by decide +kernel
theorem dX7_valley_35 : decode cX7_valley 35 = .ok (.getfield 10, 3) := by decide +kernel
theorem dX7_valley_38 : decode cX7_valley 38 = .ok (.aload_n 0, 1) := by decide +kernel
theorem dX7_valley_39 : decode cX7_valley 39 = .ok (.getfield 16, 3) := by decide +kernel
theorem dX7_valley_42 : decode cX7_valley 42 = .ok (.invokevirtual 58, 3) := by decide +kernel
theorem dX7_valley_45 : decode cX7_valley 45 = .ok (.iload_n 1, 1) := by decide +kernel
theorem dX7_valley_46 : decode cX7_valley 46 = .ok (.ireturn, 1) := by decide +kernel
set_option maxRecDepth 20000 in
theorem ggX7_bride_X6_hasBride : GoodIn wsX7_bride wsX6_hasBride := goodIn_r _ [6, 7, 64, 65, 66, 67, 68, 69, 70, 71, 72, 73, 74, 75] (by decide +kernel) (by decide +kernel)
set_option maxRecDepth 20000 in
theorem gX7_bride_X6_hasBride : GoodIn wsX7_bride (wsV RX7 69 RX6 yX6_hasBride wsX6_hasBride) := goodIn_app (goodIn_of _ (by decide +kernel)) ggX7_bride_X6_hasBride
set_option maxRecDepth 20000 in
theorem ggX7_bride_X7_refuse : GoodIn wsX7_bride wsX7_refuse := goodIn_r _ [12, 13, 14, 15, 11, 16, 17, 18, 19, 56, 57, 58, 59, 60, 61, 62, 63] (by decide +kernel) (by decide +kernel)
set_option maxRecDepth 20000 in
theorem gX7_bride_X7_refuse : GoodIn wsX7_bride (wsV RX7 47 RX7 yX7_refuse wsX7_refuse) := goodIn_app (goodIn_of _ (by decide +kernel)) ggX7_bride_X7_refuse
set_option maxRecDepth 20000 in
theorem ggX7_bride_X6_kindOf : GoodIn wsX7_bride wsX6_kindOf := goodIn_r _ [23, 24, 15, 11, 16, 64, 65, 66, 67, 68, 69, 70, 71, 72, 73, 74, 75] (by decide +kernel) (by decide +kernel)
set_option maxRecDepth 20000 in
theorem gX7_bride_X6_kindOf : GoodIn wsX7_bride (wsV RX7 73 RX6 yX6_kindOf wsX6_kindOf) := goodIn_app (goodIn_of _ (by decide +kernel)) ggX7_bride_X6_kindOf
set_option maxRecDepth 20000 in
theorem ggX7_bride_X6_figureOf : GoodIn wsX7_bride wsX6_figureOf := goodIn_r _ [28, 29, 15, 11, 16, 64, 65, 66, 67, 68, 69, 70, 71, 72, 73, 74, 75] (by decide +kernel) (by decide +kernel)
set_option maxRecDepth 20000 in
theorem gX7_bride_X6_figureOf : GoodIn wsX7_bride (wsV RX7 76 RX6 yX6_figureOf wsX6_figureOf) := goodIn_app (goodIn_of _ (by decide +kernel)) ggX7_bride_X6_figureOf
set_option maxRecDepth 20000 in
theorem ggX7_bride_X6_footOf : GoodIn wsX7_bride wsX6_footOf := goodIn_r _ [33, 34, 15, 11, 16, 64, 65, 66, 67, 68, 69, 70, 71, 72, 73, 74, 75] (by decide +kernel) (by decide +kernel)
set_option maxRecDepth 20000 in
theorem gX7_bride_X6_footOf : GoodIn wsX7_bride (wsV RX7 79 RX6 yX6_footOf wsX6_footOf) := goodIn_app (goodIn_of _ (by decide +kernel)) ggX7_bride_X6_footOf
set_option maxRecDepth 20000 in
theorem ggX7_bride_X6_shows : GoodIn wsX7_bride wsX6_shows := goodIn_r _ [38, 24, 29, 15, 11, 16, 39, 40, 41, 5, 42, 34, 43, 64, 65, 66, 67, 68, 69, 70, 71, 72, 73, 74, 75] (by decide +kernel) (by decide +kernel)
set_option maxRecDepth 20000 in
theorem gX7_bride_X6_shows : GoodIn wsX7_bride (wsV RX7 82 RX6 yX6_shows wsX6_shows) := goodIn_app (goodIn_of _ (by decide +kernel)) ggX7_bride_X6_shows
set_option maxRecDepth 20000 in
theorem ggX7_bride_X6_sentFor : GoodIn wsX7_bride wsX6_sentFor := goodIn_r _ [47, 48, 15, 11, 16, 64, 65, 66, 67, 68, 69, 70, 71, 72, 73, 74, 75] (by decide +kernel) (by decide +kernel)
set_option maxRecDepth 20000 in
theorem gX7_bride_X6_sentFor : GoodIn wsX7_bride (wsV RX7 86 RX6 yX6_sentFor wsX6_sentFor) := goodIn_app (goodIn_of _ (by decide +kernel)) ggX7_bride_X6_sentFor
set_option maxRecDepth 20000 in
theorem ggX7_bride_X6_placeOf : GoodIn wsX7_bride wsX6_placeOf := goodIn_r _ [52, 53, 48, 54, 11, 55, 15, 16, 64, 65, 66, 67, 68, 69, 70, 71, 72, 73, 74, 75] (by decide +kernel) (by decide +kernel)
set_option maxRecDepth 20000 in
theorem gX7_bride_X6_placeOf : GoodIn wsX7_bride (wsV RX7 89 RX6 yX6_placeOf wsX6_placeOf) := goodIn_app (goodIn_of _ (by decide +kernel)) ggX7_bride_X6_placeOf
theorem dX7_bride_0 : decode cX7_bride 0 = .ok (.aload_n 0, 1) := by decide +kernel
theorem dX7_bride_1 : decode cX7_bride 1 = .ok (.getfield 10, 3) := by decide +kernel
theorem dX7_bride_4 : decode cX7_bride 4 = .ok (.iload_n 1, 1) := by decide +kernel
theorem dX7_bride_5 : decode cX7_bride 5 = .ok (.invokevirtual 69, 3) := by decide +kernel
theorem dX7_bride_8 : decode cX7_bride 8 = .ok (.ifCond .ne 9, 3) := by decide +kernel
theorem dX7_bride_11 : decode cX7_bride 11 = .ok (.aload_n 0, 1) := by decide +kernel
theorem dX7_bride_12 : decode cX7_bride 12 = .ok (.iconst (-1), 1) := by decide +kernel
theorem dX7_bride_13 : decode cX7_bride 13 = .ok (.invokevirtual 47, 3) := by decide +kernel
theorem dX7_bride_16 : decode cX7_bride 16 = .ok (.ireturn, 1) := by decide +kernel
theorem dX7_bride_17 : decode cX7_bride 17 = .ok (.iload_n 2, 1) := by decide +kernel
theorem dX7_bride_18 : decode cX7_bride 18 = .ok (.tableswitch 93 0 5 #[38, 47, 56, 65, 75, 84], 38) := by decide +kernel
theorem dX7_bride_56 : decode cX7_bride 56 = .ok (.aload_n 0, 1) := by decide +kernel
theorem dX7_bride_57 : decode cX7_bride 57 = .ok (.getfield 10, 3) := by decide +kernel
theorem dX7_bride_60 : decode cX7_bride 60 = .ok (.iload_n 1, 1) := by decide +kernel
theorem dX7_bride_61 : decode cX7_bride 61 = .ok (.invokevirtual 73, 3) := by decide +kernel
theorem dX7_bride_64 : decode cX7_bride 64 = .ok (.ireturn, 1) := by decide +kernel
theorem dX7_bride_65 : decode cX7_bride 65 = .ok (.aload_n 0, 1) := by decide +kernel
theorem dX7_bride_66 : decode cX7_bride 66 = .ok (.getfield 10, 3) := by decide +kernel
theorem dX7_bride_69 : decode cX7_bride 69 = .ok (.iload_n 1, 1) := by decide +kernel
theorem dX7_bride_70 : decode cX7_bride 70 = .ok (.invokevirtual 76, 3) := by decide +kernel
theorem dX7_bride_73 : decode cX7_bride 73 = .ok (.ireturn, 1) := by decide +kernel
theorem dX7_bride_74 : decode cX7_bride 74 = .ok (.aload_n 0, 1) := by decide +kernel
theorem dX7_bride_75 : decode cX7_bride 75 = .ok (.getfield 10, 3) := by decide +kernel
theorem dX7_bride_78 : decode cX7_bride 78 = .ok (.iload_n 1, 1) := by decide +kernel
theorem dX7_bride_79 : decode cX7_bride 79 = .ok (.invokevirtual 79, 3) := by decide +kernel
theorem dX7_bride_82 : decode cX7_bride 82 = .ok (.ireturn, 1) := by decide +kernel
theorem dX7_bride_83 : decode cX7_bride 83 = .ok (.aload_n 0, 1) := by decide +kernel
theorem dX7_bride_84 : decode cX7_bride 84 = .ok (.getfield 10, 3) := by decide +kernel
theorem dX7_bride_87 : decode cX7_bride 87 = .ok (.iload_n 1, 1) := by decide +kernel
theorem dX7_bride_88 : decode cX7_bride 88 = .ok (.iconst 0, 1) := by decide +kernel
theorem dX7_bride_89 : decode cX7_bride 89 = .ok (.invokevirtual 82, 3) := by decide +kernel
theorem dX7_bride_92 : decode cX7_bride 92 = .ok (.ireturn, 1) := by decide +kernel
theorem dX7_bride_93 : decode cX7_bride 93 = .ok (.aload_n 0, 1) := by decide +kernel
theorem dX7_bride_94 : decode cX7_bride 94 = .ok (.getfield 10, 3) := by decide +kernel
theorem dX7_bride_97 : decode cX7_bride 97 = .ok (.iload_n 1, 1) := by decide +kernel
theorem dX7_bride_98 : decode cX7_bride 98 = .ok (.invokevirtual 86, 3) := by decide +kernel
theorem dX7_bride_101 : decode cX7_bride 101 = .ok (.ireturn, 1) := by decide +kernel
theorem dX7_bride_102 : decode cX7_bride 102 = .ok (.aload_n 0, 1) := by decide +kernel
theorem dX7_bride_103 : decode cX7_bride 103 = .ok (.getfield 10, 3) := by decide +kernel
theorem dX7_bride_106 : decode cX7_bride 106 = .ok (.iload_n 1, 1) := by decide +kernel
theorem dX7_bride_107 : decode cX7_bride 107 = .ok (.invokevirtual 89, 3) := by decide +kernel
theorem dX7_bride_110 : decode cX7_bride 110 = .ok (.ireturn, 1) := by decide +kernel
theorem dX7_bride_111 : decode cX7_bride 111 = .ok (.aload_n 0, 1) := by decide +kernel
theorem dX7_bride_112 : decode cX7_bride 112 = .ok (.bipush (-2), 2) := by decide +kernel
theorem dX7_bride_114 : decode cX7_bride 114 = .ok (.invokevirtual 47, 3) := by decide +kernel
theorem dX7_bride_117 : decode cX7_bride 117 = .ok (.ireturn, 1) := by decide +kernel
set_option maxRecDepth 20000 in
theorem ggX7_groom_X6_hasGroom : GoodIn wsX7_groom wsX6_hasGroom := goodIn_r _ [6, 7, 90, 91, 92, 93, 94, 95, 96, 97, 98, 99, 100, 101] (by decide +kernel) (by decide +kernel)
set_option maxRecDepth 20000 in
theorem gX7_groom_X6_hasGroom : GoodIn wsX7_groom (wsV RX7 92 RX6 yX6_hasGroom wsX6_hasGroom) := goodIn_app (goodIn_of _ (by decide +kernel)) ggX7_groom_X6_hasGroom
set_option maxRecDepth 20000 in
theorem ggX7_groom_X7_refuse : GoodIn wsX7_groom wsX7_refuse := goodIn_r _ [12, 13, 14, 15, 11, 16, 17, 18, 19, 82, 83, 84, 85, 86, 87, 88, 89] (by decide +kernel) (by decide +kernel)
set_option maxRecDepth 20000 in
theorem gX7_groom_X7_refuse : GoodIn wsX7_groom (wsV RX7 47 RX7 yX7_refuse wsX7_refuse) := goodIn_app (goodIn_of _ (by decide +kernel)) ggX7_groom_X7_refuse
set_option maxRecDepth 20000 in
theorem ggX7_groom_X6_lookOf : GoodIn wsX7_groom wsX6_lookOf := goodIn_r _ [23, 24, 15, 11, 16, 90, 91, 92, 93, 94, 95, 96, 97, 98, 99, 100, 101] (by decide +kernel) (by decide +kernel)
set_option maxRecDepth 20000 in
theorem gX7_groom_X6_lookOf : GoodIn wsX7_groom (wsV RX7 95 RX6 yX6_lookOf wsX6_lookOf) := goodIn_app (goodIn_of _ (by decide +kernel)) ggX7_groom_X6_lookOf
set_option maxRecDepth 20000 in
theorem ggX7_groom_X6_mindOf : GoodIn wsX7_groom wsX6_mindOf := goodIn_r _ [28, 29, 15, 11, 16, 90, 91, 92, 93, 94, 95, 96, 97, 98, 99, 100, 101] (by decide +kernel) (by decide +kernel)
set_option maxRecDepth 20000 in
theorem gX7_groom_X6_mindOf : GoodIn wsX7_groom (wsV RX7 98 RX6 yX6_mindOf wsX6_mindOf) := goodIn_app (goodIn_of _ (by decide +kernel)) ggX7_groom_X6_mindOf
set_option maxRecDepth 20000 in
theorem ggX7_groom_X6_liquorOf : GoodIn wsX7_groom wsX6_liquorOf := goodIn_r _ [33, 34, 15, 11, 16, 90, 91, 92, 93, 94, 95, 96, 97, 98, 99, 100, 101] (by decide +kernel) (by decide +kernel)
set_option maxRecDepth 20000 in
theorem gX7_groom_X6_liquorOf : GoodIn wsX7_groom (wsV RX7 101 RX6 yX6_liquorOf wsX6_liquorOf) := goodIn_app (goodIn_of _ (by decide +kernel)) ggX7_groom_X6_liquorOf
set_option maxRecDepth 20000 in
theorem ggX7_groom_X6_isUnmarried : GoodIn wsX7_groom wsX6_isUnmarried := goodIn_r _ [38, 39, 40, 11, 41, 90, 91, 92, 93, 94, 95, 96, 97, 98, 99, 100, 101] (by decide +kernel) (by decide +kernel)
set_option maxRecDepth 20000 in
theorem gX7_groom_X6_isUnmarried : GoodIn wsX7_groom (wsV RX7 104 RX6 yX6_isUnmarried wsX6_isUnmarried) := goodIn_app (goodIn_of _ (by decide +kernel)) ggX7_groom_X6_isUnmarried
set_option maxRecDepth 20000 in
theorem ggX7_groom_X6_guesses : GoodIn wsX7_groom wsX6_guesses := goodIn_r _ [45, 24, 15, 11, 16, 46, 47, 48, 5, 49, 29, 50, 51, 52, 53, 54, 55, 56, 57, 58, 40, 41, 59, 60, 61, 62, 63, 64, 90, 91, 92, 93, 94, 95, 96, 97, 98, 99, 100, 101] (by decide +kernel) (by decide +kernel)
set_option maxRecDepth 20000 in
theorem gX7_groom_X6_guesses : GoodIn wsX7_groom (wsV RX7 107 RX6 yX6_guesses wsX6_guesses) := goodIn_app (goodIn_of _ (by decide +kernel)) ggX7_groom_X6_guesses
set_option maxRecDepth 20000 in
theorem ggX7_groom_X6_knows : GoodIn wsX7_groom wsX6_knows := goodIn_r _ [68, 24, 15, 11, 16, 46, 47, 48, 5, 49, 29, 50, 51, 52, 53, 54, 55, 56, 57, 58, 40, 41, 59, 60, 61, 62, 63, 64, 69, 70, 71, 72, 73, 74, 75, 76, 77, 78, 79, 80, 81, 90, 91, 92, 93, 94, 95, 96, 97, 98, 99, 100, 101] (by decide +kernel) (by decide +kernel)
set_option maxRecDepth 20000 in
theorem gX7_groom_X6_knows : GoodIn wsX7_groom (wsV RX7 110 RX6 yX6_knows wsX6_knows) := goodIn_app (goodIn_of _ (by decide +kernel)) ggX7_groom_X6_knows
theorem dX7_groom_0 : decode cX7_groom 0 = .ok (.aload_n 0, 1) := by decide +kernel
theorem dX7_groom_1 : decode cX7_groom 1 = .ok (.getfield 10, 3) := by decide +kernel
theorem dX7_groom_4 : decode cX7_groom 4 = .ok (.iload_n 1, 1) := by decide +kernel
theorem dX7_groom_5 : decode cX7_groom 5 = .ok (.invokevirtual 92, 3) := by decide +kernel
theorem dX7_groom_8 : decode cX7_groom 8 = .ok (.ifCond .ne 9, 3) := by decide +kernel
theorem dX7_groom_11 : decode cX7_groom 11 = .ok (.aload_n 0, 1) := by decide +kernel
theorem dX7_groom_12 : decode cX7_groom 12 = .ok (.iconst (-1), 1) := by decide +kernel
theorem dX7_groom_13 : decode cX7_groom 13 = .ok (.invokevirtual 47, 3) := by decide +kernel
theorem dX7_groom_16 : decode cX7_groom 16 = .ok (.ireturn, 1) := by decide +kernel
theorem dX7_groom_17 : decode cX7_groom 17 = .ok (.iload_n 2, 1) := by decide +kernel
theorem dX7_groom_18 : decode cX7_groom 18 = .ok (.tableswitch 102 0 5 #[38, 47, 56, 65, 82, 92], 38) := by decide +kernel
theorem dX7_groom_56 : decode cX7_groom 56 = .ok (.aload_n 0, 1) := by decide +kernel
theorem dX7_groom_57 : decode cX7_groom 57 = .ok (.getfield 10, 3) := by decide +kernel
theorem dX7_groom_60 : decode cX7_groom 60 = .ok (.iload_n 1, 1) := by decide +kernel
theorem dX7_groom_61 : decode cX7_groom 61 = .ok (.invokevirtual 95, 3) := by decide +kernel
theorem dX7_groom_64 : decode cX7_groom 64 = .ok (.ireturn, 1) := by decide +kernel
theorem dX7_groom_65 : decode cX7_groom 65 = .ok (.aload_n 0, 1) := by decide +kernel
theorem dX7_groom_66 : decode cX7_groom 66 = .ok (.getfield 10, 3) := by decide +kernel
theorem dX7_groom_69 : decode cX7_groom 69 = .ok (.iload_n 1, 1) := by decide +kernel
theorem dX7_groom_70 : decode cX7_groom 70 = .ok (.invokevirtual 98, 3) := by decide +kernel
theorem dX7_groom_73 : decode cX7_groom 73 = .ok (.ireturn, 1) := by decide +kernel
theorem dX7_groom_74 : decode cX7_groom 74 = .ok (.aload_n 0, 1) := by decide +kernel
theorem dX7_groom_75 : decode cX7_groom 75 = .ok (.getfield 10, 3) := by decide +kernel
theorem dX7_groom_78 : decode cX7_groom 78 = .ok (.iload_n 1, 1) := by decide +kernel
theorem dX7_groom_79 : decode cX7_groom 79 = .ok (.invokevirtual 101, 3) := by decide +kernel
theorem dX7_groom_82 : decode cX7_groom 82 = .ok (.ireturn, 1) := by decide +kernel
theorem dX7_groom_83 : decode cX7_groom 83 = .ok (.aload_n 0, 1) := by decide +kernel
theorem dX7_groom_84 : decode cX7_groom 84 = .ok (.getfield 10, 3) := by decide +kernel
theorem dX7_groom_87 : decode cX7_groom 87 = .ok (.iload_n 1, 1) := by decide +kernel
theorem dX7_groom_88 : decode cX7_groom 88 = .ok (.invokevirtual 104, 3) := by decide +kernel
theorem dX7_groom_91 : decode cX7_groom 91 = .ok (.ifCond .eq 7, 3) := by decide +kernel
theorem dX7_groom_94 : decode cX7_groom 94 = .ok (.iconst 0, 1) := by decide +kernel
theorem dX7_groom_95 : decode cX7_groom 95 = .ok (.goto 4, 3) := by decide +kernel
theorem dX7_groom_98 : decode cX7_groom 98 = .ok (.iconst 1, 1) := by decide +kernel
theorem dX7_groom_99 : decode cX7_groom 99 = .ok (.ireturn, 1) := by decide +kernel
theorem dX7_groom_100 : decode cX7_groom 100 = .ok (.aload_n 0, 1) := by decide +kernel
theorem dX7_groom_101 : decode cX7_groom 101 = .ok (.getfield 10, 3) := by decide +kernel
theorem dX7_groom_104 : decode cX7_groom 104 = .ok (.iload_n 1, 1) := by decide +kernel
theorem dX7_groom_105 : decode cX7_groom 105 = .ok (.iconst 0, 1) := by decide +kernel
theorem dX7_groom_106 : decode cX7_groom 106 = .ok (.invokevirtual 107, 3) := by decide +kernel
theorem dX7_groom_109 : decode cX7_groom 109 = .ok (.ireturn, 1) := by decide +kernel
theorem dX7_groom_110 : decode cX7_groom 110 = .ok (.aload_n 0, 1) := by decide +kernel
theorem dX7_groom_111 : decode cX7_groom 111 = .ok (.getfield 10, 3) := by decide +kernel
theorem dX7_groom_114 : decode cX7_groom 114 = .ok (.iload_n 1, 1) := by decide +kernel
theorem dX7_groom_115 : decode cX7_groom 115 = .ok (.iconst 0, 1) := by decide +kernel
theorem dX7_groom_116 : decode cX7_groom 116 = .ok (.invokevirtual 110, 3) := by decide +kernel
theorem dX7_groom_119 : decode cX7_groom 119 = .ok (.ireturn, 1) := by decide +kernel
theorem dX7_groom_120 : decode cX7_groom 120 = .ok (.aload_n 0, 1) := by decide +kernel
theorem dX7_groom_121 : decode cX7_groom 121 = .ok (.bipush (-2), 2) := by decide +kernel
theorem dX7_groom_123 : decode cX7_groom 123 = .ok (.invokevirtual 47, 3) := by decide +kernel
theorem dX7_groom_126 : decode cX7_groom 126 = .ok (.ireturn, 1) := by decide +kernel
set_option maxRecDepth 20000 in
theorem ggX7_wedding_X6_hasGroom : GoodIn wsX7_wedding wsX6_hasGroom := goodIn_r _ [6, 7, 87, 88, 89, 90, 91, 92, 93, 94, 95, 96, 97, 98] (by decide +kernel) (by decide +kernel)
set_option maxRecDepth 20000 in
theorem gX7_wedding_X6_hasGroom : GoodIn wsX7_wedding (wsV RX7 92 RX6 yX6_hasGroom wsX6_hasGroom) := goodIn_app (goodIn_of _ (by decide +kernel)) ggX7_wedding_X6_hasGroom
set_option maxRecDepth 20000 in
theorem ggX7_wedding_X7_refuse : GoodIn wsX7_wedding wsX7_refuse := goodIn_r _ [12, 13, 14, 15, 11, 16, 17, 18, 19, 79, 80, 81, 82, 83, 84, 85, 86] (by decide +kernel) (by decide +kernel)
set_option maxRecDepth 20000 in
theorem gX7_wedding_X7_refuse : GoodIn wsX7_wedding (wsV RX7 47 RX7 yX7_refuse wsX7_refuse) := goodIn_app (goodIn_of _ (by decide +kernel)) ggX7_wedding_X7_refuse
set_option maxRecDepth 20000 in
theorem ggX7_wedding_X6_canWed : GoodIn wsX7_wedding wsX6_canWed := goodIn_r _ [23, 24, 3, 4, 5, 6, 7, 25, 26, 27, 28, 29, 30, 11, 31, 32, 33, 34, 35, 36, 37, 38, 15, 16, 87, 88, 89, 90, 91, 92, 93, 94, 95, 96, 97, 98] (by decide +kernel) (by decide +kernel)
set_option maxRecDepth 20000 in
theorem gX7_wedding_X6_canWed : GoodIn wsX7_wedding (wsV RX7 113 RX6 yX6_canWed wsX6_canWed) := goodIn_app (goodIn_of _ (by decide +kernel)) ggX7_wedding_X6_canWed
set_option maxRecDepth 20000 in
theorem ggX7_wedding_X6_wed : GoodIn wsX7_wedding wsX6_wed := goodIn_r _ [42, 43, 44, 38, 37, 29, 15, 11, 16, 45, 46, 47, 5, 48, 49, 36, 50, 51, 32, 33, 34, 35, 30, 31, 52, 53, 54, 55, 56, 57, 58, 59, 60, 61, 62, 63, 64, 65, 66, 67, 68, 69, 70, 18, 19, 71, 72, 73, 74, 75, 76, 77, 78, 87, 88, 89, 90, 91, 92, 93, 94, 95, 96, 97, 98] (by decide +kernel) (by decide +kernel)
set_option maxRecDepth 20000 in
theorem gX7_wedding_X6_wed : GoodIn wsX7_wedding (wsV RX7 116 RX6 yX6_wed wsX6_wed) := goodIn_app (goodIn_of _ (by decide +kernel)) ggX7_wedding_X6_wed
theorem dX7_wedding_0 : decode cX7_wedding 0 = .ok (.aload_n 0, 1) := by decide +kernel
theorem dX7_wedding_1 : decode cX7_wedding 1 = .ok (.getfield 10, 3) := by decide +kernel
theorem dX7_wedding_4 : decode cX7_wedding 4 = .ok (.iload_n 1, 1) := by decide +kernel
theorem dX7_wedding_5 : decode cX7_wedding 5 = .ok (.invokevirtual 92, 3) := by decide +kernel
theorem dX7_wedding_8 : decode cX7_wedding 8 = .ok (.ifCond .ne 9, 3) := by decide +kernel
theorem dX7_wedding_11 : decode cX7_wedding 11 = .ok (.aload_n 0, 1) := by decide +kernel
theorem dX7_wedding_12 : decode cX7_wedding 12 = .ok (.iconst (-1), 1) := by decide +kernel
theorem dX7_wedding_13 : decode cX7_wedding 13 = .ok (.invokevirtual 47, 3) := by decide +kernel
theorem dX7_wedding_16 : decode cX7_wedding 16 = .ok (.ireturn, 1) := by decide +kernel
theorem dX7_wedding_17 : decode cX7_wedding 17 = .ok (.aload_n 0, 1) := by decide +kernel
theorem dX7_wedding_18 : decode cX7_wedding 18 = .ok (.getfield 10, 3) := by decide +kernel
theorem dX7_wedding_21 : decode cX7_wedding 21 = .ok (.iload_n 1, 1) := by decide +kernel
theorem dX7_wedding_22 : decode cX7_wedding 22 = .ok (.invokevirtual 113, 3) := by decide +kernel
theorem dX7_wedding_25 : decode cX7_wedding 25 = .ok (.ifCond .ne 10, 3) := by decide +kernel
theorem dX7_wedding_28 : decode cX7_wedding 28 = .ok (.aload_n 0, 1) := by decide +kernel
theorem dX7_wedding_29 : decode cX7_wedding 29 = .ok (.bipush (-3), 2) := by decide +kernel
theorem dX7_wedding_31 : decode cX7_wedding 31 = .ok (.invokevirtual 47, 3) := by decide +kernel
theorem dX7_wedding_34 : decode cX7_wedding 34 = .ok (.ireturn, 1) := by decide +kernel
theorem dX7_wedding_35 : decode cX7_wedding 35 = .ok (.aload_n 0, 1) := by decide +kernel
theorem dX7_wedding_36 : decode cX7_wedding 36 = .ok (.getfield 10, 3) := by decide +kernel
theorem dX7_wedding_39 : decode cX7_wedding 39 = .ok (.iload_n 1, 1) := by decide +kernel
theorem dX7_wedding_40 : decode cX7_wedding 40 = .ok (.invokevirtual 116, 3) := by decide +kernel
theorem dX7_wedding_43 : decode cX7_wedding 43 = .ok (.ireturn, 1) := by decide +kernel
set_option maxRecDepth 20000 in
theorem ggX7_changes_X6_hasBride : GoodIn wsX7_changes wsX6_hasBride := goodIn_r _ [6, 7, 38, 39, 40, 41, 42, 43, 44, 45, 46, 47, 48, 49] (by decide +kernel) (by decide +kernel)
set_option maxRecDepth 20000 in
theorem gX7_changes_X6_hasBride : GoodIn wsX7_changes (wsV RX7 69 RX6 yX6_hasBride wsX6_hasBride) := goodIn_app (goodIn_of _ (by decide +kernel)) ggX7_changes_X6_hasBride
set_option maxRecDepth 20000 in
theorem ggX7_changes_X7_refuse : GoodIn wsX7_changes wsX7_refuse := goodIn_r _ [12, 13, 14, 15, 11, 16, 17, 18, 19, 30, 31, 32, 33, 34, 35, 36, 37] (by decide +kernel) (by decide +kernel)
set_option maxRecDepth 20000 in
theorem gX7_changes_X7_refuse : GoodIn wsX7_changes (wsV RX7 47 RX7 yX7_refuse wsX7_refuse) := goodIn_app (goodIn_of _ (by decide +kernel)) ggX7_changes_X7_refuse
set_option maxRecDepth 20000 in
theorem ggX7_changes_X6_changeToes : GoodIn wsX7_changes wsX6_changeToes := goodIn_r _ [23, 24, 25, 26, 27, 5, 28, 15, 11, 16, 18, 19, 38, 39, 40, 41, 42, 43, 44, 45, 46, 47, 48, 49] (by decide +kernel) (by decide +kernel)
set_option maxRecDepth 20000 in
theorem gX7_changes_X6_changeToes : GoodIn wsX7_changes (wsV RX7 119 RX6 yX6_changeToes wsX6_changeToes) := goodIn_app (goodIn_of _ (by decide +kernel)) ggX7_changes_X6_changeToes
set_option maxRecDepth 20000 in
theorem ggX7_changes_X6_footOf : GoodIn wsX7_changes wsX6_footOf := goodIn_r _ [28, 24, 15, 11, 16, 38, 39, 40, 41, 42, 43, 44, 45, 46, 47, 48, 49] (by decide +kernel) (by decide +kernel)
set_option maxRecDepth 20000 in
theorem gX7_changes_X6_footOf : GoodIn wsX7_changes (wsV RX7 79 RX6 yX6_footOf wsX6_footOf) := goodIn_app (goodIn_of _ (by decide +kernel)) ggX7_changes_X6_footOf
theorem dX7_changes_0 : decode cX7_changes 0 = .ok (.aload_n 0, 1) := by decide +kernel
theorem dX7_changes_1 : decode cX7_changes 1 = .ok (.getfield 10, 3) := by decide +kernel
theorem dX7_changes_4 : decode cX7_changes 4 = .ok (.iload_n 1, 1) := by decide +kernel
theorem dX7_changes_5 : decode cX7_changes 5 = .ok (.invokevirtual 69, 3) := by decide +kernel
theorem dX7_changes_8 : decode cX7_changes 8 = .ok (.ifCond .eq 13, 3) := by decide +kernel
theorem dX7_changes_11 : decode cX7_changes 11 = .ok (.iload_n 2, 1) := by decide +kernel
theorem dX7_changes_12 : decode cX7_changes 12 = .ok (.ifCond .lt 9, 3) := by decide +kernel
theorem dX7_changes_15 : decode cX7_changes 15 = .ok (.iload_n 2, 1) := by decide +kernel
theorem dX7_changes_16 : decode cX7_changes 16 = .ok (.bipush 6, 2) := by decide +kernel
theorem dX7_changes_18 : decode cX7_changes 18 = .ok (.if_icmp .lt 9, 3) := by decide +kernel
theorem dX7_changes_21 : decode cX7_changes 21 = .ok (.aload_n 0, 1) := by decide +kernel
theorem dX7_changes_22 : decode cX7_changes 22 = .ok (.iconst (-1), 1) := by decide +kernel
theorem dX7_changes_23 : decode cX7_changes 23 = .ok (.invokevirtual 47, 3) := by decide +kernel
theorem dX7_changes_26 : decode cX7_changes 26 = .ok (.ireturn, 1) := by decide +kernel
theorem dX7_changes_27 : decode cX7_changes 27 = .ok (.aload_n 0, 1) := by decide +kernel
theorem dX7_changes_28 : decode cX7_changes 28 = .ok (.getfield 10, 3) := by decide +kernel
theorem dX7_changes_31 : decode cX7_changes 31 = .ok (.iload_n 1, 1) := by decide +kernel
theorem dX7_changes_32 : decode cX7_changes 32 = .ok (.iconst 1, 1) := by decide +kernel
theorem dX7_changes_33 : decode cX7_changes 33 = .ok (.iload_n 2, 1) := by decide +kernel
theorem dX7_changes_34 : decode cX7_changes 34 = .ok (.ishl, 1) := by decide +kernel
theorem dX7_changes_35 : decode cX7_changes 35 = .ok (.invokevirtual 119, 3) := by decide +kernel
theorem dX7_changes_38 : decode cX7_changes 38 = .ok (.aload_n 0, 1) := by decide +kernel
theorem dX7_changes_39 : decode cX7_changes 39 = .ok (.getfield 10, 3) := by decide +kernel
theorem dX7_changes_42 : decode cX7_changes 42 = .ok (.iload_n 1, 1) := by decide +kernel
theorem dX7_changes_43 : decode cX7_changes 43 = .ok (.invokevirtual 79, 3) := by decide +kernel
theorem dX7_changes_46 : decode cX7_changes 46 = .ok (.ireturn, 1) := by decide +kernel
set_option maxRecDepth 20000 in
theorem ggX7_looks_X6_hasGroom : GoodIn wsX7_looks wsX6_hasGroom := goodIn_r _ [6, 7, 43, 44, 45, 46, 47, 48, 49, 50, 51, 52, 53, 54] (by decide +kernel) (by decide +kernel)
set_option maxRecDepth 20000 in
theorem gX7_looks_X6_hasGroom : GoodIn wsX7_looks (wsV RX7 92 RX6 yX6_hasGroom wsX6_hasGroom) := goodIn_app (goodIn_of _ (by decide +kernel)) ggX7_looks_X6_hasGroom
set_option maxRecDepth 20000 in
theorem ggX7_looks_X7_refusalOf : GoodIn wsX7_looks wsX7_refusalOf := goodIn_r _ [11, 12, 13, 10, 14] (by decide +kernel) (by decide +kernel)
set_option maxRecDepth 20000 in
theorem gX7_looks_X7_refusalOf : GoodIn wsX7_looks (va_wsS RX7 123 yX7_refusalOf wsX7_refusalOf) := goodIn_app (goodIn_of _ (by decide +kernel)) ggX7_looks_X7_refusalOf
set_option maxRecDepth 20000 in
theorem ggX7_looks_X7_refuse : GoodIn wsX7_looks wsX7_refuse := goodIn_r _ [18, 19, 20, 21, 10, 22, 23, 24, 25, 35, 36, 37, 38, 39, 40, 41, 42] (by decide +kernel) (by decide +kernel)
set_option maxRecDepth 20000 in
theorem gX7_looks_X7_refuse : GoodIn wsX7_looks (wsV RX7 47 RX7 yX7_refuse wsX7_refuse) := goodIn_app (goodIn_of _ (by decide +kernel)) ggX7_looks_X7_refuse
set_option maxRecDepth 20000 in
theorem ggX7_looks_X6_lookOf : GoodIn wsX7_looks wsX6_lookOf := goodIn_r _ [29, 30, 21, 10, 22, 43, 44, 45, 46, 47, 48, 49, 50, 51, 52, 53, 54] (by decide +kernel) (by decide +kernel)
set_option maxRecDepth 20000 in
theorem gX7_looks_X6_lookOf : GoodIn wsX7_looks (wsV RX7 95 RX6 yX6_lookOf wsX6_lookOf) := goodIn_app (goodIn_of _ (by decide +kernel)) ggX7_looks_X6_lookOf
set_option maxRecDepth 20000 in
theorem ggX7_looks_X6_setLook : GoodIn wsX7_looks wsX6_setLook := goodIn_r _ [34, 30, 24, 10, 25, 43, 44, 45, 46, 47, 48, 49, 50, 51, 52, 53, 54] (by decide +kernel) (by decide +kernel)
set_option maxRecDepth 20000 in
theorem gX7_looks_X6_setLook : GoodIn wsX7_looks (wsV RX7 127 RX6 yX6_setLook wsX6_setLook) := goodIn_app (goodIn_of _ (by decide +kernel)) ggX7_looks_X6_setLook
theorem dX7_looks_0 : decode cX7_looks 0 = .ok (.aload_n 0, 1) := by decide +kernel
theorem dX7_looks_1 : decode cX7_looks 1 = .ok (.getfield 10, 3) := by decide +kernel
theorem dX7_looks_4 : decode cX7_looks 4 = .ok (.iload_n 1, 1) := by decide +kernel
theorem dX7_looks_5 : decode cX7_looks 5 = .ok (.invokevirtual 92, 3) := by decide +kernel
theorem dX7_looks_8 : decode cX7_looks 8 = .ok (.iload_n 2, 1) := by decide +kernel
theorem dX7_looks_9 : decode cX7_looks 9 = .ok (.iconst 0, 1) := by decide +kernel
theorem dX7_looks_10 : decode cX7_looks 10 = .ok (.bipush 63, 2) := by decide +kernel
theorem dX7_looks_12 : decode cX7_looks 12 = .ok (.invokestatic 123, 3) := by decide +kernel
theorem dX7_looks_15 : decode cX7_looks 15 = .ok (.istore_n 3, 1) := by decide +kernel
theorem dX7_looks_16 : decode cX7_looks 16 = .ok (.iload_n 3, 1) := by decide +kernel
theorem dX7_looks_17 : decode cX7_looks 17 = .ok (.ifCond .eq 9, 3) := by decide +kernel
theorem dX7_looks_20 : decode cX7_looks 20 = .ok (.aload_n 0, 1) := by decide +kernel
theorem dX7_looks_21 : decode cX7_looks 21 = .ok (.iload_n 3, 1) := by decide +kernel
theorem dX7_looks_22 : decode cX7_looks 22 = .ok (.invokevirtual 47, 3) := by decide +kernel
theorem dX7_looks_25 : decode cX7_looks 25 = .ok (.ireturn, 1) := by decide +kernel
theorem dX7_looks_26 : decode cX7_looks 26 = .ok (.aload_n 0, 1) := by decide +kernel
theorem dX7_looks_27 : decode cX7_looks 27 = .ok (.getfield 10, 3) := by decide +kernel
theorem dX7_looks_30 : decode cX7_looks 30 = .ok (.iload_n 1, 1) := by decide +kernel
theorem dX7_looks_31 : decode cX7_looks 31 = .ok (.invokevirtual 95, 3) := by decide +kernel
theorem dX7_looks_34 : decode cX7_looks 34 = .ok (.istore 4, 2) := by decide +kernel
theorem dX7_looks_36 : decode cX7_looks 36 = .ok (.aload_n 0, 1) := by decide +kernel
theorem dX7_looks_37 : decode cX7_looks 37 = .ok (.getfield 10, 3) := by decide +kernel
theorem dX7_looks_40 : decode cX7_looks 40 = .ok (.iload_n 1, 1) := by decide +kernel
theorem dX7_looks_41 : decode cX7_looks 41 = .ok (.iload_n 2, 1) := by decide +kernel
theorem dX7_looks_42 : decode cX7_looks 42 = .ok (.invokevirtual 127, 3) := by decide +kernel
theorem dX7_looks_45 : decode cX7_looks 45 = .ok (.iload 4, 2) := by decide +kernel
theorem dX7_looks_47 : decode cX7_looks 47 = .ok (.ireturn, 1) := by decide +kernel
set_option maxRecDepth 20000 in
theorem ggX7_minds_X6_hasGroom : GoodIn wsX7_minds wsX6_hasGroom := goodIn_r _ [6, 7, 43, 44, 45, 46, 47, 48, 49, 50, 51, 52, 53, 54] (by decide +kernel) (by decide +kernel)
set_option maxRecDepth 20000 in
theorem gX7_minds_X6_hasGroom : GoodIn wsX7_minds (wsV RX7 92 RX6 yX6_hasGroom wsX6_hasGroom) := goodIn_app (goodIn_of _ (by decide +kernel)) ggX7_minds_X6_hasGroom
set_option maxRecDepth 20000 in
theorem ggX7_minds_X7_refusalOf : GoodIn wsX7_minds wsX7_refusalOf := goodIn_r _ [11, 12, 13, 10, 14] (by decide +kernel) (by decide +kernel)
set_option maxRecDepth 20000 in
theorem gX7_minds_X7_refusalOf : GoodIn wsX7_minds (va_wsS RX7 123 yX7_refusalOf wsX7_refusalOf) := goodIn_app (goodIn_of _ (by decide +kernel)) ggX7_minds_X7_refusalOf
set_option maxRecDepth 20000 in
theorem ggX7_minds_X7_refuse : GoodIn wsX7_minds wsX7_refuse := goodIn_r _ [18, 19, 20, 21, 10, 22, 23, 24, 25, 35, 36, 37, 38, 39, 40, 41, 42] (by decide +kernel) (by decide +kernel)
set_option maxRecDepth 20000 in
theorem gX7_minds_X7_refuse : GoodIn wsX7_minds (wsV RX7 47 RX7 yX7_refuse wsX7_refuse) := goodIn_app (goodIn_of _ (by decide +kernel)) ggX7_minds_X7_refuse
set_option maxRecDepth 20000 in
theorem ggX7_minds_X6_mindOf : GoodIn wsX7_minds wsX6_mindOf := goodIn_r _ [29, 30, 21, 10, 22, 43, 44, 45, 46, 47, 48, 49, 50, 51, 52, 53, 54] (by decide +kernel) (by decide +kernel)
set_option maxRecDepth 20000 in
theorem gX7_minds_X6_mindOf : GoodIn wsX7_minds (wsV RX7 98 RX6 yX6_mindOf wsX6_mindOf) := goodIn_app (goodIn_of _ (by decide +kernel)) ggX7_minds_X6_mindOf
set_option maxRecDepth 20000 in
theorem ggX7_minds_X6_setMind : GoodIn wsX7_minds wsX6_setMind := goodIn_r _ [34, 30, 24, 10, 25, 43, 44, 45, 46, 47, 48, 49, 50, 51, 52, 53, 54] (by decide +kernel) (by decide +kernel)
set_option maxRecDepth 20000 in
theorem gX7_minds_X6_setMind : GoodIn wsX7_minds (wsV RX7 130 RX6 yX6_setMind wsX6_setMind) := goodIn_app (goodIn_of _ (by decide +kernel)) ggX7_minds_X6_setMind
theorem dX7_minds_0 : decode cX7_minds 0 = .ok (.aload_n 0, 1) := by decide +kernel
theorem dX7_minds_1 : decode cX7_minds 1 = .ok (.getfield 10, 3) := by decide +kernel
theorem dX7_minds_4 : decode cX7_minds 4 = .ok (.iload_n 1, 1) := by decide +kernel
theorem dX7_minds_5 : decode cX7_minds 5 = .ok (.invokevirtual 92, 3) := by decide +kernel
theorem dX7_minds_8 : decode cX7_minds 8 = .ok (.iload_n 2, 1) := by decide +kernel
theorem dX7_minds_9 : decode cX7_minds 9 = .ok (.iconst 0, 1) := by decide +kernel
theorem dX7_minds_10 : decode cX7_minds 10 = .ok (.bipush 63, 2) := by decide +kernel
theorem dX7_minds_12 : decode cX7_minds 12 = .ok (.invokestatic 123, 3) := by decide +kernel
theorem dX7_minds_15 : decode cX7_minds 15 = .ok (.istore_n 3, 1) := by decide +kernel
theorem dX7_minds_16 : decode cX7_minds 16 = .ok (.iload_n 3, 1) := by decide +kernel
theorem dX7_minds_17 : decode cX7_minds 17 = .ok (.ifCond .eq 9, 3) := by decide +kernel
theorem dX7_minds_20 : decode cX7_minds 20 = .ok (.aload_n 0, 1) := by decide +kernel
theorem dX7_minds_21 : decode cX7_minds 21 = .ok (.iload_n 3, 1) := by decide +kernel
theorem dX7_minds_22 : decode cX7_minds 22 = .ok (.invokevirtual 47, 3) := by decide +kernel
theorem dX7_minds_25 : decode cX7_minds 25 = .ok (.ireturn, 1) := by decide +kernel
theorem dX7_minds_26 : decode cX7_minds 26 = .ok (.aload_n 0, 1) := by decide +kernel
theorem dX7_minds_27 : decode cX7_minds 27 = .ok (.getfield 10, 3) := by decide +kernel
theorem dX7_minds_30 : decode cX7_minds 30 = .ok (.iload_n 1, 1) := by decide +kernel
theorem dX7_minds_31 : decode cX7_minds 31 = .ok (.invokevirtual 98, 3) := by decide +kernel
theorem dX7_minds_34 : decode cX7_minds 34 = .ok (.istore 4, 2) := by decide +kernel
theorem dX7_minds_36 : decode cX7_minds 36 = .ok (.aload_n 0, 1) := by decide +kernel
theorem dX7_minds_37 : decode cX7_minds 37 = .ok (.getfield 10, 3) := by decide +kernel
theorem dX7_minds_40 : decode cX7_minds 40 = .ok (.iload_n 1, 1) := by decide +kernel
theorem dX7_minds_41 : decode cX7_minds 41 = .ok (.iload_n 2, 1) := by decide +kernel
theorem dX7_minds_42 : decode cX7_minds 42 = .ok (.invokevirtual 130, 3) := by decide +kernel
theorem dX7_minds_45 : decode cX7_minds 45 = .ok (.iload 4, 2) := by decide +kernel
theorem dX7_minds_47 : decode cX7_minds 47 = .ok (.ireturn, 1) := by decide +kernel
set_option maxRecDepth 20000 in
theorem ggX7_drinks_X6_hasGroom : GoodIn wsX7_drinks wsX6_hasGroom := goodIn_r _ [6, 7, 43, 44, 45, 46, 47, 48, 49, 50, 51, 52, 53, 54] (by decide +kernel) (by decide +kernel)
set_option maxRecDepth 20000 in
theorem gX7_drinks_X6_hasGroom : GoodIn wsX7_drinks (wsV RX7 92 RX6 yX6_hasGroom wsX6_hasGroom) := goodIn_app (goodIn_of _ (by decide +kernel)) ggX7_drinks_X6_hasGroom
set_option maxRecDepth 20000 in
theorem ggX7_drinks_X7_refusalOf : GoodIn wsX7_drinks wsX7_refusalOf := goodIn_r _ [11, 12, 13, 10, 14] (by decide +kernel) (by decide +kernel)
set_option maxRecDepth 20000 in
theorem gX7_drinks_X7_refusalOf : GoodIn wsX7_drinks (va_wsS RX7 123 yX7_refusalOf wsX7_refusalOf) := goodIn_app (goodIn_of _ (by decide +kernel)) ggX7_drinks_X7_refusalOf
set_option maxRecDepth 20000 in
theorem ggX7_drinks_X7_refuse : GoodIn wsX7_drinks wsX7_refuse := goodIn_r _ [18, 19, 20, 21, 10, 22, 23, 24, 25, 35, 36, 37, 38, 39, 40, 41, 42] (by decide +kernel) (by decide +kernel)
set_option maxRecDepth 20000 in
theorem gX7_drinks_X7_refuse : GoodIn wsX7_drinks (wsV RX7 47 RX7 yX7_refuse wsX7_refuse) := goodIn_app (goodIn_of _ (by decide +kernel)) ggX7_drinks_X7_refuse
set_option maxRecDepth 20000 in
theorem ggX7_drinks_X6_liquorOf : GoodIn wsX7_drinks wsX6_liquorOf := goodIn_r _ [29, 30, 21, 10, 22, 43, 44, 45, 46, 47, 48, 49, 50, 51, 52, 53, 54] (by decide +kernel) (by decide +kernel)
set_option maxRecDepth 20000 in
theorem gX7_drinks_X6_liquorOf : GoodIn wsX7_drinks (wsV RX7 101 RX6 yX6_liquorOf wsX6_liquorOf) := goodIn_app (goodIn_of _ (by decide +kernel)) ggX7_drinks_X6_liquorOf
set_option maxRecDepth 20000 in
theorem ggX7_drinks_X6_setLiquor : GoodIn wsX7_drinks wsX6_setLiquor := goodIn_r _ [34, 30, 24, 10, 25, 43, 44, 45, 46, 47, 48, 49, 50, 51, 52, 53, 54] (by decide +kernel) (by decide +kernel)
set_option maxRecDepth 20000 in
theorem gX7_drinks_X6_setLiquor : GoodIn wsX7_drinks (wsV RX7 133 RX6 yX6_setLiquor wsX6_setLiquor) := goodIn_app (goodIn_of _ (by decide +kernel)) ggX7_drinks_X6_setLiquor
theorem dX7_drinks_0 : decode cX7_drinks 0 = .ok (.aload_n 0, 1) := by decide +kernel
theorem dX7_drinks_1 : decode cX7_drinks 1 = .ok (.getfield 10, 3) := by decide +kernel
theorem dX7_drinks_4 : decode cX7_drinks 4 = .ok (.iload_n 1, 1) := by decide +kernel
theorem dX7_drinks_5 : decode cX7_drinks 5 = .ok (.invokevirtual 92, 3) := by decide +kernel
theorem dX7_drinks_8 : decode cX7_drinks 8 = .ok (.iload_n 2, 1) := by decide +kernel
theorem dX7_drinks_9 : decode cX7_drinks 9 = .ok (.iconst 0, 1) := by decide +kernel
theorem dX7_drinks_10 : decode cX7_drinks 10 = .ok (.bipush 9, 2) := by decide +kernel
theorem dX7_drinks_12 : decode cX7_drinks 12 = .ok (.invokestatic 123, 3) := by decide +kernel
theorem dX7_drinks_15 : decode cX7_drinks 15 = .ok (.istore_n 3, 1) := by decide +kernel
theorem dX7_drinks_16 : decode cX7_drinks 16 = .ok (.iload_n 3, 1) := by decide +kernel
theorem dX7_drinks_17 : decode cX7_drinks 17 = .ok (.ifCond .eq 9, 3) := by decide +kernel
theorem dX7_drinks_20 : decode cX7_drinks 20 = .ok (.aload_n 0, 1) := by decide +kernel
theorem dX7_drinks_21 : decode cX7_drinks 21 = .ok (.iload_n 3, 1) := by decide +kernel
theorem dX7_drinks_22 : decode cX7_drinks 22 = .ok (.invokevirtual 47, 3) := by decide +kernel
theorem dX7_drinks_25 : decode cX7_drinks 25 = .ok (.ireturn, 1) := by decide +kernel
theorem dX7_drinks_26 : decode cX7_drinks 26 = .ok (.aload_n 0, 1) := by decide +kernel
theorem dX7_drinks_27 : decode cX7_drinks 27 = .ok (.getfield 10, 3) := by decide +kernel
theorem dX7_drinks_30 : decode cX7_drinks 30 = .ok (.iload_n 1, 1) := by decide +kernel
theorem dX7_drinks_31 : decode cX7_drinks 31 = .ok (.invokevirtual 101, 3) := by decide +kernel
theorem dX7_drinks_34 : decode cX7_drinks 34 = .ok (.istore 4, 2) := by decide +kernel
theorem dX7_drinks_36 : decode cX7_drinks 36 = .ok (.aload_n 0, 1) := by decide +kernel
theorem dX7_drinks_37 : decode cX7_drinks 37 = .ok (.getfield 10, 3) := by decide +kernel
theorem dX7_drinks_40 : decode cX7_drinks 40 = .ok (.iload_n 1, 1) := by decide +kernel
theorem dX7_drinks_41 : decode cX7_drinks 41 = .ok (.iload_n 2, 1) := by decide +kernel
theorem dX7_drinks_42 : decode cX7_drinks 42 = .ok (.invokevirtual 133, 3) := by decide +kernel
theorem dX7_drinks_45 : decode cX7_drinks 45 = .ok (.iload 4, 2) := by decide +kernel
theorem dX7_drinks_47 : decode cX7_drinks 47 = .ok (.ireturn, 1) := by decide +kernel
set_option maxRecDepth 20000 in
theorem ggX7_turn_X6_hasBride : GoodIn wsX7_turn wsX6_hasBride := goodIn_r _ [6, 7, 45, 46, 47, 48, 49, 50, 51, 52, 53, 54, 55, 56] (by decide +kernel) (by decide +kernel)
set_option maxRecDepth 20000 in
theorem gX7_turn_X6_hasBride : GoodIn wsX7_turn (wsV RX7 69 RX6 yX6_hasBride wsX6_hasBride) := goodIn_app (goodIn_of _ (by decide +kernel)) ggX7_turn_X6_hasBride
set_option maxRecDepth 20000 in
theorem ggX7_turn_X7_refuse : GoodIn wsX7_turn wsX7_refuse := goodIn_r _ [12, 13, 14, 15, 11, 16, 17, 18, 19, 37, 38, 39, 40, 41, 42, 43, 44] (by decide +kernel) (by decide +kernel)
set_option maxRecDepth 20000 in
theorem gX7_turn_X7_refuse : GoodIn wsX7_turn (wsV RX7 47 RX7 yX7_refuse wsX7_refuse) := goodIn_app (goodIn_of _ (by decide +kernel)) ggX7_turn_X7_refuse
set_option maxRecDepth 20000 in
theorem ggX7_turn_X7_outside : GoodIn wsX7_turn wsX7_outside := goodIn_r _ [22] (by decide +kernel) (by decide +kernel)
set_option maxRecDepth 20000 in
theorem gX7_turn_X7_outside : GoodIn wsX7_turn (va_wsS RX7 136 yX7_outside wsX7_outside) := goodIn_app (goodIn_of _ (by decide +kernel)) ggX7_turn_X7_outside
set_option maxRecDepth 20000 in
theorem ggX7_turn_X6_kindOf : GoodIn wsX7_turn wsX6_kindOf := goodIn_r _ [26, 27, 15, 11, 16, 45, 46, 47, 48, 49, 50, 51, 52, 53, 54, 55, 56] (by decide +kernel) (by decide +kernel)
set_option maxRecDepth 20000 in
theorem gX7_turn_X6_kindOf : GoodIn wsX7_turn (wsV RX7 73 RX6 yX6_kindOf wsX6_kindOf) := goodIn_app (goodIn_of _ (by decide +kernel)) ggX7_turn_X6_kindOf
set_option maxRecDepth 20000 in
theorem ggX7_turn_X6_figureOf : GoodIn wsX7_turn wsX6_figureOf := goodIn_r _ [31, 32, 15, 11, 16, 45, 46, 47, 48, 49, 50, 51, 52, 53, 54, 55, 56] (by decide +kernel) (by decide +kernel)
set_option maxRecDepth 20000 in
theorem gX7_turn_X6_figureOf : GoodIn wsX7_turn (wsV RX7 76 RX6 yX6_figureOf wsX6_figureOf) := goodIn_app (goodIn_of _ (by decide +kernel)) ggX7_turn_X6_figureOf
set_option maxRecDepth 20000 in
theorem ggX7_turn_X6_setKind : GoodIn wsX7_turn wsX6_setKind := goodIn_r _ [36, 27, 32, 18, 11, 19, 45, 46, 47, 48, 49, 50, 51, 52, 53, 54, 55, 56] (by decide +kernel) (by decide +kernel)
set_option maxRecDepth 20000 in
theorem gX7_turn_X6_setKind : GoodIn wsX7_turn (wsV RX7 140 RX6 yX6_setKind wsX6_setKind) := goodIn_app (goodIn_of _ (by decide +kernel)) ggX7_turn_X6_setKind
theorem dX7_turn_0 : decode cX7_turn 0 = .ok (.aload_n 0, 1) := by decide +kernel
theorem dX7_turn_1 : decode cX7_turn 1 = .ok (.getfield 10, 3) := by decide +kernel
theorem dX7_turn_4 : decode cX7_turn 4 = .ok (.iload_n 1, 1) := by decide +kernel
theorem dX7_turn_5 : decode cX7_turn 5 = .ok (.invokevirtual 69, 3) := by decide +kernel
theorem dX7_turn_8 : decode cX7_turn 8 = .ok (.ifCond .ne 9, 3) := by decide +kernel
theorem dX7_turn_11 : decode cX7_turn 11 = .ok (.aload_n 0, 1) := by decide +kernel
theorem dX7_turn_12 : decode cX7_turn 12 = .ok (.iconst (-1), 1) := by decide +kernel
theorem dX7_turn_13 : decode cX7_turn 13 = .ok (.invokevirtual 47, 3) := by decide +kernel
theorem dX7_turn_16 : decode cX7_turn 16 = .ok (.ireturn, 1) := by decide +kernel
theorem dX7_turn_17 : decode cX7_turn 17 = .ok (.iload_n 2, 1) := by decide +kernel
theorem dX7_turn_18 : decode cX7_turn 18 = .ok (.ifCond .lt 9, 3) := by decide +kernel
theorem dX7_turn_21 : decode cX7_turn 21 = .ok (.iload_n 2, 1) := by decide +kernel
theorem dX7_turn_22 : decode cX7_turn 22 = .ok (.bipush 6, 2) := by decide +kernel
theorem dX7_turn_24 : decode cX7_turn 24 = .ok (.if_icmp .lt 10, 3) := by decide +kernel
theorem dX7_turn_27 : decode cX7_turn 27 = .ok (.aload_n 0, 1) := by decide +kernel
theorem dX7_turn_28 : decode cX7_turn 28 = .ok (.bipush (-2), 2) := by decide +kernel
theorem dX7_turn_30 : decode cX7_turn 30 = .ok (.invokevirtual 47, 3) := by decide +kernel
theorem dX7_turn_33 : decode cX7_turn 33 = .ok (.ireturn, 1) := by decide +kernel
theorem dX7_turn_34 : decode cX7_turn 34 = .ok (.iload_n 3, 1) := by decide +kernel
theorem dX7_turn_35 : decode cX7_turn 35 = .ok (.iconst 0, 1) := by decide +kernel
theorem dX7_turn_36 : decode cX7_turn 36 = .ok (.bipush 9, 2) := by decide +kernel
theorem dX7_turn_38 : decode cX7_turn 38 = .ok (.invokestatic 136, 3) := by decide +kernel
theorem dX7_turn_41 : decode cX7_turn 41 = .ok (.istore 4, 2) := by decide +kernel
theorem dX7_turn_43 : decode cX7_turn 43 = .ok (.iload 4, 2) := by decide +kernel
theorem dX7_turn_45 : decode cX7_turn 45 = .ok (.ifCond .eq 10, 3) := by decide +kernel
theorem dX7_turn_48 : decode cX7_turn 48 = .ok (.aload_n 0, 1) := by decide +kernel
theorem dX7_turn_49 : decode cX7_turn 49 = .ok (.iload 4, 2) := by decide +kernel
theorem dX7_turn_51 : decode cX7_turn 51 = .ok (.invokevirtual 47, 3) := by decide +kernel
theorem dX7_turn_54 : decode cX7_turn 54 = .ok (.ireturn, 1) := by decide +kernel
theorem dX7_turn_55 : decode cX7_turn 55 = .ok (.bipush 10, 2) := by decide +kernel
theorem dX7_turn_57 : decode cX7_turn 57 = .ok (.aload_n 0, 1) := by decide +kernel
theorem dX7_turn_58 : decode cX7_turn 58 = .ok (.getfield 10, 3) := by decide +kernel
theorem dX7_turn_61 : decode cX7_turn 61 = .ok (.iload_n 1, 1) := by decide +kernel
theorem dX7_turn_62 : decode cX7_turn 62 = .ok (.invokevirtual 73, 3) := by decide +kernel
theorem dX7_turn_65 : decode cX7_turn 65 = .ok (.imul, 1) := by decide +kernel
theorem dX7_turn_66 : decode cX7_turn 66 = .ok (.aload_n 0, 1) := by decide +kernel
theorem dX7_turn_67 : decode cX7_turn 67 = .ok (.getfield 10, 3) := by decide +kernel
theorem dX7_turn_70 : decode cX7_turn 70 = .ok (.iload_n 1, 1) := by decide +kernel
theorem dX7_turn_71 : decode cX7_turn 71 = .ok (.invokevirtual 76, 3) := by decide +kernel
theorem dX7_turn_74 : decode cX7_turn 74 = .ok (.iadd, 1) := by decide +kernel
theorem dX7_turn_75 : decode cX7_turn 75 = .ok (.istore 5, 2) := by decide +kernel
theorem dX7_turn_77 : decode cX7_turn 77 = .ok (.aload_n 0, 1) := by decide +kernel
theorem dX7_turn_78 : decode cX7_turn 78 = .ok (.getfield 10, 3) := by decide +kernel
theorem dX7_turn_81 : decode cX7_turn 81 = .ok (.iload_n 1, 1) := by decide +kernel
theorem dX7_turn_82 : decode cX7_turn 82 = .ok (.iload_n 2, 1) := by decide +kernel
theorem dX7_turn_83 : decode cX7_turn 83 = .ok (.iload_n 3, 1) := by decide +kernel
theorem dX7_turn_84 : decode cX7_turn 84 = .ok (.invokevirtual 140, 3) := by decide +kernel
theorem dX7_turn_87 : decode cX7_turn 87 = .ok (.iload 5, 2) := by decide +kernel
theorem dX7_turn_89 : decode cX7_turn 89 = .ok (.ireturn, 1) := by decide +kernel
set_option maxRecDepth 20000 in
theorem ggX7_years_X7_outside : GoodIn wsX7_years wsX7_outside := goodIn_r _ [5] (by decide +kernel) (by decide +kernel)
set_option maxRecDepth 20000 in
theorem gX7_years_X7_outside : GoodIn wsX7_years (va_wsS RX7 136 yX7_outside wsX7_outside) := goodIn_app (goodIn_of _ (by decide +kernel)) ggX7_years_X7_outside
set_option maxRecDepth 20000 in
theorem ggX7_years_X7_refuse : GoodIn wsX7_years wsX7_refuse := goodIn_r _ [9, 10, 11, 12, 4, 13, 14, 15, 16, 61, 62, 63, 64, 65, 66, 67, 68] (by decide +kernel) (by decide +kernel)
set_option maxRecDepth 20000 in
theorem gX7_years_X7_refuse : GoodIn wsX7_years (wsV RX7 47 RX7 yX7_refuse wsX7_refuse) := goodIn_app (goodIn_of _ (by decide +kernel)) ggX7_years_X7_refuse
set_option maxRecDepth 20000 in
theorem ggX7_years_X6_canPass : GoodIn wsX7_years wsX6_canPass := goodIn_r _ [21, 22, 69, 70, 71, 72, 73, 74, 75, 76, 77, 78, 79, 80] (by decide +kernel) (by decide +kernel)
set_option maxRecDepth 20000 in
theorem gX7_years_X6_canPass : GoodIn wsX7_years (wsV RX7 144 RX6 yX6_canPass wsX6_canPass) := goodIn_app (goodIn_of _ (by decide +kernel)) ggX7_years_X6_canPass
set_option maxRecDepth 20000 in
theorem ggX7_years_X6_passYears : GoodIn wsX7_years wsX6_passYears := goodIn_r _ [26, 22, 27, 28, 29, 30, 31, 32, 33, 34, 35, 36, 20, 37, 12, 4, 13, 15, 16, 38, 39, 40, 41, 42, 43, 44, 45, 46, 69, 70, 71, 72, 73, 74, 75, 76, 77, 78, 79, 80] (by decide +kernel) (by decide +kernel)
set_option maxRecDepth 20000 in
theorem gX7_years_X6_passYears : GoodIn wsX7_years (wsV RX7 147 RX6 yX6_passYears wsX6_passYears) := goodIn_app (goodIn_of _ (by decide +kernel)) ggX7_years_X6_passYears
set_option maxRecDepth 20000 in
theorem ggX7_years_X6_hereThen : GoodIn wsX7_years wsX6_hereThen := goodIn_r _ [50, 27, 51, 28, 52, 4, 53, 12, 13, 69, 70, 71, 72, 73, 74, 75, 76, 77, 78, 79, 80] (by decide +kernel) (by decide +kernel)
set_option maxRecDepth 20000 in
theorem gX7_years_X6_hereThen : GoodIn wsX7_years (wsV RX7 151 RX6 yX6_hereThen wsX6_hereThen) := goodIn_app (goodIn_of _ (by decide +kernel)) ggX7_years_X6_hereThen
set_option maxRecDepth 20000 in
theorem ggX7_years_J6_bitCount_0f7a4 : GoodIn wsX7_years wsJ6_bitCount_0f7a4 := goodIn_r _ [57, 58, 59, 60] (by decide +kernel) (by decide +kernel)
set_option maxRecDepth 20000 in
theorem gX7_years_J6_bitCount_0f7a4 : GoodIn wsX7_years (va_wsS RX7 154 yJ6_bitCount_0f7a4 wsJ6_bitCount_0f7a4) := goodIn_app (goodIn_of _ (by decide +kernel)) ggX7_years_J6_bitCount_0f7a4
theorem dX7_years_0 : decode cX7_years 0 = .ok (.iload_n 1, 1) := by decide +kernel
theorem dX7_years_1 : decode cX7_years 1 = .ok (.iconst 1, 1) := by decide +kernel
theorem dX7_years_2 : decode cX7_years 2 = .ok (.bipush 60, 2) := by decide +kernel
theorem dX7_years_4 : decode cX7_years 4 = .ok (.invokestatic 136, 3) := by decide +kernel
theorem dX7_years_7 : decode cX7_years 7 = .ok (.istore_n 2, 1) := by decide +kernel
theorem dX7_years_8 : decode cX7_years 8 = .ok (.iload_n 2, 1) := by decide +kernel
theorem dX7_years_9 : decode cX7_years 9 = .ok (.ifCond .eq 9, 3) := by decide +kernel
theorem dX7_years_12 : decode cX7_years 12 = .ok (.aload_n 0, 1) := by decide +kernel
theorem dX7_years_13 : decode cX7_years 13 = .ok (.iload_n 2, 1) := by decide +kernel
theorem dX7_years_14 : decode cX7_years 14 = .ok (.invokevirtual 47, 3) := by decide +kernel
theorem dX7_years_17 : decode cX7_years 17 = .ok (.ireturn, 1) := by decide +kernel
theorem dX7_years_18 : decode cX7_years 18 = .ok (.aload_n 0, 1) := by decide +kernel
theorem dX7_years_19 : decode cX7_years 19 = .ok (.getfield 10, 3) := by decide +kernel
theorem dX7_years_22 : decode cX7_years 22 = .ok (.iload_n 1, 1) := by decide +kernel
theorem dX7_years_23 : decode cX7_years 23 = .ok (.invokevirtual 144, 3) := by decide +kernel
theorem dX7_years_26 : decode cX7_years 26 = .ok (.ifCond .ne 10, 3) := by decide +kernel
theorem dX7_years_29 : decode cX7_years 29 = .ok (.aload_n 0, 1) := by decide +kernel
theorem dX7_years_30 : decode cX7_years 30 = .ok (.bipush (-6), 2) := by decide +kernel
theorem dX7_years_32 : decode cX7_years 32 = .ok (.invokevirtual 47, 3) := by decide +kernel
theorem dX7_years_35 : decode cX7_years 35 = .ok (.ireturn, 1) := by decide +kernel
theorem dX7_years_36 : decode cX7_years 36 = .ok (.aload_n 0, 1) := by decide +kernel
theorem dX7_years_37 : decode cX7_years 37 = .ok (.getfield 10, 3) := by decide +kernel
theorem dX7_years_40 : decode cX7_years 40 = .ok (.iload_n 1, 1) := by decide +kernel
theorem dX7_years_41 : decode cX7_years 41 = .ok (.invokevirtual 147, 3) := by decide +kernel
theorem dX7_years_44 : decode cX7_years 44 = .ok (.aload_n 0, 1) := by decide +kernel
theorem dX7_years_45 : decode cX7_years 45 = .ok (.getfield 10, 3) := by decide +kernel
theorem dX7_years_48 : decode cX7_years 48 = .ok (.iconst 0, 1) := by decide +kernel
theorem dX7_years_49 : decode cX7_years 49 = .ok (.invokevirtual 151, 3) := by decide +kernel
theorem dX7_years_52 : decode cX7_years 52 = .ok (.invokestatic 154, 3) := by decide +kernel
theorem dX7_years_55 : decode cX7_years 55 = .ok (.ireturn, 1) := by decide +kernel
set_option maxRecDepth 20000 in
theorem ggX7_showsThen_X6_hasBride : GoodIn wsX7_showsThen wsX6_hasBride := goodIn_r _ [6, 7, 46, 47, 48, 49, 50, 51, 52, 53, 54, 55, 56, 57] (by decide +kernel) (by decide +kernel)
set_option maxRecDepth 20000 in
theorem gX7_showsThen_X6_hasBride : GoodIn wsX7_showsThen (wsV RX7 69 RX6 yX6_hasBride wsX6_hasBride) := goodIn_app (goodIn_of _ (by decide +kernel)) ggX7_showsThen_X6_hasBride
set_option maxRecDepth 20000 in
theorem ggX7_showsThen_X7_refusalOf : GoodIn wsX7_showsThen wsX7_refusalOf := goodIn_r _ [11, 12, 13, 10, 14] (by decide +kernel) (by decide +kernel)
set_option maxRecDepth 20000 in
theorem gX7_showsThen_X7_refusalOf : GoodIn wsX7_showsThen (va_wsS RX7 123 yX7_refusalOf wsX7_refusalOf) := goodIn_app (goodIn_of _ (by decide +kernel)) ggX7_showsThen_X7_refusalOf
set_option maxRecDepth 20000 in
theorem ggX7_showsThen_X7_refuse : GoodIn wsX7_showsThen wsX7_refuse := goodIn_r _ [18, 19, 20, 21, 10, 22, 23, 24, 25, 38, 39, 40, 41, 42, 43, 44, 45] (by decide +kernel) (by decide +kernel)
set_option maxRecDepth 20000 in
theorem gX7_showsThen_X7_refuse : GoodIn wsX7_showsThen (wsV RX7 47 RX7 yX7_refuse wsX7_refuse) := goodIn_app (goodIn_of _ (by decide +kernel)) ggX7_showsThen_X7_refuse
set_option maxRecDepth 20000 in
theorem ggX7_showsThen_X6_shows : GoodIn wsX7_showsThen wsX6_shows := goodIn_r _ [29, 30, 31, 21, 10, 22, 32, 33, 34, 5, 35, 36, 37, 46, 47, 48, 49, 50, 51, 52, 53, 54, 55, 56, 57] (by decide +kernel) (by decide +kernel)
set_option maxRecDepth 20000 in
theorem gX7_showsThen_X6_shows : GoodIn wsX7_showsThen (wsV RX7 82 RX6 yX6_shows wsX6_shows) := goodIn_app (goodIn_of _ (by decide +kernel)) ggX7_showsThen_X6_shows
theorem dX7_showsThen_0 : decode cX7_showsThen 0 = .ok (.aload_n 0, 1) := by decide +kernel
theorem dX7_showsThen_1 : decode cX7_showsThen 1 = .ok (.getfield 10, 3) := by decide +kernel
theorem dX7_showsThen_4 : decode cX7_showsThen 4 = .ok (.iload_n 1, 1) := by decide +kernel
theorem dX7_showsThen_5 : decode cX7_showsThen 5 = .ok (.invokevirtual 69, 3) := by decide +kernel
theorem dX7_showsThen_8 : decode cX7_showsThen 8 = .ok (.iload_n 2, 1) := by decide +kernel
theorem dX7_showsThen_9 : decode cX7_showsThen 9 = .ok (.iconst 0, 1) := by decide +kernel
theorem dX7_showsThen_10 : decode cX7_showsThen 10 = .ok (.bipush 60, 2) := by decide +kernel
theorem dX7_showsThen_12 : decode cX7_showsThen 12 = .ok (.invokestatic 123, 3) := by decide +kernel
theorem dX7_showsThen_15 : decode cX7_showsThen 15 = .ok (.istore_n 3, 1) := by decide +kernel
theorem dX7_showsThen_16 : decode cX7_showsThen 16 = .ok (.iload_n 3, 1) := by decide +kernel
theorem dX7_showsThen_17 : decode cX7_showsThen 17 = .ok (.ifCond .eq 9, 3) := by decide +kernel
theorem dX7_showsThen_20 : decode cX7_showsThen 20 = .ok (.aload_n 0, 1) := by decide +kernel
theorem dX7_showsThen_21 : decode cX7_showsThen 21 = .ok (.iload_n 3, 1) := by decide +kernel
theorem dX7_showsThen_22 : decode cX7_showsThen 22 = .ok (.invokevirtual 47, 3) := by decide +kernel
theorem dX7_showsThen_25 : decode cX7_showsThen 25 = .ok (.ireturn, 1) := by decide +kernel
theorem dX7_showsThen_26 : decode cX7_showsThen 26 = .ok (.aload_n 0, 1) := by decide +kernel
theorem dX7_showsThen_27 : decode cX7_showsThen 27 = .ok (.getfield 10, 3) := by decide +kernel
theorem dX7_showsThen_30 : decode cX7_showsThen 30 = .ok (.iload_n 1, 1) := by decide +kernel
theorem dX7_showsThen_31 : decode cX7_showsThen 31 = .ok (.iload_n 2, 1) := by decide +kernel
theorem dX7_showsThen_32 : decode cX7_showsThen 32 = .ok (.invokevirtual 82, 3) := by decide +kernel
theorem dX7_showsThen_35 : decode cX7_showsThen 35 = .ok (.ireturn, 1) := by decide +kernel
set_option maxRecDepth 20000 in
theorem ggX7_groomThen_X6_hasGroom : GoodIn wsX7_groomThen wsX6_hasGroom := goodIn_r _ [6, 7, 81, 82, 83, 84, 85, 86, 87, 88, 89, 90, 91, 92] (by decide +kernel) (by decide +kernel)
set_option maxRecDepth 20000 in
theorem gX7_groomThen_X6_hasGroom : GoodIn wsX7_groomThen (wsV RX7 92 RX6 yX6_hasGroom wsX6_hasGroom) := goodIn_app (goodIn_of _ (by decide +kernel)) ggX7_groomThen_X6_hasGroom
set_option maxRecDepth 20000 in
theorem ggX7_groomThen_X7_refusalOf : GoodIn wsX7_groomThen wsX7_refusalOf := goodIn_r _ [11, 12, 13, 10, 14] (by decide +kernel) (by decide +kernel)
set_option maxRecDepth 20000 in
theorem gX7_groomThen_X7_refusalOf : GoodIn wsX7_groomThen (va_wsS RX7 123 yX7_refusalOf wsX7_refusalOf) := goodIn_app (goodIn_of _ (by decide +kernel)) ggX7_groomThen_X7_refusalOf
set_option maxRecDepth 20000 in
theorem ggX7_groomThen_X7_refuse : GoodIn wsX7_groomThen wsX7_refuse := goodIn_r _ [18, 19, 20, 21, 10, 22, 23, 24, 25, 73, 74, 75, 76, 77, 78, 79, 80] (by decide +kernel) (by decide +kernel)
set_option maxRecDepth 20000 in
theorem gX7_groomThen_X7_refuse : GoodIn wsX7_groomThen (wsV RX7 47 RX7 yX7_refuse wsX7_refuse) := goodIn_app (goodIn_of _ (by decide +kernel)) ggX7_groomThen_X7_refuse
set_option maxRecDepth 20000 in
theorem ggX7_groomThen_X7_isNotEither : GoodIn wsX7_groomThen wsX7_isNotEither := goodIn_r _ [28] (by decide +kernel) (by decide +kernel)
set_option maxRecDepth 20000 in
theorem gX7_groomThen_X7_isNotEither : GoodIn wsX7_groomThen (va_wsS RX7 159 yX7_isNotEither wsX7_isNotEither) := goodIn_app (goodIn_of _ (by decide +kernel)) ggX7_groomThen_X7_isNotEither
set_option maxRecDepth 20000 in
theorem ggX7_groomThen_X6_guesses : GoodIn wsX7_groomThen wsX6_guesses := goodIn_r _ [32, 33, 21, 10, 22, 34, 35, 36, 5, 37, 38, 39, 40, 41, 42, 43, 44, 45, 46, 47, 48, 49, 50, 51, 52, 53, 54, 55, 81, 82, 83, 84, 85, 86, 87, 88, 89, 90, 91, 92] (by decide +kernel) (by decide +kernel)
set_option maxRecDepth 20000 in
theorem gX7_groomThen_X6_guesses : GoodIn wsX7_groomThen (wsV RX7 107 RX6 yX6_guesses wsX6_guesses) := goodIn_app (goodIn_of _ (by decide +kernel)) ggX7_groomThen_X6_guesses
set_option maxRecDepth 20000 in
theorem ggX7_groomThen_X6_knows : GoodIn wsX7_groomThen wsX6_knows := goodIn_r _ [59, 33, 21, 10, 22, 34, 35, 36, 5, 37, 38, 39, 40, 41, 42, 43, 44, 45, 46, 47, 48, 49, 50, 51, 52, 53, 54, 55, 60, 61, 62, 63, 64, 65, 66, 67, 68, 69, 70, 71, 72, 81, 82, 83, 84, 85, 86, 87, 88, 89, 90, 91, 92] (by decide +kernel) (by decide +kernel)
set_option maxRecDepth 20000 in
theorem gX7_groomThen_X6_knows : GoodIn wsX7_groomThen (wsV RX7 110 RX6 yX6_knows wsX6_knows) := goodIn_app (goodIn_of _ (by decide +kernel)) ggX7_groomThen_X6_knows
theorem dX7_groomThen_0 : decode cX7_groomThen 0 = .ok (.aload_n 0, 1) := by decide +kernel
theorem dX7_groomThen_1 : decode cX7_groomThen 1 = .ok (.getfield 10, 3) := by decide +kernel
theorem dX7_groomThen_4 : decode cX7_groomThen 4 = .ok (.iload_n 1, 1) := by decide +kernel
theorem dX7_groomThen_5 : decode cX7_groomThen 5 = .ok (.invokevirtual 92, 3) := by decide +kernel
theorem dX7_groomThen_8 : decode cX7_groomThen 8 = .ok (.iload_n 2, 1) := by decide +kernel
theorem dX7_groomThen_9 : decode cX7_groomThen 9 = .ok (.iconst 0, 1) := by decide +kernel
theorem dX7_groomThen_10 : decode cX7_groomThen 10 = .ok (.bipush 60, 2) := by decide +kernel
theorem dX7_groomThen_12 : decode cX7_groomThen 12 = .ok (.invokestatic 123, 3) := by decide +kernel
theorem dX7_groomThen_15 : decode cX7_groomThen 15 = .ok (.istore 4, 2) := by decide +kernel
theorem dX7_groomThen_17 : decode cX7_groomThen 17 = .ok (.iload 4, 2) := by decide +kernel
theorem dX7_groomThen_19 : decode cX7_groomThen 19 = .ok (.ifCond .eq 10, 3) := by decide +kernel
theorem dX7_groomThen_22 : decode cX7_groomThen 22 = .ok (.aload_n 0, 1) := by decide +kernel
theorem dX7_groomThen_23 : decode cX7_groomThen 23 = .ok (.iload 4, 2) := by decide +kernel
theorem dX7_groomThen_25 : decode cX7_groomThen 25 = .ok (.invokevirtual 47, 3) := by decide +kernel
theorem dX7_groomThen_28 : decode cX7_groomThen 28 = .ok (.ireturn, 1) := by decide +kernel
theorem dX7_groomThen_29 : decode cX7_groomThen 29 = .ok (.iload_n 3, 1) := by decide +kernel
theorem dX7_groomThen_30 : decode cX7_groomThen 30 = .ok (.invokestatic 159, 3) := by decide +kernel
theorem dX7_groomThen_33 : decode cX7_groomThen 33 = .ok (.ifCond .eq 10, 3) := by decide +kernel
theorem dX7_groomThen_36 : decode cX7_groomThen 36 = .ok (.aload_n 0, 1) := by decide +kernel
theorem dX7_groomThen_37 : decode cX7_groomThen 37 = .ok (.bipush (-2), 2) := by decide +kernel
theorem dX7_groomThen_39 : decode cX7_groomThen 39 = .ok (.invokevirtual 47, 3) := by decide +kernel
theorem dX7_groomThen_42 : decode cX7_groomThen 42 = .ok (.ireturn, 1) := by decide +kernel
theorem dX7_groomThen_43 : decode cX7_groomThen 43 = .ok (.iload_n 3, 1) := by decide +kernel
theorem dX7_groomThen_44 : decode cX7_groomThen 44 = .ok (.ifCond .ne 15, 3) := by decide +kernel
theorem dX7_groomThen_47 : decode cX7_groomThen 47 = .ok (.aload_n 0, 1) := by decide +kernel
theorem dX7_groomThen_48 : decode cX7_groomThen 48 = .ok (.getfield 10, 3) := by decide +kernel
theorem dX7_groomThen_51 : decode cX7_groomThen 51 = .ok (.iload_n 1, 1) := by decide +kernel
theorem dX7_groomThen_52 : decode cX7_groomThen 52 = .ok (.iload_n 2, 1) := by decide +kernel
theorem dX7_groomThen_53 : decode cX7_groomThen 53 = .ok (.invokevirtual 107, 3) := by decide +kernel
theorem dX7_groomThen_56 : decode cX7_groomThen 56 = .ok (.goto 12, 3) := by decide +kernel
theorem dX7_groomThen_59 : decode cX7_groomThen 59 = .ok (.aload_n 0, 1) := by decide +kernel
theorem dX7_groomThen_60 : decode cX7_groomThen 60 = .ok (.getfield 10, 3) := by decide +kernel
theorem dX7_groomThen_63 : decode cX7_groomThen 63 = .ok (.iload_n 1, 1) := by decide +kernel
theorem dX7_groomThen_64 : decode cX7_groomThen 64 = .ok (.iload_n 2, 1) := by decide +kernel
theorem dX7_groomThen_65 : decode cX7_groomThen 65 = .ok (.invokevirtual 110, 3) := by decide +kernel
theorem dX7_groomThen_68 : decode cX7_groomThen 68 = .ok (.ireturn, 1) := by decide +kernel
set_option maxRecDepth 20000 in
theorem ggX7_known_X7_isNotEither : GoodIn wsX7_known wsX7_isNotEither := goodIn_r _ [5] (by decide +kernel) (by decide +kernel)
set_option maxRecDepth 20000 in
theorem gX7_known_X7_isNotEither : GoodIn wsX7_known (va_wsS RX7 159 yX7_isNotEither wsX7_isNotEither) := goodIn_app (goodIn_of _ (by decide +kernel)) ggX7_known_X7_isNotEither
set_option maxRecDepth 20000 in
theorem ggX7_known_X7_refuse : GoodIn wsX7_known wsX7_refuse := goodIn_r _ [9, 10, 11, 12, 4, 13, 14, 15, 16, 69, 70, 71, 72, 73, 74, 75, 76] (by decide +kernel) (by decide +kernel)
set_option maxRecDepth 20000 in
theorem gX7_known_X7_refuse : GoodIn wsX7_known (wsV RX7 47 RX7 yX7_refuse wsX7_refuse) := goodIn_app (goodIn_of _ (by decide +kernel)) ggX7_known_X7_refuse
set_option maxRecDepth 20000 in
theorem ggX7_known_X6_knownBits : GoodIn wsX7_known wsX6_knownBits := goodIn_r _ [21, 22, 23, 24, 25, 20, 26, 27, 28, 4, 29, 30, 31, 32, 33, 34, 12, 13, 35, 36, 37, 38, 39, 40, 41, 42, 43, 44, 45, 46, 47, 48, 49, 50, 51, 52, 53, 54, 55, 56, 57, 58, 59, 60, 61, 62, 63, 64, 65, 66, 67, 77, 78, 79, 80, 81, 82, 83, 84, 85, 86, 87, 88] (by decide +kernel) (by decide +kernel)
set_option maxRecDepth 20000 in
theorem gX7_known_X6_knownBits : GoodIn wsX7_known (wsV RX7 162 RX6 yX6_knownBits wsX6_knownBits) := goodIn_app (goodIn_of _ (by decide +kernel)) ggX7_known_X6_knownBits
set_option maxRecDepth 20000 in
theorem ggX7_known_X6_hereThen : GoodIn wsX7_known wsX6_hereThen := goodIn_r _ [46, 40, 47, 48, 28, 4, 29, 12, 13, 77, 78, 79, 80, 81, 82, 83, 84, 85, 86, 87, 88] (by decide +kernel) (by decide +kernel)
set_option maxRecDepth 20000 in
theorem gX7_known_X6_hereThen : GoodIn wsX7_known (wsV RX7 151 RX6 yX6_hereThen wsX6_hereThen) := goodIn_app (goodIn_of _ (by decide +kernel)) ggX7_known_X6_hereThen
theorem dX7_known_0 : decode cX7_known 0 = .ok (.iload_n 1, 1) := by decide +kernel
theorem dX7_known_1 : decode cX7_known 1 = .ok (.invokestatic 159, 3) := by decide +kernel
theorem dX7_known_4 : decode cX7_known 4 = .ok (.ifCond .eq 10, 3) := by decide +kernel
theorem dX7_known_7 : decode cX7_known 7 = .ok (.aload_n 0, 1) := by decide +kernel
theorem dX7_known_8 : decode cX7_known 8 = .ok (.bipush (-2), 2) := by decide +kernel
theorem dX7_known_10 : decode cX7_known 10 = .ok (.invokevirtual 47, 3) := by decide +kernel
theorem dX7_known_13 : decode cX7_known 13 = .ok (.ireturn, 1) := by decide +kernel
theorem dX7_known_14 : decode cX7_known 14 = .ok (.iload_n 1, 1) := by decide +kernel
theorem dX7_known_15 : decode cX7_known 15 = .ok (.ifCond .ne 13, 3) := by decide +kernel
theorem dX7_known_18 : decode cX7_known 18 = .ok (.aload_n 0, 1) := by decide +kernel
theorem dX7_known_19 : decode cX7_known 19 = .ok (.getfield 10, 3) := by decide +kernel
theorem dX7_known_22 : decode cX7_known 22 = .ok (.invokevirtual 162, 3) := by decide +kernel
theorem dX7_known_25 : decode cX7_known 25 = .ok (.goto 21, 3) := by decide +kernel
theorem dX7_known_28 : decode cX7_known 28 = .ok (.aload_n 0, 1) := by decide +kernel
theorem dX7_known_29 : decode cX7_known 29 = .ok (.getfield 10, 3) := by decide +kernel
theorem dX7_known_32 : decode cX7_known 32 = .ok (.iconst 0, 1) := by decide +kernel
theorem dX7_known_33 : decode cX7_known 33 = .ok (.invokevirtual 151, 3) := by decide +kernel
theorem dX7_known_36 : decode cX7_known 36 = .ok (.aload_n 0, 1) := by decide +kernel
theorem dX7_known_37 : decode cX7_known 37 = .ok (.getfield 10, 3) := by decide +kernel
theorem dX7_known_40 : decode cX7_known 40 = .ok (.invokevirtual 162, 3) := by decide +kernel
theorem dX7_known_43 : decode cX7_known 43 = .ok (.iconst (-1), 1) := by decide +kernel
theorem dX7_known_44 : decode cX7_known 44 = .ok (.ixor, 1) := by decide +kernel
theorem dX7_known_45 : decode cX7_known 45 = .ok (.iand, 1) := by decide +kernel
theorem dX7_known_46 : decode cX7_known 46 = .ok (.ireturn, 1) := by decide +kernel
set_option maxRecDepth 20000 in
theorem ggX7_when_X6_hasGroom : GoodIn wsX7_when wsX6_hasGroom := goodIn_r _ [6, 7, 68, 69, 70, 71, 72, 73, 74, 75, 76, 77, 78, 79] (by decide +kernel) (by decide +kernel)
set_option maxRecDepth 20000 in
theorem gX7_when_X6_hasGroom : GoodIn wsX7_when (wsV RX7 92 RX6 yX6_hasGroom wsX6_hasGroom) := goodIn_app (goodIn_of _ (by decide +kernel)) ggX7_when_X6_hasGroom
set_option maxRecDepth 20000 in
theorem ggX7_when_X7_refuse : GoodIn wsX7_when wsX7_refuse := goodIn_r _ [12, 13, 14, 15, 11, 16, 17, 18, 19, 60, 61, 62, 63, 64, 65, 66, 67] (by decide +kernel) (by decide +kernel)
set_option maxRecDepth 20000 in
theorem gX7_when_X7_refuse : GoodIn wsX7_when (wsV RX7 47 RX7 yX7_refuse wsX7_refuse) := goodIn_app (goodIn_of _ (by decide +kernel)) ggX7_when_X7_refuse
set_option maxRecDepth 20000 in
theorem ggX7_when_X6_knows : GoodIn wsX7_when wsX6_knows := goodIn_r _ [23, 24, 15, 11, 16, 25, 26, 27, 5, 28, 29, 30, 31, 32, 33, 34, 35, 36, 37, 38, 39, 40, 41, 42, 43, 44, 45, 46, 47, 48, 49, 50, 51, 52, 53, 54, 55, 56, 57, 58, 59, 68, 69, 70, 71, 72, 73, 74, 75, 76, 77, 78, 79] (by decide +kernel) (by decide +kernel)
set_option maxRecDepth 20000 in
theorem gX7_when_X6_knows : GoodIn wsX7_when (wsV RX7 110 RX6 yX6_knows wsX6_knows) := goodIn_app (goodIn_of _ (by decide +kernel)) ggX7_when_X6_knows
theorem dX7_when_0 : decode cX7_when 0 = .ok (.aload_n 0, 1) := by decide +kernel
theorem dX7_when_1 : decode cX7_when 1 = .ok (.getfield 10, 3) := by decide +kernel
theorem dX7_when_4 : decode cX7_when 4 = .ok (.iload_n 1, 1) := by decide +kernel
theorem dX7_when_5 : decode cX7_when 5 = .ok (.invokevirtual 92, 3) := by decide +kernel
theorem dX7_when_8 : decode cX7_when 8 = .ok (.ifCond .ne 9, 3) := by decide +kernel
theorem dX7_when_11 : decode cX7_when 11 = .ok (.aload_n 0, 1) := by decide +kernel
theorem dX7_when_12 : decode cX7_when 12 = .ok (.iconst (-1), 1) := by decide +kernel
theorem dX7_when_13 : decode cX7_when 13 = .ok (.invokevirtual 47, 3) := by decide +kernel
theorem dX7_when_16 : decode cX7_when 16 = .ok (.ireturn, 1) := by decide +kernel
theorem dX7_when_17 : decode cX7_when 17 = .ok (.iconst 0, 1) := by decide +kernel
theorem dX7_when_18 : decode cX7_when 18 = .ok (.istore_n 2, 1) := by decide +kernel
theorem dX7_when_19 : decode cX7_when 19 = .ok (.iload_n 2, 1) := by decide +kernel
theorem dX7_when_20 : decode cX7_when 20 = .ok (.bipush 60, 2) := by decide +kernel
theorem dX7_when_22 : decode cX7_when 22 = .ok (.if_icmp .gt 25, 3) := by decide +kernel
theorem dX7_when_25 : decode cX7_when 25 = .ok (.aload_n 0, 1) := by decide +kernel
theorem dX7_when_26 : decode cX7_when 26 = .ok (.getfield 10, 3) := by decide +kernel
theorem dX7_when_29 : decode cX7_when 29 = .ok (.iload_n 1, 1) := by decide +kernel
theorem dX7_when_30 : decode cX7_when 30 = .ok (.iload_n 2, 1) := by decide +kernel
theorem dX7_when_31 : decode cX7_when 31 = .ok (.invokevirtual 110, 3) := by decide +kernel
theorem dX7_when_34 : decode cX7_when 34 = .ok (.bipush (-9), 2) := by decide +kernel
theorem dX7_when_36 : decode cX7_when 36 = .ok (.if_icmp .eq 5, 3) := by decide +kernel
theorem dX7_when_39 : decode cX7_when 39 = .ok (.iload_n 2, 1) := by decide +kernel
theorem dX7_when_40 : decode cX7_when 40 = .ok (.ireturn, 1) := by decide +kernel
theorem dX7_when_41 : decode cX7_when 41 = .ok (.iinc 2 1, 3) := by decide +kernel
theorem dX7_when_44 : decode cX7_when 44 = .ok (.goto (-25), 3) := by decide +kernel
theorem dX7_when_47 : decode cX7_when 47 = .ok (.bipush (-9), 2) := by decide +kernel
theorem dX7_when_49 : decode cX7_when 49 = .ok (.ireturn, 1) := by decide +kernel
set_option maxRecDepth 20000 in
theorem ggX7_takes_X6_hasGroom : GoodIn wsX7_takes wsX6_hasGroom := goodIn_r _ [6, 7, 95, 96, 97, 98, 99, 100, 101, 102, 103, 104, 105, 106] (by decide +kernel) (by decide +kernel)
set_option maxRecDepth 20000 in
theorem gX7_takes_X6_hasGroom : GoodIn wsX7_takes (wsV RX7 92 RX6 yX6_hasGroom wsX6_hasGroom) := goodIn_app (goodIn_of _ (by decide +kernel)) ggX7_takes_X6_hasGroom
set_option maxRecDepth 20000 in
theorem ggX7_takes_X7_refuse : GoodIn wsX7_takes wsX7_refuse := goodIn_r _ [12, 13, 14, 15, 11, 16, 17, 18, 19, 87, 88, 89, 90, 91, 92, 93, 94] (by decide +kernel) (by decide +kernel)
set_option maxRecDepth 20000 in
theorem gX7_takes_X7_refuse : GoodIn wsX7_takes (wsV RX7 47 RX7 yX7_refuse wsX7_refuse) := goodIn_app (goodIn_of _ (by decide +kernel)) ggX7_takes_X7_refuse
set_option maxRecDepth 20000 in
theorem ggX7_takes_X6_liquorOf : GoodIn wsX7_takes wsX6_liquorOf := goodIn_r _ [23, 24, 15, 11, 16, 95, 96, 97, 98, 99, 100, 101, 102, 103, 104, 105, 106] (by decide +kernel) (by decide +kernel)
set_option maxRecDepth 20000 in
theorem gX7_takes_X6_liquorOf : GoodIn wsX7_takes (wsV RX7 101 RX6 yX6_liquorOf wsX6_liquorOf) := goodIn_app (goodIn_of _ (by decide +kernel)) ggX7_takes_X6_liquorOf
set_option maxRecDepth 20000 in
theorem ggX7_takes_X6_takenWith : GoodIn wsX7_takes wsX6_takenWith := goodIn_r _ [28, 29, 30, 31, 5, 32, 33, 15, 11, 16, 34, 35, 36, 37, 38, 39, 40, 41, 42, 43, 44, 45, 46, 47, 48, 49, 50, 51, 52, 53, 54, 55, 56, 57, 58, 59, 60, 3, 4, 6, 7, 61, 62, 63, 64, 65, 66, 67, 68, 69, 70, 71, 72, 73, 74, 75, 76, 77, 78, 79, 80, 81, 82, 83, 84, 85, 86, 95, 96, 97, 98, 99, 100, 101, 102, 103, 104, 105, 106] (by decide +kernel) (by decide +kernel)
set_option maxRecDepth 20000 in
theorem gX7_takes_X6_takenWith : GoodIn wsX7_takes (wsV RX7 166 RX6 yX6_takenWith wsX6_takenWith) := goodIn_app (goodIn_of _ (by decide +kernel)) ggX7_takes_X6_takenWith
theorem dX7_takes_0 : decode cX7_takes 0 = .ok (.aload_n 0, 1) := by decide +kernel
theorem dX7_takes_1 : decode cX7_takes 1 = .ok (.getfield 10, 3) := by decide +kernel
theorem dX7_takes_4 : decode cX7_takes 4 = .ok (.iload_n 1, 1) := by decide +kernel
theorem dX7_takes_5 : decode cX7_takes 5 = .ok (.invokevirtual 92, 3) := by decide +kernel
theorem dX7_takes_8 : decode cX7_takes 8 = .ok (.ifCond .ne 9, 3) := by decide +kernel
theorem dX7_takes_11 : decode cX7_takes 11 = .ok (.aload_n 0, 1) := by decide +kernel
theorem dX7_takes_12 : decode cX7_takes 12 = .ok (.iconst (-1), 1) := by decide +kernel
theorem dX7_takes_13 : decode cX7_takes 13 = .ok (.invokevirtual 47, 3) := by decide +kernel
theorem dX7_takes_16 : decode cX7_takes 16 = .ok (.ireturn, 1) := by decide +kernel
theorem dX7_takes_17 : decode cX7_takes 17 = .ok (.aload_n 0, 1) := by decide +kernel
theorem dX7_takes_18 : decode cX7_takes 18 = .ok (.getfield 10, 3) := by decide +kernel
theorem dX7_takes_21 : decode cX7_takes 21 = .ok (.iload_n 1, 1) := by decide +kernel
theorem dX7_takes_22 : decode cX7_takes 22 = .ok (.aload_n 0, 1) := by decide +kernel
theorem dX7_takes_23 : decode cX7_takes 23 = .ok (.getfield 10, 3) := by decide +kernel
theorem dX7_takes_26 : decode cX7_takes 26 = .ok (.iload_n 1, 1) := by decide +kernel
theorem dX7_takes_27 : decode cX7_takes 27 = .ok (.invokevirtual 101, 3) := by decide +kernel
theorem dX7_takes_30 : decode cX7_takes 30 = .ok (.invokevirtual 166, 3) := by decide +kernel
theorem dX7_takes_33 : decode cX7_takes 33 = .ok (.ireturn, 1) := by decide +kernel
set_option maxRecDepth 20000 in
theorem ggX7_hide_X6_hasBride : GoodIn wsX7_hide wsX6_hasBride := goodIn_r _ [7, 8, 105, 106, 107, 108, 109, 110, 111, 112, 113, 114, 115, 116] (by decide +kernel) (by decide +kernel)
set_option maxRecDepth 20000 in
theorem gX7_hide_X6_hasBride : GoodIn wsX7_hide (wsV RX7 69 RX6 yX6_hasBride wsX6_hasBride) := goodIn_app (goodIn_of _ (by decide +kernel)) ggX7_hide_X6_hasBride
set_option maxRecDepth 20000 in
theorem ggX7_hide_X7_refuse : GoodIn wsX7_hide wsX7_refuse := goodIn_r _ [13, 14, 15, 16, 12, 17, 18, 19, 20, 97, 98, 99, 100, 101, 102, 103, 104] (by decide +kernel) (by decide +kernel)
set_option maxRecDepth 20000 in
theorem gX7_hide_X7_refuse : GoodIn wsX7_hide (wsV RX7 47 RX7 yX7_refuse wsX7_refuse) := goodIn_app (goodIn_of _ (by decide +kernel)) ggX7_hide_X7_refuse
set_option maxRecDepth 20000 in
theorem ggX7_hide_X6_isHere : GoodIn wsX7_hide wsX6_isHere := goodIn_r _ [24, 25, 26, 27, 6, 28, 29, 30, 31, 12, 32, 16, 17, 105, 106, 107, 108, 109, 110, 111, 112, 113, 114, 115, 116] (by decide +kernel) (by decide +kernel)
set_option maxRecDepth 20000 in
theorem gX7_hide_X6_isHere : GoodIn wsX7_hide (wsV RX7 169 RX6 yX6_isHere wsX6_isHere) := goodIn_app (goodIn_of _ (by decide +kernel)) ggX7_hide_X6_isHere
set_option maxRecDepth 20000 in
theorem ggX7_hide_X0_fewestToes : GoodIn wsX7_hide wsX0_fewestToes := goodIn_r _ [36, 37, 38, 39, 6, 40, 41, 8, 42, 43, 44, 30, 29, 45, 46, 47, 48, 49, 50, 12, 51, 52, 53, 54, 55, 56, 57, 58, 59, 16, 17, 19, 20, 60, 61, 62, 63, 64, 65, 66, 67, 31, 32, 68, 69, 70, 71, 72, 73, 74, 75, 76, 77, 78, 79, 80, 81, 82, 83, 84, 85, 86, 87, 88, 89, 90, 91, 92, 93, 94, 95, 96, 105, 106, 107, 108, 109, 110, 111, 112, 113, 114, 115, 116] (by decide +kernel) (by decide +kernel)
set_option maxRecDepth 20000 in
theorem gX7_hide_X0_fewestToes : GoodIn wsX7_hide (va_wsS RX7 172 yX0_fewestToes wsX0_fewestToes) := goodIn_app (goodIn_of _ (by decide +kernel)) ggX7_hide_X0_fewestToes
theorem dX7_hide_0 : decode cX7_hide 0 = .ok (.aload_n 0, 1) := by decide +kernel
theorem dX7_hide_1 : decode cX7_hide 1 = .ok (.getfield 10, 3) := by decide +kernel
theorem dX7_hide_4 : decode cX7_hide 4 = .ok (.iload_n 1, 1) := by decide +kernel
theorem dX7_hide_5 : decode cX7_hide 5 = .ok (.invokevirtual 69, 3) := by decide +kernel
theorem dX7_hide_8 : decode cX7_hide 8 = .ok (.ifCond .ne 9, 3) := by decide +kernel
theorem dX7_hide_11 : decode cX7_hide 11 = .ok (.aload_n 0, 1) := by decide +kernel
theorem dX7_hide_12 : decode cX7_hide 12 = .ok (.iconst (-1), 1) := by decide +kernel
theorem dX7_hide_13 : decode cX7_hide 13 = .ok (.invokevirtual 47, 3) := by decide +kernel
theorem dX7_hide_16 : decode cX7_hide 16 = .ok (.ireturn, 1) := by decide +kernel
theorem dX7_hide_17 : decode cX7_hide 17 = .ok (.aload_n 0, 1) := by decide +kernel
theorem dX7_hide_18 : decode cX7_hide 18 = .ok (.getfield 10, 3) := by decide +kernel
theorem dX7_hide_21 : decode cX7_hide 21 = .ok (.iload_n 1, 1) := by decide +kernel
theorem dX7_hide_22 : decode cX7_hide 22 = .ok (.invokevirtual 169, 3) := by decide +kernel
theorem dX7_hide_25 : decode cX7_hide 25 = .ok (.ifCond .ne 10, 3) := by decide +kernel
theorem dX7_hide_28 : decode cX7_hide 28 = .ok (.aload_n 0, 1) := by decide +kernel
theorem dX7_hide_29 : decode cX7_hide 29 = .ok (.bipush (-3), 2) := by decide +kernel
theorem dX7_hide_31 : decode cX7_hide 31 = .ok (.invokevirtual 47, 3) := by decide +kernel
theorem dX7_hide_34 : decode cX7_hide 34 = .ok (.ireturn, 1) := by decide +kernel
theorem dX7_hide_35 : decode cX7_hide 35 = .ok (.aload_n 0, 1) := by decide +kernel
theorem dX7_hide_36 : decode cX7_hide 36 = .ok (.getfield 10, 3) := by decide +kernel
theorem dX7_hide_39 : decode cX7_hide 39 = .ok (.aload_n 0, 1) := by decide +kernel
theorem dX7_hide_40 : decode cX7_hide 40 = .ok (.getfield 16, 3) := by decide +kernel
theorem dX7_hide_43 : decode cX7_hide 43 = .ok (.iload_n 1, 1) := by decide +kernel
theorem dX7_hide_44 : decode cX7_hide 44 = .ok (.invokestatic 172, 3) := by decide +kernel
theorem dX7_hide_47 : decode cX7_hide 47 = .ok (.ireturn, 1) := by decide +kernel
set_option maxRecDepth 20000 in
theorem ggX7_forget_X6_hasGroom : GoodIn wsX7_forget wsX6_hasGroom := goodIn_r _ [6, 7, 77, 78, 79, 80, 81, 82, 83, 84, 85, 86, 87, 88] (by decide +kernel) (by decide +kernel)
set_option maxRecDepth 20000 in
theorem gX7_forget_X6_hasGroom : GoodIn wsX7_forget (wsV RX7 92 RX6 yX6_hasGroom wsX6_hasGroom) := goodIn_app (goodIn_of _ (by decide +kernel)) ggX7_forget_X6_hasGroom
set_option maxRecDepth 20000 in
theorem ggX7_forget_X7_refuse : GoodIn wsX7_forget wsX7_refuse := goodIn_r _ [12, 13, 14, 15, 11, 16, 17, 18, 19, 69, 70, 71, 72, 73, 74, 75, 76] (by decide +kernel) (by decide +kernel)
set_option maxRecDepth 20000 in
theorem gX7_forget_X7_refuse : GoodIn wsX7_forget (wsV RX7 47 RX7 yX7_refuse wsX7_refuse) := goodIn_app (goodIn_of _ (by decide +kernel)) ggX7_forget_X7_refuse
set_option maxRecDepth 20000 in
theorem ggX7_forget_X6_isUnmarried : GoodIn wsX7_forget wsX6_isUnmarried := goodIn_r _ [23, 24, 25, 11, 26, 77, 78, 79, 80, 81, 82, 83, 84, 85, 86, 87, 88] (by decide +kernel) (by decide +kernel)
set_option maxRecDepth 20000 in
theorem gX7_forget_X6_isUnmarried : GoodIn wsX7_forget (wsV RX7 104 RX6 yX6_isUnmarried wsX6_isUnmarried) := goodIn_app (goodIn_of _ (by decide +kernel)) ggX7_forget_X6_isUnmarried
set_option maxRecDepth 20000 in
theorem ggX7_forget_X0_fewestForgotten : GoodIn wsX7_forget wsX0_fewestForgotten := goodIn_r _ [30, 31, 32, 33, 5, 34, 35, 15, 11, 16, 36, 37, 38, 39, 40, 41, 42, 43, 44, 45, 46, 47, 48, 49, 25, 26, 50, 51, 52, 53, 54, 55, 56, 57, 58, 59, 60, 61, 62, 63, 64, 65, 66, 67, 68, 77, 78, 79, 80, 81, 82, 83, 84, 85, 86, 87, 88] (by decide +kernel) (by decide +kernel)
set_option maxRecDepth 20000 in
theorem gX7_forget_X0_fewestForgotten : GoodIn wsX7_forget (va_wsS RX7 178 yX0_fewestForgotten wsX0_fewestForgotten) := goodIn_app (goodIn_of _ (by decide +kernel)) ggX7_forget_X0_fewestForgotten
theorem dX7_forget_0 : decode cX7_forget 0 = .ok (.aload_n 0, 1) := by decide +kernel
theorem dX7_forget_1 : decode cX7_forget 1 = .ok (.getfield 10, 3) := by decide +kernel
theorem dX7_forget_4 : decode cX7_forget 4 = .ok (.iload_n 1, 1) := by decide +kernel
theorem dX7_forget_5 : decode cX7_forget 5 = .ok (.invokevirtual 92, 3) := by decide +kernel
theorem dX7_forget_8 : decode cX7_forget 8 = .ok (.ifCond .ne 9, 3) := by decide +kernel
theorem dX7_forget_11 : decode cX7_forget 11 = .ok (.aload_n 0, 1) := by decide +kernel
theorem dX7_forget_12 : decode cX7_forget 12 = .ok (.iconst (-1), 1) := by decide +kernel
theorem dX7_forget_13 : decode cX7_forget 13 = .ok (.invokevirtual 47, 3) := by decide +kernel
theorem dX7_forget_16 : decode cX7_forget 16 = .ok (.ireturn, 1) := by decide +kernel
theorem dX7_forget_17 : decode cX7_forget 17 = .ok (.aload_n 0, 1) := by decide +kernel
theorem dX7_forget_18 : decode cX7_forget 18 = .ok (.getfield 10, 3) := by decide +kernel
theorem dX7_forget_21 : decode cX7_forget 21 = .ok (.iload_n 1, 1) := by decide +kernel
theorem dX7_forget_22 : decode cX7_forget 22 = .ok (.invokevirtual 104, 3) := by decide +kernel
theorem dX7_forget_25 : decode cX7_forget 25 = .ok (.ifCond .ne 10, 3) := by decide +kernel
theorem dX7_forget_28 : decode cX7_forget 28 = .ok (.aload_n 0, 1) := by decide +kernel
theorem dX7_forget_29 : decode cX7_forget 29 = .ok (.bipush (-3), 2) := by decide +kernel
theorem dX7_forget_31 : decode cX7_forget 31 = .ok (.invokevirtual 47, 3) := by decide +kernel
theorem dX7_forget_34 : decode cX7_forget 34 = .ok (.ireturn, 1) := by decide +kernel
theorem dX7_forget_35 : decode cX7_forget 35 = .ok (.aload_n 0, 1) := by decide +kernel
theorem dX7_forget_36 : decode cX7_forget 36 = .ok (.getfield 10, 3) := by decide +kernel
theorem dX7_forget_39 : decode cX7_forget 39 = .ok (.iload_n 1, 1) := by decide +kernel
theorem dX7_forget_40 : decode cX7_forget 40 = .ok (.invokestatic 178, 3) := by decide +kernel
theorem dX7_forget_43 : decode cX7_forget 43 = .ok (.ireturn, 1) := by decide +kernel
set_option maxRecDepth 20000 in
theorem ggX7_drink_X6_hasGroom : GoodIn wsX7_drink wsX6_hasGroom := goodIn_r _ [6, 7, 94, 95, 96, 97, 98, 99, 100, 101, 102, 103, 104, 105] (by decide +kernel) (by decide +kernel)
set_option maxRecDepth 20000 in
theorem gX7_drink_X6_hasGroom : GoodIn wsX7_drink (wsV RX7 92 RX6 yX6_hasGroom wsX6_hasGroom) := goodIn_app (goodIn_of _ (by decide +kernel)) ggX7_drink_X6_hasGroom
set_option maxRecDepth 20000 in
theorem ggX7_drink_X6_hasBride : GoodIn wsX7_drink wsX6_hasBride := goodIn_r _ [11, 12, 94, 95, 96, 97, 98, 99, 100, 101, 102, 103, 104, 105] (by decide +kernel) (by decide +kernel)
set_option maxRecDepth 20000 in
theorem gX7_drink_X6_hasBride : GoodIn wsX7_drink (wsV RX7 69 RX6 yX6_hasBride wsX6_hasBride) := goodIn_app (goodIn_of _ (by decide +kernel)) ggX7_drink_X6_hasBride
set_option maxRecDepth 20000 in
theorem ggX7_drink_X7_refuse : GoodIn wsX7_drink wsX7_refuse := goodIn_r _ [17, 18, 19, 20, 16, 21, 22, 23, 24, 86, 87, 88, 89, 90, 91, 92, 93] (by decide +kernel) (by decide +kernel)
set_option maxRecDepth 20000 in
theorem gX7_drink_X7_refuse : GoodIn wsX7_drink (wsV RX7 47 RX7 yX7_refuse wsX7_refuse) := goodIn_app (goodIn_of _ (by decide +kernel)) ggX7_drink_X7_refuse
set_option maxRecDepth 20000 in
theorem ggX7_drink_X6_takenWith : GoodIn wsX7_drink wsX6_takenWith := goodIn_r _ [28, 29, 30, 31, 5, 32, 33, 20, 16, 21, 34, 35, 36, 37, 38, 12, 39, 40, 41, 42, 43, 44, 45, 46, 47, 48, 49, 50, 51, 52, 53, 54, 55, 56, 57, 58, 59, 3, 4, 6, 7, 60, 61, 62, 63, 64, 65, 66, 67, 68, 69, 70, 71, 72, 73, 74, 75, 76, 77, 78, 79, 80, 81, 82, 83, 84, 85, 94, 95, 96, 97, 98, 99, 100, 101, 102, 103, 104, 105] (by decide +kernel) (by decide +kernel)
set_option maxRecDepth 20000 in
theorem gX7_drink_X6_takenWith : GoodIn wsX7_drink (wsV RX7 166 RX6 yX6_takenWith wsX6_takenWith) := goodIn_app (goodIn_of _ (by decide +kernel)) ggX7_drink_X6_takenWith
theorem dX7_drink_0 : decode cX7_drink 0 = .ok (.aload_n 0, 1) := by decide +kernel
theorem dX7_drink_1 : decode cX7_drink 1 = .ok (.getfield 10, 3) := by decide +kernel
theorem dX7_drink_4 : decode cX7_drink 4 = .ok (.iload_n 1, 1) := by decide +kernel
theorem dX7_drink_5 : decode cX7_drink 5 = .ok (.invokevirtual 92, 3) := by decide +kernel
theorem dX7_drink_8 : decode cX7_drink 8 = .ok (.ifCond .eq 14, 3) := by decide +kernel
theorem dX7_drink_11 : decode cX7_drink 11 = .ok (.aload_n 0, 1) := by decide +kernel
theorem dX7_drink_12 : decode cX7_drink 12 = .ok (.getfield 10, 3) := by decide +kernel
theorem dX7_drink_15 : decode cX7_drink 15 = .ok (.iload_n 2, 1) := by decide +kernel
theorem dX7_drink_16 : decode cX7_drink 16 = .ok (.invokevirtual 69, 3) := by decide +kernel
theorem dX7_drink_19 : decode cX7_drink 19 = .ok (.ifCond .ne 9, 3) := by decide +kernel
theorem dX7_drink_22 : decode cX7_drink 22 = .ok (.aload_n 0, 1) := by decide +kernel
theorem dX7_drink_23 : decode cX7_drink 23 = .ok (.iconst (-1), 1) := by decide +kernel
theorem dX7_drink_24 : decode cX7_drink 24 = .ok (.invokevirtual 47, 3) := by decide +kernel
theorem dX7_drink_27 : decode cX7_drink 27 = .ok (.ireturn, 1) := by decide +kernel
theorem dX7_drink_28 : decode cX7_drink 28 = .ok (.iconst 0, 1) := by decide +kernel
theorem dX7_drink_29 : decode cX7_drink 29 = .ok (.istore_n 3, 1) := by decide +kernel
theorem dX7_drink_30 : decode cX7_drink 30 = .ok (.iload_n 3, 1) := by decide +kernel
theorem dX7_drink_31 : decode cX7_drink 31 = .ok (.bipush 9, 2) := by decide +kernel
theorem dX7_drink_33 : decode cX7_drink 33 = .ok (.if_icmp .gt 24, 3) := by decide +kernel
theorem dX7_drink_36 : decode cX7_drink 36 = .ok (.aload_n 0, 1) := by decide +kernel
theorem dX7_drink_37 : decode cX7_drink 37 = .ok (.getfield 10, 3) := by decide +kernel
theorem dX7_drink_40 : decode cX7_drink 40 = .ok (.iload_n 1, 1) := by decide +kernel
theorem dX7_drink_41 : decode cX7_drink 41 = .ok (.iload_n 3, 1) := by decide +kernel
theorem dX7_drink_42 : decode cX7_drink 42 = .ok (.invokevirtual 166, 3) := by decide +kernel
theorem dX7_drink_45 : decode cX7_drink 45 = .ok (.iload_n 2, 1) := by decide +kernel
theorem dX7_drink_46 : decode cX7_drink 46 = .ok (.if_icmp .ne 5, 3) := by decide +kernel
theorem dX7_drink_49 : decode cX7_drink 49 = .ok (.iload_n 3, 1) := by decide +kernel
theorem dX7_drink_50 : decode cX7_drink 50 = .ok (.ireturn, 1) := by decide +kernel
theorem dX7_drink_51 : decode cX7_drink 51 = .ok (.iinc 3 1, 3) := by decide +kernel
theorem dX7_drink_54 : decode cX7_drink 54 = .ok (.goto (-24), 3) := by decide +kernel
theorem dX7_drink_57 : decode cX7_drink 57 = .ok (.bipush (-9), 2) := by decide +kernel
theorem dX7_drink_59 : decode cX7_drink 59 = .ok (.ireturn, 1) := by decide +kernel
set_option maxRecDepth 20000 in
theorem ggX7_away_X0_bestAway : GoodIn wsX7_away wsX0_bestAway := goodIn_r _ [6, 7, 8, 9, 10, 11, 12, 13, 14, 15, 16, 17, 18, 19, 20, 21, 22, 23, 24, 25, 26, 27, 28, 29, 30, 31, 32, 33, 34, 35, 36, 37, 38, 39, 40, 41, 42, 43, 44, 45, 46, 47, 48, 49, 50, 51, 52, 53, 54, 55, 56, 57, 58, 59, 60, 61, 62, 63, 64, 65, 66, 67, 68, 69, 70, 71, 72, 73, 74, 75, 76, 77, 78, 79, 80, 81, 82, 83, 92, 93, 94, 95, 96, 97, 98, 99, 100, 101, 102, 103] (by decide +kernel) (by decide +kernel)
set_option maxRecDepth 20000 in
theorem gX7_away_X0_bestAway : GoodIn wsX7_away (va_wsS RX7 182 yX0_bestAway wsX0_bestAway) := goodIn_app (goodIn_of _ (by decide +kernel)) ggX7_away_X0_bestAway
theorem dX7_away_0 : decode cX7_away 0 = .ok (.aload_n 0, 1) := by decide +kernel
theorem dX7_away_1 : decode cX7_away 1 = .ok (.getfield 10, 3) := by decide +kernel
theorem dX7_away_4 : decode cX7_away 4 = .ok (.aload_n 0, 1) := by decide +kernel
theorem dX7_away_5 : decode cX7_away 5 = .ok (.getfield 16, 3) := by decide +kernel
theorem dX7_away_8 : decode cX7_away 8 = .ok (.invokestatic 182, 3) := by decide +kernel
theorem dX7_away_11 : decode cX7_away 11 = .ok (.ireturn, 1) := by decide +kernel
set_option maxRecDepth 20000 in
theorem ggX7_pairs_X6_hasGroom : GoodIn wsX7_pairs wsX6_hasGroom := goodIn_r _ [7, 8, 111, 112, 113, 114, 115, 116, 117, 118, 119, 120, 121, 122] (by decide +kernel) (by decide +kernel)
set_option maxRecDepth 20000 in
theorem gX7_pairs_X6_hasGroom : GoodIn wsX7_pairs (wsV RX7 92 RX6 yX6_hasGroom wsX6_hasGroom) := goodIn_app (goodIn_of _ (by decide +kernel)) ggX7_pairs_X6_hasGroom
set_option maxRecDepth 20000 in
theorem ggX7_pairs_X7_refuse : GoodIn wsX7_pairs wsX7_refuse := goodIn_r _ [13, 14, 15, 16, 12, 17, 18, 19, 20, 103, 104, 105, 106, 107, 108, 109, 110] (by decide +kernel) (by decide +kernel)
set_option maxRecDepth 20000 in
theorem gX7_pairs_X7_refuse : GoodIn wsX7_pairs (wsV RX7 47 RX7 yX7_refuse wsX7_refuse) := goodIn_app (goodIn_of _ (by decide +kernel)) ggX7_pairs_X7_refuse
set_option maxRecDepth 20000 in
theorem ggX7_pairs_X3_look : GoodIn wsX7_pairs wsX3_look := goodIn_r _ [25, 26, 27, 28, 29, 30, 31, 6, 32, 33, 34, 12, 35, 36, 37, 24, 38, 39, 40, 41, 42, 43, 16, 17, 44, 45, 46, 47, 48, 49, 50, 51, 52, 53, 54, 55, 56, 57, 58, 59, 60, 61, 62, 63, 64, 65, 66, 67, 68, 69, 70, 71, 72, 73, 74, 75, 76, 77, 19, 20, 111, 112, 113, 114, 115, 116, 117, 118, 119, 120, 121, 122, 123, 124] (by decide +kernel) (by decide +kernel)
set_option maxRecDepth 20000 in
theorem gX7_pairs_X3_look : GoodIn wsX7_pairs (wsV RX7 186 RX3 yX3_look wsX3_look) := goodIn_app (goodIn_of _ (by decide +kernel)) ggX7_pairs_X3_look
set_option maxRecDepth 20000 in
theorem ggX7_pairs_X3_most : GoodIn wsX7_pairs wsX3_most := goodIn_r _ [81, 27, 82, 83, 84, 85, 86, 87, 88, 89, 90, 91, 24, 92, 28, 34, 12, 35, 16, 17, 93, 67, 68, 69, 70, 71, 72, 123, 124] (by decide +kernel) (by decide +kernel)
set_option maxRecDepth 20000 in
theorem gX7_pairs_X3_most : GoodIn wsX7_pairs (wsV RX7 189 RX3 yX3_most wsX3_most) := goodIn_app (goodIn_of _ (by decide +kernel)) ggX7_pairs_X3_most
set_option maxRecDepth 20000 in
theorem ggX7_pairs_X3_partnerOf : GoodIn wsX7_pairs wsX3_partnerOf := goodIn_r _ [97, 27, 98, 99, 100, 24, 101, 28, 102, 79, 80, 81, 82, 83, 84, 85, 86, 87, 88, 89, 90, 91, 92, 34, 12, 35, 16, 17, 93, 67, 68, 69, 70, 71, 72, 123, 124] (by decide +kernel) (by decide +kernel)
set_option maxRecDepth 20000 in
theorem gX7_pairs_X3_partnerOf : GoodIn wsX7_pairs (wsV RX7 192 RX3 yX3_partnerOf wsX3_partnerOf) := goodIn_app (goodIn_of _ (by decide +kernel)) ggX7_pairs_X3_partnerOf
theorem dX7_pairs_0 : decode cX7_pairs 0 = .ok (.iload_n 1, 1) := by decide +kernel
theorem dX7_pairs_1 : decode cX7_pairs 1 = .ok (.iconst (-1), 1) := by decide +kernel
theorem dX7_pairs_2 : decode cX7_pairs 2 = .ok (.if_icmp .eq 20, 3) := by decide +kernel
theorem dX7_pairs_5 : decode cX7_pairs 5 = .ok (.aload_n 0, 1) := by decide +kernel
theorem dX7_pairs_6 : decode cX7_pairs 6 = .ok (.getfield 10, 3) := by decide +kernel
theorem dX7_pairs_9 : decode cX7_pairs 9 = .ok (.iload_n 1, 1) := by decide +kernel
theorem dX7_pairs_10 : decode cX7_pairs 10 = .ok (.invokevirtual 92, 3) := by decide +kernel
theorem dX7_pairs_13 : decode cX7_pairs 13 = .ok (.ifCond .ne 9, 3) := by decide +kernel
theorem dX7_pairs_16 : decode cX7_pairs 16 = .ok (.aload_n 0, 1) := by decide +kernel
theorem dX7_pairs_17 : decode cX7_pairs 17 = .ok (.iconst (-1), 1) := by decide +kernel
theorem dX7_pairs_18 : decode cX7_pairs 18 = .ok (.invokevirtual 47, 3) := by decide +kernel
theorem dX7_pairs_21 : decode cX7_pairs 21 = .ok (.ireturn, 1) := by decide +kernel
theorem dX7_pairs_22 : decode cX7_pairs 22 = .ok (.aload_n 0, 1) := by decide +kernel
theorem dX7_pairs_23 : decode cX7_pairs 23 = .ok (.getfield 39, 3) := by decide +kernel
theorem dX7_pairs_26 : decode cX7_pairs 26 = .ok (.aload_n 0, 1) := by decide +kernel
theorem dX7_pairs_27 : decode cX7_pairs 27 = .ok (.getfield 10, 3) := by decide +kernel
theorem dX7_pairs_30 : decode cX7_pairs 30 = .ok (.invokevirtual 186, 3) := by decide +kernel
theorem dX7_pairs_33 : decode cX7_pairs 33 = .ok (.iload_n 1, 1) := by decide +kernel
theorem dX7_pairs_34 : decode cX7_pairs 34 = .ok (.iconst (-1), 1) := by decide +kernel
theorem dX7_pairs_35 : decode cX7_pairs 35 = .ok (.if_icmp .ne 15, 3) := by decide +kernel
theorem dX7_pairs_38 : decode cX7_pairs 38 = .ok (.aload_n 0, 1) := by decide +kernel
theorem dX7_pairs_39 : decode cX7_pairs 39 = .ok (.getfield 39, 3) := by decide +kernel
theorem dX7_pairs_42 : decode cX7_pairs 42 = .ok (.iconst 0, 1) := by decide +kernel
theorem dX7_pairs_43 : decode cX7_pairs 43 = .ok (.iconst 0, 1) := by decide +kernel
theorem dX7_pairs_44 : decode cX7_pairs 44 = .ok (.invokevirtual 189, 3) := by decide +kernel
theorem dX7_pairs_47 : decode cX7_pairs 47 = .ok (.goto 11, 3) := by decide +kernel
theorem dX7_pairs_50 : decode cX7_pairs 50 = .ok (.aload_n 0, 1) := by decide +kernel
theorem dX7_pairs_51 : decode cX7_pairs 51 = .ok (.getfield 39, 3) := by decide +kernel
theorem dX7_pairs_54 : decode cX7_pairs 54 = .ok (.iload_n 1, 1) := by decide +kernel
theorem dX7_pairs_55 : decode cX7_pairs 55 = .ok (.invokevirtual 192, 3) := by decide +kernel
theorem dX7_pairs_58 : decode cX7_pairs 58 = .ok (.ireturn, 1) := by decide +kernel
set_option maxRecDepth 20000 in
theorem ggX7_meant_X6_hasGroom : GoodIn wsX7_meant wsX6_hasGroom := goodIn_r _ [6, 7, 58, 59, 60, 61, 62, 63, 64, 65, 66, 67, 68, 69] (by decide +kernel) (by decide +kernel)
set_option maxRecDepth 20000 in
theorem gX7_meant_X6_hasGroom : GoodIn wsX7_meant (wsV RX7 92 RX6 yX6_hasGroom wsX6_hasGroom) := goodIn_app (goodIn_of _ (by decide +kernel)) ggX7_meant_X6_hasGroom
set_option maxRecDepth 20000 in
theorem ggX7_meant_X7_refuse : GoodIn wsX7_meant wsX7_refuse := goodIn_r _ [12, 13, 14, 15, 11, 16, 17, 18, 19, 50, 51, 52, 53, 54, 55, 56, 57] (by decide +kernel) (by decide +kernel)
set_option maxRecDepth 20000 in
theorem gX7_meant_X7_refuse : GoodIn wsX7_meant (wsV RX7 47 RX7 yX7_refuse wsX7_refuse) := goodIn_app (goodIn_of _ (by decide +kernel)) ggX7_meant_X7_refuse
set_option maxRecDepth 20000 in
theorem ggX7_meant_X7_isNotEither : GoodIn wsX7_meant wsX7_isNotEither := goodIn_r _ [22] (by decide +kernel) (by decide +kernel)
set_option maxRecDepth 20000 in
theorem gX7_meant_X7_isNotEither : GoodIn wsX7_meant (va_wsS RX7 159 yX7_isNotEither wsX7_isNotEither) := goodIn_app (goodIn_of _ (by decide +kernel)) ggX7_meant_X7_isNotEither
set_option maxRecDepth 20000 in
theorem ggX7_meant_X6_nearestTo : GoodIn wsX7_meant wsX6_nearestTo := goodIn_r _ [26, 27, 28, 29, 30, 5, 31, 32, 33, 34, 35, 36, 15, 11, 16, 37, 38, 39, 40, 41, 42, 43, 44, 45, 46, 47, 48, 58, 59, 60, 61, 62, 63, 64, 65, 66, 67, 68, 69] (by decide +kernel) (by decide +kernel)
set_option maxRecDepth 20000 in
theorem gX7_meant_X6_nearestTo : GoodIn wsX7_meant (wsV RX7 195 RX6 yX6_nearestTo wsX6_nearestTo) := goodIn_app (goodIn_of _ (by decide +kernel)) ggX7_meant_X6_nearestTo
set_option maxRecDepth 20000 in
theorem ggX7_meant_X6_toesFromMind : GoodIn wsX7_meant wsX6_toesFromMind := goodIn_r _ [31, 32, 33, 34, 5, 35, 36, 15, 11, 16, 37, 38, 39, 40, 41, 42, 43, 44, 45, 46, 47, 48, 58, 59, 60, 61, 62, 63, 64, 65, 66, 67, 68, 69] (by decide +kernel) (by decide +kernel)
set_option maxRecDepth 20000 in
theorem gX7_meant_X6_toesFromMind : GoodIn wsX7_meant (wsV RX7 198 RX6 yX6_toesFromMind wsX6_toesFromMind) := goodIn_app (goodIn_of _ (by decide +kernel)) ggX7_meant_X6_toesFromMind
theorem dX7_meant_0 : decode cX7_meant 0 = .ok (.aload_n 0, 1) := by decide +kernel
theorem dX7_meant_1 : decode cX7_meant 1 = .ok (.getfield 10, 3) := by decide +kernel
theorem dX7_meant_4 : decode cX7_meant 4 = .ok (.iload_n 1, 1) := by decide +kernel
theorem dX7_meant_5 : decode cX7_meant 5 = .ok (.invokevirtual 92, 3) := by decide +kernel
theorem dX7_meant_8 : decode cX7_meant 8 = .ok (.ifCond .ne 9, 3) := by decide +kernel
theorem dX7_meant_11 : decode cX7_meant 11 = .ok (.aload_n 0, 1) := by decide +kernel
theorem dX7_meant_12 : decode cX7_meant 12 = .ok (.iconst (-1), 1) := by decide +kernel
theorem dX7_meant_13 : decode cX7_meant 13 = .ok (.invokevirtual 47, 3) := by decide +kernel
theorem dX7_meant_16 : decode cX7_meant 16 = .ok (.ireturn, 1) := by decide +kernel
theorem dX7_meant_17 : decode cX7_meant 17 = .ok (.iload_n 2, 1) := by decide +kernel
theorem dX7_meant_18 : decode cX7_meant 18 = .ok (.invokestatic 159, 3) := by decide +kernel
theorem dX7_meant_21 : decode cX7_meant 21 = .ok (.ifCond .eq 10, 3) := by decide +kernel
theorem dX7_meant_24 : decode cX7_meant 24 = .ok (.aload_n 0, 1) := by decide +kernel
theorem dX7_meant_25 : decode cX7_meant 25 = .ok (.bipush (-2), 2) := by decide +kernel
theorem dX7_meant_27 : decode cX7_meant 27 = .ok (.invokevirtual 47, 3) := by decide +kernel
theorem dX7_meant_30 : decode cX7_meant 30 = .ok (.ireturn, 1) := by decide +kernel
theorem dX7_meant_31 : decode cX7_meant 31 = .ok (.aload_n 0, 1) := by decide +kernel
theorem dX7_meant_32 : decode cX7_meant 32 = .ok (.getfield 10, 3) := by decide +kernel
theorem dX7_meant_35 : decode cX7_meant 35 = .ok (.iload_n 1, 1) := by decide +kernel
theorem dX7_meant_36 : decode cX7_meant 36 = .ok (.invokevirtual 195, 3) := by decide +kernel
theorem dX7_meant_39 : decode cX7_meant 39 = .ok (.istore_n 3, 1) := by decide +kernel
theorem dX7_meant_40 : decode cX7_meant 40 = .ok (.iload_n 2, 1) := by decide +kernel
theorem dX7_meant_41 : decode cX7_meant 41 = .ok (.ifCond .eq 9, 3) := by decide +kernel
theorem dX7_meant_44 : decode cX7_meant 44 = .ok (.iload_n 3, 1) := by decide +kernel
theorem dX7_meant_45 : decode cX7_meant 45 = .ok (.bipush (-9), 2) := by decide +kernel
theorem dX7_meant_47 : decode cX7_meant 47 = .ok (.if_icmp .ne 7, 3) := by decide +kernel
theorem dX7_meant_50 : decode cX7_meant 50 = .ok (.iload_n 3, 1) := by decide +kernel
theorem dX7_meant_51 : decode cX7_meant 51 = .ok (.goto 12, 3) := by decide +kernel
theorem dX7_meant_54 : decode cX7_meant 54 = .ok (.aload_n 0, 1) := by decide +kernel
theorem dX7_meant_55 : decode cX7_meant 55 = .ok (.getfield 10, 3) := by decide +kernel
theorem dX7_meant_58 : decode cX7_meant 58 = .ok (.iload_n 1, 1) := by decide +kernel
theorem dX7_meant_59 : decode cX7_meant 59 = .ok (.iload_n 3, 1) := by decide +kernel
theorem dX7_meant_60 : decode cX7_meant 60 = .ok (.invokevirtual 198, 3) := by decide +kernel
theorem dX7_meant_63 : decode cX7_meant 63 = .ok (.ireturn, 1) := by decide +kernel
set_option maxRecDepth 20000 in
theorem ggX7_loses_X6_knows : GoodIn wsX7_loses wsX6_knows := goodIn_r _ [7, 8, 9, 10, 11, 12, 13, 14, 6, 15, 16, 17, 18, 19, 20, 21, 22, 23, 24, 25, 26, 27, 28, 29, 30, 31, 32, 33, 34, 35, 36, 37, 38, 39, 40, 41, 42, 43, 44, 45, 46, 72, 73, 74, 75, 76, 77, 78, 79, 80, 81, 82, 83] (by decide +kernel) (by decide +kernel)
set_option maxRecDepth 20000 in
theorem gX7_loses_X6_knows : GoodIn wsX7_loses (wsV RX7 110 RX6 yX6_knows wsX6_knows) := goodIn_app (goodIn_of _ (by decide +kernel)) ggX7_loses_X6_knows
set_option maxRecDepth 20000 in
theorem ggX7_loses_X6_nearestTo : GoodIn wsX7_loses wsX6_nearestTo := goodIn_r _ [50, 17, 51, 52, 53, 6, 54, 55, 56, 57, 58, 32, 9, 10, 11, 59, 60, 61, 62, 16, 63, 37, 38, 39, 40, 41, 42, 72, 73, 74, 75, 76, 77, 78, 79, 80, 81, 82, 83] (by decide +kernel) (by decide +kernel)
set_option maxRecDepth 20000 in
theorem gX7_loses_X6_nearestTo : GoodIn wsX7_loses (wsV RX7 195 RX6 yX6_nearestTo wsX6_nearestTo) := goodIn_app (goodIn_of _ (by decide +kernel)) ggX7_loses_X6_nearestTo
theorem dX7_loses_0 : decode cX7_loses 0 = .ok (.iconst 0, 1) := by decide +kernel
theorem dX7_loses_1 : decode cX7_loses 1 = .ok (.istore_n 1, 1) := by decide +kernel
theorem dX7_loses_2 : decode cX7_loses 2 = .ok (.iconst 0, 1) := by decide +kernel
theorem dX7_loses_3 : decode cX7_loses 3 = .ok (.istore_n 2, 1) := by decide +kernel
theorem dX7_loses_4 : decode cX7_loses 4 = .ok (.iload_n 2, 1) := by decide +kernel
theorem dX7_loses_5 : decode cX7_loses 5 = .ok (.aload_n 0, 1) := by decide +kernel
theorem dX7_loses_6 : decode cX7_loses 6 = .ok (.getfield 10, 3) := by decide +kernel
theorem dX7_loses_9 : decode cX7_loses 9 = .ok (.getfield 201, 3) := by decide +kernel
theorem dX7_loses_12 : decode cX7_loses 12 = .ok (.if_icmp .ge 43, 3) := by decide +kernel
theorem dX7_loses_15 : decode cX7_loses 15 = .ok (.aload_n 0, 1) := by decide +kernel
theorem dX7_loses_16 : decode cX7_loses 16 = .ok (.getfield 10, 3) := by decide +kernel
theorem dX7_loses_19 : decode cX7_loses 19 = .ok (.iload_n 2, 1) := by decide +kernel
theorem dX7_loses_20 : decode cX7_loses 20 = .ok (.iconst 0, 1) := by decide +kernel
theorem dX7_loses_21 : decode cX7_loses 21 = .ok (.invokevirtual 110, 3) := by decide +kernel
theorem dX7_loses_24 : decode cX7_loses 24 = .ok (.istore_n 3, 1) := by decide +kernel
theorem dX7_loses_25 : decode cX7_loses 25 = .ok (.iload_n 3, 1) := by decide +kernel
theorem dX7_loses_26 : decode cX7_loses 26 = .ok (.bipush (-9), 2) := by decide +kernel
theorem dX7_loses_28 : decode cX7_loses 28 = .ok (.if_icmp .eq 21, 3) := by decide +kernel
theorem dX7_loses_31 : decode cX7_loses 31 = .ok (.iload_n 3, 1) := by decide +kernel
theorem dX7_loses_32 : decode cX7_loses 32 = .ok (.aload_n 0, 1) := by decide +kernel
theorem dX7_loses_33 : decode cX7_loses 33 = .ok (.getfield 10, 3) := by decide +kernel
theorem dX7_loses_36 : decode cX7_loses 36 = .ok (.iload_n 2, 1) := by decide +kernel
theorem dX7_loses_37 : decode cX7_loses 37 = .ok (.invokevirtual 195, 3) := by decide +kernel
theorem dX7_loses_40 : decode cX7_loses 40 = .ok (.if_icmp .ne 9, 3) := by decide +kernel
theorem dX7_loses_43 : decode cX7_loses 43 = .ok (.iload_n 1, 1) := by decide +kernel
theorem dX7_loses_44 : decode cX7_loses 44 = .ok (.iconst 1, 1) := by decide +kernel
theorem dX7_loses_45 : decode cX7_loses 45 = .ok (.iload_n 2, 1) := by decide +kernel
theorem dX7_loses_46 : decode cX7_loses 46 = .ok (.ishl, 1) := by decide +kernel
theorem dX7_loses_47 : decode cX7_loses 47 = .ok (.ior, 1) := by decide +kernel
theorem dX7_loses_48 : decode cX7_loses 48 = .ok (.istore_n 1, 1) := by decide +kernel
theorem dX7_loses_49 : decode cX7_loses 49 = .ok (.iinc 2 1, 3) := by decide +kernel
theorem dX7_loses_52 : decode cX7_loses 52 = .ok (.goto (-48), 3) := by decide +kernel
theorem dX7_loses_55 : decode cX7_loses 55 = .ok (.iload_n 1, 1) := by decide +kernel
theorem dX7_loses_56 : decode cX7_loses 56 = .ok (.ireturn, 1) := by decide +kernel
set_option maxRecDepth 20000 in
theorem ggX7_alike_X1_twos : GoodIn wsX7_alike wsX1_twos := goodIn_r _ [5, 6, 7, 8, 4, 9, 10, 11, 12, 13, 14, 15, 16, 17, 18, 19, 20, 21, 22, 23, 24, 25, 26, 27, 28, 29, 30, 31, 32, 33, 34, 35, 36, 37, 74, 75, 76, 77, 78, 79, 80, 81, 82, 83, 84, 85] (by decide +kernel) (by decide +kernel)
set_option maxRecDepth 20000 in
theorem gX7_alike_X1_twos : GoodIn wsX7_alike (va_wsS RX7 205 yX1_twos wsX1_twos) := goodIn_app (goodIn_of _ (by decide +kernel)) ggX7_alike_X1_twos
set_option maxRecDepth 20000 in
theorem ggX7_alike_X1_firstTwo : GoodIn wsX7_alike wsX1_firstTwo := goodIn_r _ [40, 41, 42, 4, 43, 6, 7, 8, 9, 10, 11, 12, 13, 14, 15, 16, 17, 18, 19, 20, 21, 22, 23, 24, 25, 26, 27, 28, 29, 30, 31, 32, 33, 34, 35, 36, 37, 74, 75, 76, 77, 78, 79, 80, 81, 82, 83, 84, 85] (by decide +kernel) (by decide +kernel)
set_option maxRecDepth 20000 in
theorem gX7_alike_X1_firstTwo : GoodIn wsX7_alike (va_wsS RX7 210 yX1_firstTwo wsX1_firstTwo) := goodIn_app (goodIn_of _ (by decide +kernel)) ggX7_alike_X1_firstTwo
set_option maxRecDepth 20000 in
theorem ggX7_alike_X1_greatest : GoodIn wsX7_alike wsX1_greatest := goodIn_r _ [46, 47, 48, 49, 50, 51, 52, 4, 53, 6, 10, 11, 12, 13, 14, 15, 16, 17, 18, 19, 20, 21, 22, 23, 24, 25, 26, 27, 28, 29, 30, 31, 32, 33, 34, 35, 36, 37, 74, 75, 76, 77, 78, 79, 80, 81, 82, 83, 84, 85] (by decide +kernel) (by decide +kernel)
set_option maxRecDepth 20000 in
theorem gX7_alike_X1_greatest : GoodIn wsX7_alike (va_wsS RX7 213 yX1_greatest wsX1_greatest) := goodIn_app (goodIn_of _ (by decide +kernel)) ggX7_alike_X1_greatest
set_option maxRecDepth 20000 in
theorem ggX7_alike_X1_greatestShown : GoodIn wsX7_alike wsX1_greatestShown := goodIn_r _ [56, 51, 52, 4, 53, 6, 10, 11, 12, 13, 14, 15, 16, 17, 18, 19, 20, 21, 22, 23, 24, 25, 26, 27, 28, 29, 30, 31, 32, 33, 34, 35, 36, 37, 74, 75, 76, 77, 78, 79, 80, 81, 82, 83, 84, 85] (by decide +kernel) (by decide +kernel)
set_option maxRecDepth 20000 in
theorem gX7_alike_X1_greatestShown : GoodIn wsX7_alike (va_wsS RX7 216 yX1_greatestShown wsX1_greatestShown) := goodIn_app (goodIn_of _ (by decide +kernel)) ggX7_alike_X1_greatestShown
set_option maxRecDepth 20000 in
theorem ggX7_alike_X7_refuse : GoodIn wsX7_alike wsX7_refuse := goodIn_r _ [60, 61, 62, 24, 22, 25, 63, 64, 65, 66, 67, 68, 69, 70, 71, 72, 73] (by decide +kernel) (by decide +kernel)
set_option maxRecDepth 20000 in
theorem gX7_alike_X7_refuse : GoodIn wsX7_alike (wsV RX7 47 RX7 yX7_refuse wsX7_refuse) := goodIn_app (goodIn_of _ (by decide +kernel)) ggX7_alike_X7_refuse
theorem dX7_alike_0 : decode cX7_alike 0 = .ok (.iload_n 1, 1) := by decide +kernel
theorem dX7_alike_1 : decode cX7_alike 1 = .ok (.tableswitch 63 0 3 #[31, 39, 47, 55], 31) := by decide +kernel
theorem dX7_alike_32 : decode cX7_alike 32 = .ok (.aload_n 0, 1) := by decide +kernel
theorem dX7_alike_33 : decode cX7_alike 33 = .ok (.getfield 10, 3) := by decide +kernel
theorem dX7_alike_36 : decode cX7_alike 36 = .ok (.invokestatic 205, 3) := by decide +kernel
theorem dX7_alike_39 : decode cX7_alike 39 = .ok (.ireturn, 1) := by decide +kernel
theorem dX7_alike_40 : decode cX7_alike 40 = .ok (.aload_n 0, 1) := by decide +kernel
theorem dX7_alike_41 : decode cX7_alike 41 = .ok (.getfield 10, 3) := by decide +kernel
theorem dX7_alike_44 : decode cX7_alike 44 = .ok (.invokestatic 210, 3) := by decide +kernel
theorem dX7_alike_47 : decode cX7_alike 47 = .ok (.ireturn, 1) := by decide +kernel
theorem dX7_alike_48 : decode cX7_alike 48 = .ok (.aload_n 0, 1) := by decide +kernel
theorem dX7_alike_49 : decode cX7_alike 49 = .ok (.getfield 10, 3) := by decide +kernel
theorem dX7_alike_52 : decode cX7_alike 52 = .ok (.invokestatic 213, 3) := by decide +kernel
theorem dX7_alike_55 : decode cX7_alike 55 = .ok (.ireturn, 1) := by decide +kernel
theorem dX7_alike_56 : decode cX7_alike 56 = .ok (.aload_n 0, 1) := by decide +kernel
theorem dX7_alike_57 : decode cX7_alike 57 = .ok (.getfield 10, 3) := by decide +kernel
theorem dX7_alike_60 : decode cX7_alike 60 = .ok (.invokestatic 216, 3) := by decide +kernel
theorem dX7_alike_63 : decode cX7_alike 63 = .ok (.ireturn, 1) := by decide +kernel
theorem dX7_alike_64 : decode cX7_alike 64 = .ok (.aload_n 0, 1) := by decide +kernel
theorem dX7_alike_65 : decode cX7_alike 65 = .ok (.bipush (-2), 2) := by decide +kernel
theorem dX7_alike_67 : decode cX7_alike 67 = .ok (.invokevirtual 47, 3) := by decide +kernel
theorem dX7_alike_70 : decode cX7_alike 70 = .ok (.ireturn, 1) := by decide +kernel
set_option maxRecDepth 20000 in
theorem ggX7_tells_X1_tellingToe : GoodIn wsX7_tells wsX1_tellingToe := goodIn_r _ [5, 6, 7, 4, 8, 9, 10, 11, 12, 13, 14, 15, 16, 17, 18, 19, 20, 21, 22, 23, 24, 25, 26, 27, 28, 29, 30, 31, 32, 33, 34, 35, 36, 37, 38, 39, 40, 41, 50, 51, 52, 53, 54, 55, 56, 57, 58, 59, 60, 61] (by decide +kernel) (by decide +kernel)
set_option maxRecDepth 20000 in
theorem gX7_tells_X1_tellingToe : GoodIn wsX7_tells (va_wsS RX7 219 yX1_tellingToe wsX1_tellingToe) := goodIn_app (goodIn_of _ (by decide +kernel)) ggX7_tells_X1_tellingToe
theorem dX7_tells_0 : decode cX7_tells 0 = .ok (.aload_n 0, 1) := by decide +kernel
theorem dX7_tells_1 : decode cX7_tells 1 = .ok (.getfield 10, 3) := by decide +kernel
theorem dX7_tells_4 : decode cX7_tells 4 = .ok (.invokestatic 219, 3) := by decide +kernel
theorem dX7_tells_7 : decode cX7_tells 7 = .ok (.ireturn, 1) := by decide +kernel
set_option maxRecDepth 20000 in
theorem ggX7_sees_X1_fewestLooks : GoodIn wsX7_sees wsX1_fewestLooks := goodIn_r _ [5, 6, 7, 4, 8, 9, 10, 11, 12, 13, 14, 15, 16, 17, 18, 19, 20, 21, 22, 23, 24, 25, 26, 27, 28, 29, 30, 31, 32, 33, 34, 35, 36, 37, 38, 39, 40, 49, 50, 51, 52, 53, 54, 55, 56, 57, 58, 59, 60] (by decide +kernel) (by decide +kernel)
set_option maxRecDepth 20000 in
theorem gX7_sees_X1_fewestLooks : GoodIn wsX7_sees (va_wsS RX7 222 yX1_fewestLooks wsX1_fewestLooks) := goodIn_app (goodIn_of _ (by decide +kernel)) ggX7_sees_X1_fewestLooks
theorem dX7_sees_0 : decode cX7_sees 0 = .ok (.aload_n 0, 1) := by decide +kernel
theorem dX7_sees_1 : decode cX7_sees 1 = .ok (.getfield 10, 3) := by decide +kernel
theorem dX7_sees_4 : decode cX7_sees 4 = .ok (.invokestatic 222, 3) := by decide +kernel
theorem dX7_sees_7 : decode cX7_sees 7 = .ok (.ireturn, 1) := by decide +kernel
set_option maxRecDepth 20000 in
theorem ggX7_order_X7_isNotEither : GoodIn wsX7_order wsX7_isNotEither := goodIn_r _ [6] (by decide +kernel) (by decide +kernel)
set_option maxRecDepth 20000 in
theorem gX7_order_X7_isNotEither : GoodIn wsX7_order (va_wsS RX7 159 yX7_isNotEither wsX7_isNotEither) := goodIn_app (goodIn_of _ (by decide +kernel)) ggX7_order_X7_isNotEither
set_option maxRecDepth 20000 in
theorem ggX7_order_X7_refuse : GoodIn wsX7_order wsX7_refuse := goodIn_r _ [10, 11, 12, 13, 5, 14, 15, 16, 17, 92, 93, 94, 95, 96, 97, 98, 99] (by decide +kernel) (by decide +kernel)
set_option maxRecDepth 20000 in
theorem gX7_order_X7_refuse : GoodIn wsX7_order (wsV RX7 47 RX7 yX7_refuse wsX7_refuse) := goodIn_app (goodIn_of _ (by decide +kernel)) ggX7_order_X7_refuse
set_option maxRecDepth 20000 in
theorem ggX7_order_X6_become : GoodIn wsX7_order wsX6_become := goodIn_r _ [22, 23, 24, 25, 26, 27, 28, 29, 30, 31, 32, 33, 34, 35, 5, 36, 100, 101, 102, 103, 104, 105, 106, 107, 108, 109, 110, 111] (by decide +kernel) (by decide +kernel)
set_option maxRecDepth 20000 in
theorem gX7_order_X6_become : GoodIn wsX7_order (wsV RX7 58 RX6 yX6_become wsX6_become) := goodIn_app (goodIn_of _ (by decide +kernel)) ggX7_order_X6_become
set_option maxRecDepth 20000 in
theorem ggX7_order_X6_wedAll : GoodIn wsX7_order wsX6_wedAll := goodIn_r _ [40, 30, 41, 42, 43, 21, 44, 45, 46, 47, 48, 49, 50, 51, 52, 34, 53, 5, 54, 55, 56, 57, 58, 24, 29, 28, 13, 14, 59, 60, 61, 62, 33, 31, 63, 64, 65, 66, 32, 25, 26, 67, 68, 69, 70, 27, 23, 71, 72, 73, 74, 75, 76, 77, 78, 79, 80, 81, 82, 83, 16, 17, 84, 85, 86, 87, 88, 89, 90, 91, 100, 101, 102, 103, 104, 105, 106, 107, 108, 109, 110, 111] (by decide +kernel) (by decide +kernel)
set_option maxRecDepth 20000 in
theorem gX7_order_X6_wedAll : GoodIn wsX7_order (wsV RX7 225 RX6 yX6_wedAll wsX6_wedAll) := goodIn_app (goodIn_of _ (by decide +kernel)) ggX7_order_X6_wedAll
theorem dX7_order_0 : decode cX7_order 0 = .ok (.iload_n 1, 1) := by decide +kernel
theorem dX7_order_1 : decode cX7_order 1 = .ok (.invokestatic 159, 3) := by decide +kernel
theorem dX7_order_4 : decode cX7_order 4 = .ok (.ifCond .eq 10, 3) := by decide +kernel
theorem dX7_order_7 : decode cX7_order 7 = .ok (.aload_n 0, 1) := by decide +kernel
theorem dX7_order_8 : decode cX7_order 8 = .ok (.bipush (-2), 2) := by decide +kernel
theorem dX7_order_10 : decode cX7_order 10 = .ok (.invokevirtual 47, 3) := by decide +kernel
theorem dX7_order_13 : decode cX7_order 13 = .ok (.ireturn, 1) := by decide +kernel
theorem dX7_order_14 : decode cX7_order 14 = .ok (.aload_n 0, 1) := by decide +kernel
theorem dX7_order_15 : decode cX7_order 15 = .ok (.getfield 16, 3) := by decide +kernel
theorem dX7_order_18 : decode cX7_order 18 = .ok (.aload_n 0, 1) := by decide +kernel
theorem dX7_order_19 : decode cX7_order 19 = .ok (.getfield 10, 3) := by decide +kernel
theorem dX7_order_22 : decode cX7_order 22 = .ok (.invokevirtual 58, 3) := by decide +kernel
theorem dX7_order_25 : decode cX7_order 25 = .ok (.aload_n 0, 1) := by decide +kernel
theorem dX7_order_26 : decode cX7_order 26 = .ok (.getfield 16, 3) := by decide +kernel
theorem dX7_order_29 : decode cX7_order 29 = .ok (.iload_n 1, 1) := by decide +kernel
theorem dX7_order_30 : decode cX7_order 30 = .ok (.invokevirtual 225, 3) := by decide +kernel
theorem dX7_order_33 : decode cX7_order 33 = .ok (.ireturn, 1) := by decide +kernel
set_option maxRecDepth 20000 in
theorem ggX7_lies_X6_isHere : GoodIn wsX7_lies wsX6_isHere := goodIn_r _ [7, 8, 9, 10, 6, 11, 12, 13, 14, 15, 16, 17, 18, 50, 51, 52, 53, 54, 55, 56, 57, 58, 59, 60, 61] (by decide +kernel) (by decide +kernel)
set_option maxRecDepth 20000 in
theorem gX7_lies_X6_isHere : GoodIn wsX7_lies (wsV RX7 169 RX6 yX6_isHere wsX6_isHere) := goodIn_app (goodIn_of _ (by decide +kernel)) ggX7_lies_X6_isHere
set_option maxRecDepth 20000 in
theorem ggX7_lies_X6_shows : GoodIn wsX7_lies wsX6_shows := goodIn_r _ [22, 23, 24, 17, 15, 18, 25, 26, 27, 6, 28, 29, 30, 50, 51, 52, 53, 54, 55, 56, 57, 58, 59, 60, 61] (by decide +kernel) (by decide +kernel)
set_option maxRecDepth 20000 in
theorem gX7_lies_X6_shows : GoodIn wsX7_lies (wsV RX7 82 RX6 yX6_shows wsX6_shows) := goodIn_app (goodIn_of _ (by decide +kernel)) ggX7_lies_X6_shows
set_option maxRecDepth 20000 in
theorem ggX7_lies_X6_footOf : GoodIn wsX7_lies wsX6_footOf := goodIn_r _ [34, 29, 17, 15, 18, 50, 51, 52, 53, 54, 55, 56, 57, 58, 59, 60, 61] (by decide +kernel) (by decide +kernel)
set_option maxRecDepth 20000 in
theorem gX7_lies_X6_footOf : GoodIn wsX7_lies (wsV RX7 79 RX6 yX6_footOf wsX6_footOf) := goodIn_app (goodIn_of _ (by decide +kernel)) ggX7_lies_X6_footOf
set_option maxRecDepth 20000 in
theorem ggX7_lies_J6_bitCount_0f7a4 : GoodIn wsX7_lies wsJ6_bitCount_0f7a4 := goodIn_r _ [38, 39, 40, 41] (by decide +kernel) (by decide +kernel)
set_option maxRecDepth 20000 in
theorem gX7_lies_J6_bitCount_0f7a4 : GoodIn wsX7_lies (va_wsS RX7 154 yJ6_bitCount_0f7a4 wsJ6_bitCount_0f7a4) := goodIn_app (goodIn_of _ (by decide +kernel)) ggX7_lies_J6_bitCount_0f7a4
theorem dX7_lies_0 : decode cX7_lies 0 = .ok (.iconst 0, 1) := by decide +kernel
theorem dX7_lies_1 : decode cX7_lies 1 = .ok (.istore_n 1, 1) := by decide +kernel
theorem dX7_lies_2 : decode cX7_lies 2 = .ok (.iconst 0, 1) := by decide +kernel
theorem dX7_lies_3 : decode cX7_lies 3 = .ok (.istore_n 2, 1) := by decide +kernel
theorem dX7_lies_4 : decode cX7_lies 4 = .ok (.iload_n 2, 1) := by decide +kernel
theorem dX7_lies_5 : decode cX7_lies 5 = .ok (.aload_n 0, 1) := by decide +kernel
theorem dX7_lies_6 : decode cX7_lies 6 = .ok (.getfield 10, 3) := by decide +kernel
theorem dX7_lies_9 : decode cX7_lies 9 = .ok (.getfield 228, 3) := by decide +kernel
theorem dX7_lies_12 : decode cX7_lies 12 = .ok (.if_icmp .ge 44, 3) := by decide +kernel
theorem dX7_lies_15 : decode cX7_lies 15 = .ok (.aload_n 0, 1) := by decide +kernel
theorem dX7_lies_16 : decode cX7_lies 16 = .ok (.getfield 10, 3) := by decide +kernel
theorem dX7_lies_19 : decode cX7_lies 19 = .ok (.iload_n 2, 1) := by decide +kernel
theorem dX7_lies_20 : decode cX7_lies 20 = .ok (.invokevirtual 169, 3) := by decide +kernel
theorem dX7_lies_23 : decode cX7_lies 23 = .ok (.ifCond .eq 27, 3) := by decide +kernel
theorem dX7_lies_26 : decode cX7_lies 26 = .ok (.iload_n 1, 1) := by decide +kernel
theorem dX7_lies_27 : decode cX7_lies 27 = .ok (.aload_n 0, 1) := by decide +kernel
theorem dX7_lies_28 : decode cX7_lies 28 = .ok (.getfield 10, 3) := by decide +kernel
theorem dX7_lies_31 : decode cX7_lies 31 = .ok (.iload_n 2, 1) := by decide +kernel
theorem dX7_lies_32 : decode cX7_lies 32 = .ok (.iconst 0, 1) := by decide +kernel
theorem dX7_lies_33 : decode cX7_lies 33 = .ok (.invokevirtual 82, 3) := by decide +kernel
theorem dX7_lies_36 : decode cX7_lies 36 = .ok (.aload_n 0, 1) := by decide +kernel
theorem dX7_lies_37 : decode cX7_lies 37 = .ok (.getfield 10, 3) := by decide +kernel
theorem dX7_lies_40 : decode cX7_lies 40 = .ok (.iload_n 2, 1) := by decide +kernel
theorem dX7_lies_41 : decode cX7_lies 41 = .ok (.invokevirtual 79, 3) := by decide +kernel
theorem dX7_lies_44 : decode cX7_lies 44 = .ok (.ixor, 1) := by decide +kernel
theorem dX7_lies_45 : decode cX7_lies 45 = .ok (.invokestatic 154, 3) := by decide +kernel
theorem dX7_lies_48 : decode cX7_lies 48 = .ok (.iadd, 1) := by decide +kernel
theorem dX7_lies_49 : decode cX7_lies 49 = .ok (.istore_n 1, 1) := by decide +kernel
theorem dX7_lies_50 : decode cX7_lies 50 = .ok (.iinc 2 1, 3) := by decide +kernel
theorem dX7_lies_53 : decode cX7_lies 53 = .ok (.goto (-49), 3) := by decide +kernel
theorem dX7_lies_56 : decode cX7_lies 56 = .ok (.iload_n 1, 1) := by decide +kernel
theorem dX7_lies_57 : decode cX7_lies 57 = .ok (.ireturn, 1) := by decide +kernel
set_option maxRecDepth 20000 in
theorem ggX7_rightly_X6_hasBride : GoodIn wsX7_rightly wsX6_hasBride := goodIn_r _ [7, 8, 43, 44, 45, 46, 47, 48, 49, 50, 51, 52, 53, 54] (by decide +kernel) (by decide +kernel)
set_option maxRecDepth 20000 in
theorem gX7_rightly_X6_hasBride : GoodIn wsX7_rightly (wsV RX7 69 RX6 yX6_hasBride wsX6_hasBride) := goodIn_app (goodIn_of _ (by decide +kernel)) ggX7_rightly_X6_hasBride
set_option maxRecDepth 20000 in
theorem ggX7_rightly_X7_refuse : GoodIn wsX7_rightly wsX7_refuse := goodIn_r _ [13, 14, 15, 16, 12, 17, 18, 19, 20, 35, 36, 37, 38, 39, 40, 41, 42] (by decide +kernel) (by decide +kernel)
set_option maxRecDepth 20000 in
theorem gX7_rightly_X7_refuse : GoodIn wsX7_rightly (wsV RX7 47 RX7 yX7_refuse wsX7_refuse) := goodIn_app (goodIn_of _ (by decide +kernel)) ggX7_rightly_X7_refuse
set_option maxRecDepth 20000 in
theorem ggX7_rightly_X6_footOf : GoodIn wsX7_rightly wsX6_footOf := goodIn_r _ [24, 25, 16, 12, 17, 43, 44, 45, 46, 47, 48, 49, 50, 51, 52, 53, 54] (by decide +kernel) (by decide +kernel)
set_option maxRecDepth 20000 in
theorem gX7_rightly_X6_footOf : GoodIn wsX7_rightly (wsV RX7 79 RX6 yX6_footOf wsX6_footOf) := goodIn_app (goodIn_of _ (by decide +kernel)) ggX7_rightly_X6_footOf
set_option maxRecDepth 20000 in
theorem ggX7_rightly_X4_howManyToesOf : GoodIn wsX7_rightly wsX4_howManyToesOf := goodIn_r _ [30, 31, 32, 16, 12, 17, 33, 34, 55, 56] (by decide +kernel) (by decide +kernel)
set_option maxRecDepth 20000 in
theorem gX7_rightly_X4_howManyToesOf : GoodIn wsX7_rightly (wsV RX7 231 RX4 yX4_howManyToesOf wsX4_howManyToesOf) := goodIn_app (goodIn_of _ (by decide +kernel)) ggX7_rightly_X4_howManyToesOf
theorem dX7_rightly_0 : decode cX7_rightly 0 = .ok (.aload_n 0, 1) := by decide +kernel
theorem dX7_rightly_1 : decode cX7_rightly 1 = .ok (.getfield 10, 3) := by decide +kernel
theorem dX7_rightly_4 : decode cX7_rightly 4 = .ok (.iload_n 1, 1) := by decide +kernel
theorem dX7_rightly_5 : decode cX7_rightly 5 = .ok (.invokevirtual 69, 3) := by decide +kernel
theorem dX7_rightly_8 : decode cX7_rightly 8 = .ok (.ifCond .ne 9, 3) := by decide +kernel
theorem dX7_rightly_11 : decode cX7_rightly 11 = .ok (.aload_n 0, 1) := by decide +kernel
theorem dX7_rightly_12 : decode cX7_rightly 12 = .ok (.iconst (-1), 1) := by decide +kernel
theorem dX7_rightly_13 : decode cX7_rightly 13 = .ok (.invokevirtual 47, 3) := by decide +kernel
theorem dX7_rightly_16 : decode cX7_rightly 16 = .ok (.ireturn, 1) := by decide +kernel
theorem dX7_rightly_17 : decode cX7_rightly 17 = .ok (.aload_n 0, 1) := by decide +kernel
theorem dX7_rightly_18 : decode cX7_rightly 18 = .ok (.getfield 32, 3) := by decide +kernel
theorem dX7_rightly_21 : decode cX7_rightly 21 = .ok (.aload_n 0, 1) := by decide +kernel
theorem dX7_rightly_22 : decode cX7_rightly 22 = .ok (.getfield 10, 3) := by decide +kernel
theorem dX7_rightly_25 : decode cX7_rightly 25 = .ok (.iload_n 1, 1) := by decide +kernel
theorem dX7_rightly_26 : decode cX7_rightly 26 = .ok (.invokevirtual 79, 3) := by decide +kernel
theorem dX7_rightly_29 : decode cX7_rightly 29 = .ok (.invokevirtual 231, 3) := by decide +kernel
theorem dX7_rightly_32 : decode cX7_rightly 32 = .ok (.ireturn, 1) := by decide +kernel
set_option maxRecDepth 20000 in
theorem ggX7_two_X6_hasBride : GoodIn wsX7_two wsX6_hasBride := goodIn_r _ [7, 8, 108, 109, 110, 111, 112, 113, 114, 115, 116, 117, 118, 119] (by decide +kernel) (by decide +kernel)
set_option maxRecDepth 20000 in
theorem gX7_two_X6_hasBride : GoodIn wsX7_two (wsV RX7 69 RX6 yX6_hasBride wsX6_hasBride) := goodIn_app (goodIn_of _ (by decide +kernel)) ggX7_two_X6_hasBride
set_option maxRecDepth 20000 in
theorem ggX7_two_X7_refuse : GoodIn wsX7_two wsX7_refuse := goodIn_r _ [13, 14, 15, 16, 12, 17, 18, 19, 20, 100, 101, 102, 103, 104, 105, 106, 107] (by decide +kernel) (by decide +kernel)
set_option maxRecDepth 20000 in
theorem gX7_two_X7_refuse : GoodIn wsX7_two (wsV RX7 47 RX7 yX7_refuse wsX7_refuse) := goodIn_app (goodIn_of _ (by decide +kernel)) ggX7_two_X7_refuse
set_option maxRecDepth 20000 in
theorem ggX7_two_X6_isHere : GoodIn wsX7_two wsX6_isHere := goodIn_r _ [24, 25, 26, 27, 6, 28, 29, 30, 31, 12, 32, 16, 17, 108, 109, 110, 111, 112, 113, 114, 115, 116, 117, 118, 119] (by decide +kernel) (by decide +kernel)
set_option maxRecDepth 20000 in
theorem gX7_two_X6_isHere : GoodIn wsX7_two (wsV RX7 169 RX6 yX6_isHere wsX6_isHere) := goodIn_app (goodIn_of _ (by decide +kernel)) ggX7_two_X6_isHere
set_option maxRecDepth 20000 in
theorem ggX7_two_X0_firstRest : GoodIn wsX7_two wsX0_firstRest := goodIn_r _ [36, 37, 38, 35, 39, 40, 41, 42, 6, 43, 44, 8, 45, 46, 47, 30, 29, 48, 49, 50, 51, 52, 53, 12, 54, 55, 56, 57, 58, 59, 60, 61, 62, 16, 17, 19, 20, 63, 64, 65, 66, 67, 68, 69, 70, 31, 32, 71, 72, 73, 74, 75, 76, 77, 78, 79, 80, 81, 82, 83, 84, 85, 86, 87, 88, 89, 90, 91, 92, 93, 94, 95, 96, 97, 98, 99, 108, 109, 110, 111, 112, 113, 114, 115, 116, 117, 118, 119] (by decide +kernel) (by decide +kernel)
set_option maxRecDepth 20000 in
theorem gX7_two_X0_firstRest : GoodIn wsX7_two (va_wsS RX7 234 yX0_firstRest wsX0_firstRest) := goodIn_app (goodIn_of _ (by decide +kernel)) ggX7_two_X0_firstRest
theorem dX7_two_0 : decode cX7_two 0 = .ok (.aload_n 0, 1) := by decide +kernel
theorem dX7_two_1 : decode cX7_two 1 = .ok (.getfield 10, 3) := by decide +kernel
theorem dX7_two_4 : decode cX7_two 4 = .ok (.iload_n 1, 1) := by decide +kernel
theorem dX7_two_5 : decode cX7_two 5 = .ok (.invokevirtual 69, 3) := by decide +kernel
theorem dX7_two_8 : decode cX7_two 8 = .ok (.ifCond .eq 19, 3) := by decide +kernel
theorem dX7_two_11 : decode cX7_two 11 = .ok (.aload_n 0, 1) := by decide +kernel
theorem dX7_two_12 : decode cX7_two 12 = .ok (.getfield 10, 3) := by decide +kernel
theorem dX7_two_15 : decode cX7_two 15 = .ok (.iload_n 2, 1) := by decide +kernel
theorem dX7_two_16 : decode cX7_two 16 = .ok (.invokevirtual 69, 3) := by decide +kernel
theorem dX7_two_19 : decode cX7_two 19 = .ok (.ifCond .eq 8, 3) := by decide +kernel
theorem dX7_two_22 : decode cX7_two 22 = .ok (.iload_n 1, 1) := by decide +kernel
theorem dX7_two_23 : decode cX7_two 23 = .ok (.iload_n 2, 1) := by decide +kernel
theorem dX7_two_24 : decode cX7_two 24 = .ok (.if_icmp .ne 9, 3) := by decide +kernel
theorem dX7_two_27 : decode cX7_two 27 = .ok (.aload_n 0, 1) := by decide +kernel
theorem dX7_two_28 : decode cX7_two 28 = .ok (.iconst (-1), 1) := by decide +kernel
theorem dX7_two_29 : decode cX7_two 29 = .ok (.invokevirtual 47, 3) := by decide +kernel
theorem dX7_two_32 : decode cX7_two 32 = .ok (.ireturn, 1) := by decide +kernel
theorem dX7_two_33 : decode cX7_two 33 = .ok (.aload_n 0, 1) := by decide +kernel
theorem dX7_two_34 : decode cX7_two 34 = .ok (.getfield 10, 3) := by decide +kernel
theorem dX7_two_37 : decode cX7_two 37 = .ok (.iload_n 1, 1) := by decide +kernel
theorem dX7_two_38 : decode cX7_two 38 = .ok (.invokevirtual 169, 3) := by decide +kernel
theorem dX7_two_41 : decode cX7_two 41 = .ok (.ifCond .eq 14, 3) := by decide +kernel
theorem dX7_two_44 : decode cX7_two 44 = .ok (.aload_n 0, 1) := by decide +kernel
theorem dX7_two_45 : decode cX7_two 45 = .ok (.getfield 10, 3) := by decide +kernel
theorem dX7_two_48 : decode cX7_two 48 = .ok (.iload_n 2, 1) := by decide +kernel
theorem dX7_two_49 : decode cX7_two 49 = .ok (.invokevirtual 169, 3) := by decide +kernel
theorem dX7_two_52 : decode cX7_two 52 = .ok (.ifCond .ne 10, 3) := by decide +kernel
theorem dX7_two_55 : decode cX7_two 55 = .ok (.aload_n 0, 1) := by decide +kernel
theorem dX7_two_56 : decode cX7_two 56 = .ok (.bipush (-3), 2) := by decide +kernel
theorem dX7_two_58 : decode cX7_two 58 = .ok (.invokevirtual 47, 3) := by decide +kernel
theorem dX7_two_61 : decode cX7_two 61 = .ok (.ireturn, 1) := by decide +kernel
theorem dX7_two_62 : decode cX7_two 62 = .ok (.aload_n 0, 1) := by decide +kernel
theorem dX7_two_63 : decode cX7_two 63 = .ok (.getfield 10, 3) := by decide +kernel
theorem dX7_two_66 : decode cX7_two 66 = .ok (.aload_n 0, 1) := by decide +kernel
theorem dX7_two_67 : decode cX7_two 67 = .ok (.getfield 16, 3) := by decide +kernel
theorem dX7_two_70 : decode cX7_two 70 = .ok (.iload_n 1, 1) := by decide +kernel
theorem dX7_two_71 : decode cX7_two 71 = .ok (.iload_n 2, 1) := by decide +kernel
theorem dX7_two_72 : decode cX7_two 72 = .ok (.invokestatic 234, 3) := by decide +kernel
theorem dX7_two_75 : decode cX7_two 75 = .ok (.ireturn, 1) := by decide +kernel
set_option maxRecDepth 20000 in
theorem ggX7_chance_X6_hasBride : GoodIn wsX7_chance wsX6_hasBride := goodIn_r _ [6, 7, 103, 104, 105, 106, 107, 108, 109, 110, 111, 112, 113, 114] (by decide +kernel) (by decide +kernel)
set_option maxRecDepth 20000 in
theorem gX7_chance_X6_hasBride : GoodIn wsX7_chance (wsV RX7 69 RX6 yX6_hasBride wsX6_hasBride) := goodIn_app (goodIn_of _ (by decide +kernel)) ggX7_chance_X6_hasBride
set_option maxRecDepth 20000 in
theorem ggX7_chance_X7_refusalOf : GoodIn wsX7_chance wsX7_refusalOf := goodIn_r _ [11, 12, 13, 10, 14] (by decide +kernel) (by decide +kernel)
set_option maxRecDepth 20000 in
theorem gX7_chance_X7_refusalOf : GoodIn wsX7_chance (va_wsS RX7 123 yX7_refusalOf wsX7_refusalOf) := goodIn_app (goodIn_of _ (by decide +kernel)) ggX7_chance_X7_refusalOf
set_option maxRecDepth 20000 in
theorem ggX7_chance_X7_refuseLong : GoodIn wsX7_chance wsX7_refuseLong := goodIn_r _ [18, 19, 20, 21, 22, 10, 23, 24, 25, 26, 27, 28, 29, 30, 95, 96, 97, 98, 99, 100, 101, 102] (by decide +kernel) (by decide +kernel)
set_option maxRecDepth 20000 in
theorem gX7_chance_X7_refuseLong : GoodIn wsX7_chance (wsV RX7 238 RX7 yX7_refuseLong wsX7_refuseLong) := goodIn_app (goodIn_of _ (by decide +kernel)) ggX7_chance_X7_refuseLong
set_option maxRecDepth 20000 in
theorem ggX7_chance_X7_isNotEither : GoodIn wsX7_chance wsX7_isNotEither := goodIn_r _ [33] (by decide +kernel) (by decide +kernel)
set_option maxRecDepth 20000 in
theorem gX7_chance_X7_isNotEither : GoodIn wsX7_chance (va_wsS RX7 159 yX7_isNotEither wsX7_isNotEither) := goodIn_app (goodIn_of _ (by decide +kernel)) ggX7_chance_X7_isNotEither
set_option maxRecDepth 20000 in
theorem ggX7_chance_X2_ofTaking : GoodIn wsX7_chance wsX2_ofTaking := goodIn_r _ [37, 38, 39, 40, 41, 42, 43, 44, 45, 5, 46, 47, 48, 10, 49, 50, 51, 52, 53, 54, 55, 56, 57, 58, 26, 27, 59, 60, 61, 62, 63, 7, 64, 65, 66, 67, 68, 69, 70, 71, 72, 73, 74, 75, 76, 77, 78, 79, 80, 81, 82, 83, 84, 85, 86, 87, 88, 89, 90, 36, 91, 92, 93, 94, 103, 104, 105, 106, 107, 108, 109, 110, 111, 112, 113, 114] (by decide +kernel) (by decide +kernel)
set_option maxRecDepth 20000 in
theorem gX7_chance_X2_ofTaking : GoodIn wsX7_chance (va_wsS RX7 242 yX2_ofTaking wsX2_ofTaking) := goodIn_app (goodIn_of _ (by decide +kernel)) ggX7_chance_X2_ofTaking
theorem dX7_chance_0 : decode cX7_chance 0 = .ok (.aload_n 0, 1) := by decide +kernel
theorem dX7_chance_1 : decode cX7_chance 1 = .ok (.getfield 10, 3) := by decide +kernel
theorem dX7_chance_4 : decode cX7_chance 4 = .ok (.iload_n 1, 1) := by decide +kernel
theorem dX7_chance_5 : decode cX7_chance 5 = .ok (.invokevirtual 69, 3) := by decide +kernel
theorem dX7_chance_8 : decode cX7_chance 8 = .ok (.iload_n 2, 1) := by decide +kernel
theorem dX7_chance_9 : decode cX7_chance 9 = .ok (.iconst 0, 1) := by decide +kernel
theorem dX7_chance_10 : decode cX7_chance 10 = .ok (.iconst 4, 1) := by decide +kernel
theorem dX7_chance_11 : decode cX7_chance 11 = .ok (.invokestatic 123, 3) := by decide +kernel
theorem dX7_chance_14 : decode cX7_chance 14 = .ok (.istore 4, 2) := by decide +kernel
theorem dX7_chance_16 : decode cX7_chance 16 = .ok (.iload 4, 2) := by decide +kernel
theorem dX7_chance_18 : decode cX7_chance 18 = .ok (.ifCond .eq 10, 3) := by decide +kernel
theorem dX7_chance_21 : decode cX7_chance 21 = .ok (.aload_n 0, 1) := by decide +kernel
theorem dX7_chance_22 : decode cX7_chance 22 = .ok (.iload 4, 2) := by decide +kernel
theorem dX7_chance_24 : decode cX7_chance 24 = .ok (.invokevirtual 238, 3) := by decide +kernel
theorem dX7_chance_27 : decode cX7_chance 27 = .ok (.lreturn, 1) := by decide +kernel
theorem dX7_chance_28 : decode cX7_chance 28 = .ok (.iload_n 3, 1) := by decide +kernel
theorem dX7_chance_29 : decode cX7_chance 29 = .ok (.invokestatic 159, 3) := by decide +kernel
theorem dX7_chance_32 : decode cX7_chance 32 = .ok (.ifCond .eq 10, 3) := by decide +kernel
theorem dX7_chance_35 : decode cX7_chance 35 = .ok (.aload_n 0, 1) := by decide +kernel
theorem dX7_chance_36 : decode cX7_chance 36 = .ok (.bipush (-2), 2) := by decide +kernel
theorem dX7_chance_38 : decode cX7_chance 38 = .ok (.invokevirtual 238, 3) := by decide +kernel
theorem dX7_chance_41 : decode cX7_chance 41 = .ok (.lreturn, 1) := by decide +kernel
theorem dX7_chance_42 : decode cX7_chance 42 = .ok (.aload_n 0, 1) := by decide +kernel
theorem dX7_chance_43 : decode cX7_chance 43 = .ok (.getfield 10, 3) := by decide +kernel
theorem dX7_chance_46 : decode cX7_chance 46 = .ok (.iload_n 1, 1) := by decide +kernel
theorem dX7_chance_47 : decode cX7_chance 47 = .ok (.iload_n 2, 1) := by decide +kernel
theorem dX7_chance_48 : decode cX7_chance 48 = .ok (.iload_n 3, 1) := by decide +kernel
theorem dX7_chance_49 : decode cX7_chance 49 = .ok (.invokestatic 242, 3) := by decide +kernel
theorem dX7_chance_52 : decode cX7_chance 52 = .ok (.lreturn, 1) := by decide +kernel
set_option maxRecDepth 20000 in
theorem ggX7_mean_X7_isNotEither : GoodIn wsX7_mean wsX7_isNotEither := goodIn_r _ [5] (by decide +kernel) (by decide +kernel)
set_option maxRecDepth 20000 in
theorem gX7_mean_X7_isNotEither : GoodIn wsX7_mean (va_wsS RX7 159 yX7_isNotEither wsX7_isNotEither) := goodIn_app (goodIn_of _ (by decide +kernel)) ggX7_mean_X7_isNotEither
set_option maxRecDepth 20000 in
theorem ggX7_mean_X7_refuseLong : GoodIn wsX7_mean wsX7_refuseLong := goodIn_r _ [9, 10, 11, 12, 13, 4, 14, 15, 16, 17, 18, 19, 20, 21, 50, 51, 52, 53, 54, 55, 56, 57] (by decide +kernel) (by decide +kernel)
set_option maxRecDepth 20000 in
theorem gX7_mean_X7_refuseLong : GoodIn wsX7_mean (wsV RX7 238 RX7 yX7_refuseLong wsX7_refuseLong) := goodIn_app (goodIn_of _ (by decide +kernel)) ggX7_mean_X7_refuseLong
set_option maxRecDepth 20000 in
theorem ggX7_mean_X2_meanToes : GoodIn wsX7_mean wsX2_meanToes := goodIn_r _ [25, 26, 27, 28, 29, 30, 31, 32, 33, 34, 35, 36, 17, 4, 18, 37, 38, 39, 40, 41, 42, 43, 44, 45, 24, 46, 47, 48, 49, 58, 59, 60, 61, 62, 63, 64, 65, 66, 67, 68, 69] (by decide +kernel) (by decide +kernel)
set_option maxRecDepth 20000 in
theorem gX7_mean_X2_meanToes : GoodIn wsX7_mean (va_wsS RX7 248 yX2_meanToes wsX2_meanToes) := goodIn_app (goodIn_of _ (by decide +kernel)) ggX7_mean_X2_meanToes
theorem dX7_mean_0 : decode cX7_mean 0 = .ok (.iload_n 1, 1) := by decide +kernel
theorem dX7_mean_1 : decode cX7_mean 1 = .ok (.invokestatic 159, 3) := by decide +kernel
theorem dX7_mean_4 : decode cX7_mean 4 = .ok (.ifCond .eq 10, 3) := by decide +kernel
theorem dX7_mean_7 : decode cX7_mean 7 = .ok (.aload_n 0, 1) := by decide +kernel
theorem dX7_mean_8 : decode cX7_mean 8 = .ok (.bipush (-2), 2) := by decide +kernel
theorem dX7_mean_10 : decode cX7_mean 10 = .ok (.invokevirtual 238, 3) := by decide +kernel
theorem dX7_mean_13 : decode cX7_mean 13 = .ok (.lreturn, 1) := by decide +kernel
theorem dX7_mean_14 : decode cX7_mean 14 = .ok (.aload_n 0, 1) := by decide +kernel
theorem dX7_mean_15 : decode cX7_mean 15 = .ok (.getfield 10, 3) := by decide +kernel
theorem dX7_mean_18 : decode cX7_mean 18 = .ok (.iload_n 1, 1) := by decide +kernel
theorem dX7_mean_19 : decode cX7_mean 19 = .ok (.invokestatic 248, 3) := by decide +kernel
theorem dX7_mean_22 : decode cX7_mean 22 = .ok (.lreturn, 1) := by decide +kernel
set_option maxRecDepth 20000 in
theorem ggX7_whatIs_X6_hasBride : GoodIn wsX7_whatIs wsX6_hasBride := goodIn_r _ [7, 8, 63, 64, 65, 66, 67, 68, 69, 70, 71, 72, 73, 74] (by decide +kernel) (by decide +kernel)
set_option maxRecDepth 20000 in
theorem gX7_whatIs_X6_hasBride : GoodIn wsX7_whatIs (wsV RX7 69 RX6 yX6_hasBride wsX6_hasBride) := goodIn_app (goodIn_of _ (by decide +kernel)) ggX7_whatIs_X6_hasBride
set_option maxRecDepth 20000 in
theorem ggX7_whatIs_X7_refuse : GoodIn wsX7_whatIs wsX7_refuse := goodIn_r _ [13, 14, 15, 16, 12, 17, 18, 19, 20, 55, 56, 57, 58, 59, 60, 61, 62] (by decide +kernel) (by decide +kernel)
set_option maxRecDepth 20000 in
theorem gX7_whatIs_X7_refuse : GoodIn wsX7_whatIs (wsV RX7 47 RX7 yX7_refuse wsX7_refuse) := goodIn_app (goodIn_of _ (by decide +kernel)) ggX7_whatIs_X7_refuse
set_option maxRecDepth 20000 in
theorem ggX7_whatIs_X7_isNotEither : GoodIn wsX7_whatIs wsX7_isNotEither := goodIn_r _ [23] (by decide +kernel) (by decide +kernel)
set_option maxRecDepth 20000 in
theorem gX7_whatIs_X7_isNotEither : GoodIn wsX7_whatIs (va_wsS RX7 159 yX7_isNotEither wsX7_isNotEither) := goodIn_app (goodIn_of _ (by decide +kernel)) ggX7_whatIs_X7_isNotEither
set_option maxRecDepth 20000 in
theorem ggX7_whatIs_X4_kindsOf : GoodIn wsX7_whatIs wsX4_kindsOf := goodIn_r _ [28, 29, 30, 31, 6, 32, 33, 16, 12, 17, 34, 35, 36, 27, 37, 38, 39, 40, 41, 42, 43, 44, 45, 63, 64, 65, 66, 67, 68, 69, 70, 71, 72, 73, 74, 75, 76] (by decide +kernel) (by decide +kernel)
set_option maxRecDepth 20000 in
theorem gX7_whatIs_X4_kindsOf : GoodIn wsX7_whatIs (wsV RX7 252 RX4 yX4_kindsOf wsX4_kindsOf) := goodIn_app (goodIn_of _ (by decide +kernel)) ggX7_whatIs_X4_kindsOf
set_option maxRecDepth 20000 in
theorem ggX7_whatIs_X4_figuresOf : GoodIn wsX7_whatIs wsX4_figuresOf := goodIn_r _ [49, 50, 51, 52, 6, 53, 54, 16, 12, 17, 34, 35, 36, 27, 37, 38, 39, 40, 41, 42, 43, 44, 45, 63, 64, 65, 66, 67, 68, 69, 70, 71, 72, 73, 74, 75, 76] (by decide +kernel) (by decide +kernel)
set_option maxRecDepth 20000 in
theorem gX7_whatIs_X4_figuresOf : GoodIn wsX7_whatIs (wsV RX7 255 RX4 yX4_figuresOf wsX4_figuresOf) := goodIn_app (goodIn_of _ (by decide +kernel)) ggX7_whatIs_X4_figuresOf
theorem dX7_whatIs_0 : decode cX7_whatIs 0 = .ok (.aload_n 0, 1) := by decide +kernel
theorem dX7_whatIs_1 : decode cX7_whatIs 1 = .ok (.getfield 10, 3) := by decide +kernel
theorem dX7_whatIs_4 : decode cX7_whatIs 4 = .ok (.iload_n 1, 1) := by decide +kernel
theorem dX7_whatIs_5 : decode cX7_whatIs 5 = .ok (.invokevirtual 69, 3) := by decide +kernel
theorem dX7_whatIs_8 : decode cX7_whatIs 8 = .ok (.ifCond .ne 9, 3) := by decide +kernel
theorem dX7_whatIs_11 : decode cX7_whatIs 11 = .ok (.aload_n 0, 1) := by decide +kernel
theorem dX7_whatIs_12 : decode cX7_whatIs 12 = .ok (.iconst (-1), 1) := by decide +kernel
theorem dX7_whatIs_13 : decode cX7_whatIs 13 = .ok (.invokevirtual 47, 3) := by decide +kernel
theorem dX7_whatIs_16 : decode cX7_whatIs 16 = .ok (.ireturn, 1) := by decide +kernel
theorem dX7_whatIs_17 : decode cX7_whatIs 17 = .ok (.iload_n 2, 1) := by decide +kernel
theorem dX7_whatIs_18 : decode cX7_whatIs 18 = .ok (.invokestatic 159, 3) := by decide +kernel
theorem dX7_whatIs_21 : decode cX7_whatIs 21 = .ok (.ifCond .eq 10, 3) := by decide +kernel
theorem dX7_whatIs_24 : decode cX7_whatIs 24 = .ok (.aload_n 0, 1) := by decide +kernel
theorem dX7_whatIs_25 : decode cX7_whatIs 25 = .ok (.bipush (-2), 2) := by decide +kernel
theorem dX7_whatIs_27 : decode cX7_whatIs 27 = .ok (.invokevirtual 47, 3) := by decide +kernel
theorem dX7_whatIs_30 : decode cX7_whatIs 30 = .ok (.ireturn, 1) := by decide +kernel
theorem dX7_whatIs_31 : decode cX7_whatIs 31 = .ok (.iload_n 2, 1) := by decide +kernel
theorem dX7_whatIs_32 : decode cX7_whatIs 32 = .ok (.ifCond .ne 18, 3) := by decide +kernel
theorem dX7_whatIs_35 : decode cX7_whatIs 35 = .ok (.aload_n 0, 1) := by decide +kernel
theorem dX7_whatIs_36 : decode cX7_whatIs 36 = .ok (.getfield 32, 3) := by decide +kernel
theorem dX7_whatIs_39 : decode cX7_whatIs 39 = .ok (.aload_n 0, 1) := by decide +kernel
theorem dX7_whatIs_40 : decode cX7_whatIs 40 = .ok (.getfield 10, 3) := by decide +kernel
theorem dX7_whatIs_43 : decode cX7_whatIs 43 = .ok (.iload_n 1, 1) := by decide +kernel
theorem dX7_whatIs_44 : decode cX7_whatIs 44 = .ok (.invokevirtual 252, 3) := by decide +kernel
theorem dX7_whatIs_47 : decode cX7_whatIs 47 = .ok (.goto 15, 3) := by decide +kernel
theorem dX7_whatIs_50 : decode cX7_whatIs 50 = .ok (.aload_n 0, 1) := by decide +kernel
theorem dX7_whatIs_51 : decode cX7_whatIs 51 = .ok (.getfield 32, 3) := by decide +kernel
theorem dX7_whatIs_54 : decode cX7_whatIs 54 = .ok (.aload_n 0, 1) := by decide +kernel
theorem dX7_whatIs_55 : decode cX7_whatIs 55 = .ok (.getfield 10, 3) := by decide +kernel
theorem dX7_whatIs_58 : decode cX7_whatIs 58 = .ok (.iload_n 1, 1) := by decide +kernel
theorem dX7_whatIs_59 : decode cX7_whatIs 59 = .ok (.invokevirtual 255, 3) := by decide +kernel
theorem dX7_whatIs_62 : decode cX7_whatIs 62 = .ok (.ireturn, 1) := by decide +kernel
set_option maxRecDepth 20000 in
theorem ggX7_row_X7_outside : GoodIn wsX7_row wsX7_outside := goodIn_r _ [5] (by decide +kernel) (by decide +kernel)
set_option maxRecDepth 20000 in
theorem gX7_row_X7_outside : GoodIn wsX7_row (va_wsS RX7 136 yX7_outside wsX7_outside) := goodIn_app (goodIn_of _ (by decide +kernel)) ggX7_row_X7_outside
set_option maxRecDepth 20000 in
theorem ggX7_row_X7_refuse : GoodIn wsX7_row wsX7_refuse := goodIn_r _ [9, 10, 11, 12, 4, 13, 14, 15, 16, 28, 29, 30, 31, 32, 33, 34, 35] (by decide +kernel) (by decide +kernel)
set_option maxRecDepth 20000 in
theorem gX7_row_X7_refuse : GoodIn wsX7_row (wsV RX7 47 RX7 yX7_refuse wsX7_refuse) := goodIn_app (goodIn_of _ (by decide +kernel)) ggX7_row_X7_refuse
set_option maxRecDepth 20000 in
theorem ggX7_row_X4_isFull : GoodIn wsX7_row wsX4_isFull := goodIn_r _ [21, 22, 36, 37] (by decide +kernel) (by decide +kernel)
set_option maxRecDepth 20000 in
theorem gX7_row_X4_isFull : GoodIn wsX7_row (wsV RX7 258 RX4 yX4_isFull wsX4_isFull) := goodIn_app (goodIn_of _ (by decide +kernel)) ggX7_row_X4_isFull
set_option maxRecDepth 20000 in
theorem ggX7_row_X4_add : GoodIn wsX7_row wsX4_add := goodIn_r _ [26, 27, 22, 15, 4, 16, 36, 37] (by decide +kernel) (by decide +kernel)
set_option maxRecDepth 20000 in
theorem gX7_row_X4_add : GoodIn wsX7_row (wsV RX7 259 RX4 yX4_add wsX4_add) := goodIn_app (goodIn_of _ (by decide +kernel)) ggX7_row_X4_add
theorem dX7_row_0 : decode cX7_row 0 = .ok (.iload_n 1, 1) := by decide +kernel
theorem dX7_row_1 : decode cX7_row 1 = .ok (.iconst 0, 1) := by decide +kernel
theorem dX7_row_2 : decode cX7_row 2 = .ok (.bipush 99, 2) := by decide +kernel
theorem dX7_row_4 : decode cX7_row 4 = .ok (.invokestatic 136, 3) := by decide +kernel
theorem dX7_row_7 : decode cX7_row 7 = .ok (.istore_n 2, 1) := by decide +kernel
theorem dX7_row_8 : decode cX7_row 8 = .ok (.iload_n 2, 1) := by decide +kernel
theorem dX7_row_9 : decode cX7_row 9 = .ok (.ifCond .eq 9, 3) := by decide +kernel
theorem dX7_row_12 : decode cX7_row 12 = .ok (.aload_n 0, 1) := by decide +kernel
theorem dX7_row_13 : decode cX7_row 13 = .ok (.iload_n 2, 1) := by decide +kernel
theorem dX7_row_14 : decode cX7_row 14 = .ok (.invokevirtual 47, 3) := by decide +kernel
theorem dX7_row_17 : decode cX7_row 17 = .ok (.ireturn, 1) := by decide +kernel
theorem dX7_row_18 : decode cX7_row 18 = .ok (.aload_n 0, 1) := by decide +kernel
theorem dX7_row_19 : decode cX7_row 19 = .ok (.getfield 32, 3) := by decide +kernel
theorem dX7_row_22 : decode cX7_row 22 = .ok (.invokevirtual 258, 3) := by decide +kernel
theorem dX7_row_25 : decode cX7_row 25 = .ok (.ifCond .eq 10, 3) := by decide +kernel
theorem dX7_row_28 : decode cX7_row 28 = .ok (.aload_n 0, 1) := by decide +kernel
theorem dX7_row_29 : decode cX7_row 29 = .ok (.bipush (-6), 2) := by decide +kernel
theorem dX7_row_31 : decode cX7_row 31 = .ok (.invokevirtual 47, 3) := by decide +kernel
theorem dX7_row_34 : decode cX7_row 34 = .ok (.ireturn, 1) := by decide +kernel
theorem dX7_row_35 : decode cX7_row 35 = .ok (.aload_n 0, 1) := by decide +kernel
theorem dX7_row_36 : decode cX7_row 36 = .ok (.getfield 32, 3) := by decide +kernel
theorem dX7_row_39 : decode cX7_row 39 = .ok (.iload_n 1, 1) := by decide +kernel
theorem dX7_row_40 : decode cX7_row 40 = .ok (.invokevirtual 259, 3) := by decide +kernel
theorem dX7_row_43 : decode cX7_row 43 = .ok (.ireturn, 1) := by decide +kernel
set_option maxRecDepth 20000 in
theorem ggX7_judge_X4_firstWrongGuess : GoodIn wsX7_judge wsX4_firstWrongGuess := goodIn_r _ [7, 8, 9, 10, 11, 12, 13, 14, 15, 16, 17, 18, 19, 20, 21, 22, 23, 24, 25, 26, 27, 28, 29, 30, 31, 32, 33, 34, 35, 36, 37, 38, 39, 40, 41, 42, 43, 44, 45, 46, 47, 48, 49, 50, 51, 52, 65, 66, 67, 68, 69, 70, 71, 72, 73, 74, 75, 76, 77, 78] (by decide +kernel) (by decide +kernel)
set_option maxRecDepth 20000 in
theorem gX7_judge_X4_firstWrongGuess : GoodIn wsX7_judge (wsV RX7 260 RX4 yX4_firstWrongGuess wsX4_firstWrongGuess) := goodIn_app (goodIn_of _ (by decide +kernel)) ggX7_judge_X4_firstWrongGuess
set_option maxRecDepth 20000 in
theorem ggX7_judge_X4_empty : GoodIn wsX7_judge wsX4_empty := goodIn_r _ [56, 8, 65, 66] (by decide +kernel) (by decide +kernel)
set_option maxRecDepth 20000 in
theorem gX7_judge_X4_empty : GoodIn wsX7_judge (wsV RX7 263 RX4 yX4_empty wsX4_empty) := goodIn_app (goodIn_of _ (by decide +kernel)) ggX7_judge_X4_empty
theorem dX7_judge_0 : decode cX7_judge 0 = .ok (.aload_n 0, 1) := by decide +kernel
theorem dX7_judge_1 : decode cX7_judge 1 = .ok (.getfield 32, 3) := by decide +kernel
theorem dX7_judge_4 : decode cX7_judge 4 = .ok (.aload_n 0, 1) := by decide +kernel
theorem dX7_judge_5 : decode cX7_judge 5 = .ok (.getfield 10, 3) := by decide +kernel
theorem dX7_judge_8 : decode cX7_judge 8 = .ok (.invokevirtual 260, 3) := by decide +kernel
theorem dX7_judge_11 : decode cX7_judge 11 = .ok (.istore_n 1, 1) := by decide +kernel
theorem dX7_judge_12 : decode cX7_judge 12 = .ok (.aload_n 0, 1) := by decide +kernel
theorem dX7_judge_13 : decode cX7_judge 13 = .ok (.getfield 32, 3) := by decide +kernel
theorem dX7_judge_16 : decode cX7_judge 16 = .ok (.invokevirtual 263, 3) := by decide +kernel
theorem dX7_judge_19 : decode cX7_judge 19 = .ok (.iload_n 1, 1) := by decide +kernel
theorem dX7_judge_20 : decode cX7_judge 20 = .ok (.ireturn, 1) := by decide +kernel
set_option maxRecDepth 20000 in
theorem ggX7_clear_X4_empty : GoodIn wsX7_clear wsX4_empty := goodIn_r _ [7, 8, 17, 18] (by decide +kernel) (by decide +kernel)
set_option maxRecDepth 20000 in
theorem gX7_clear_X4_empty : GoodIn wsX7_clear (wsV RX7 263 RX4 yX4_empty wsX4_empty) := goodIn_app (goodIn_of _ (by decide +kernel)) ggX7_clear_X4_empty
theorem dX7_clear_0 : decode cX7_clear 0 = .ok (.aload_n 0, 1) := by decide +kernel
theorem dX7_clear_1 : decode cX7_clear 1 = .ok (.getfield 32, 3) := by decide +kernel
theorem dX7_clear_4 : decode cX7_clear 4 = .ok (.getfield 264, 3) := by decide +kernel
theorem dX7_clear_7 : decode cX7_clear 7 = .ok (.istore_n 1, 1) := by decide +kernel
theorem dX7_clear_8 : decode cX7_clear 8 = .ok (.aload_n 0, 1) := by decide +kernel
theorem dX7_clear_9 : decode cX7_clear 9 = .ok (.getfield 32, 3) := by decide +kernel
theorem dX7_clear_12 : decode cX7_clear 12 = .ok (.invokevirtual 263, 3) := by decide +kernel
theorem dX7_clear_15 : decode cX7_clear 15 = .ok (.iload_n 1, 1) := by decide +kernel
theorem dX7_clear_16 : decode cX7_clear 16 = .ok (.ireturn, 1) := by decide +kernel
set_option maxRecDepth 20000 in
theorem ggX7_lots_X7_outside : GoodIn wsX7_lots wsX7_outside := goodIn_r _ [6] (by decide +kernel) (by decide +kernel)
set_option maxRecDepth 20000 in
theorem gX7_lots_X7_outside : GoodIn wsX7_lots (va_wsS RX7 136 yX7_outside wsX7_outside) := goodIn_app (goodIn_of _ (by decide +kernel)) ggX7_lots_X7_outside
set_option maxRecDepth 20000 in
theorem ggX7_lots_X7_refuse : GoodIn wsX7_lots wsX7_refuse := goodIn_r _ [10, 11, 12, 13, 5, 14, 15, 16, 17, 112, 113, 114, 115, 116, 117, 118, 119] (by decide +kernel) (by decide +kernel)
set_option maxRecDepth 20000 in
theorem gX7_lots_X7_refuse : GoodIn wsX7_lots (wsV RX7 47 RX7 yX7_refuse wsX7_refuse) := goodIn_app (goodIn_of _ (by decide +kernel)) ggX7_lots_X7_refuse
set_option maxRecDepth 20000 in
theorem ggX7_lots_X7_isNotEither : GoodIn wsX7_lots wsX7_isNotEither := goodIn_r _ [20] (by decide +kernel) (by decide +kernel)
set_option maxRecDepth 20000 in
theorem gX7_lots_X7_isNotEither : GoodIn wsX7_lots (va_wsS RX7 159 yX7_isNotEither wsX7_isNotEither) := goodIn_app (goodIn_of _ (by decide +kernel)) ggX7_lots_X7_isNotEither
set_option maxRecDepth 20000 in
theorem ggX7_lots_X6_become : GoodIn wsX7_lots wsX6_become := goodIn_r _ [25, 26, 27, 28, 29, 30, 31, 32, 33, 34, 35, 36, 37, 38, 5, 39, 120, 121, 122, 123, 124, 125, 126, 127, 128, 129, 130, 131] (by decide +kernel) (by decide +kernel)
set_option maxRecDepth 20000 in
theorem gX7_lots_X6_become : GoodIn wsX7_lots (wsV RX7 58 RX6 yX6_become wsX6_become) := goodIn_app (goodIn_of _ (by decide +kernel)) ggX7_lots_X6_become
set_option maxRecDepth 20000 in
theorem ggX7_lots_X6_drawFeetAndMinds : GoodIn wsX7_lots wsX6_drawFeetAndMinds := goodIn_r _ [43, 27, 30, 33, 44, 45, 24, 46, 47, 48, 49, 50, 51, 52, 16, 5, 17, 53, 54, 55, 56, 35, 120, 121, 122, 123, 124, 125, 126, 127, 128, 129, 130, 131] (by decide +kernel) (by decide +kernel)
set_option maxRecDepth 20000 in
theorem gX7_lots_X6_drawFeetAndMinds : GoodIn wsX7_lots (wsV RX7 267 RX6 yX6_drawFeetAndMinds wsX6_drawFeetAndMinds) := goodIn_app (goodIn_of _ (by decide +kernel)) ggX7_lots_X6_drawFeetAndMinds
set_option maxRecDepth 20000 in
theorem ggX7_lots_X6_wedAll : GoodIn wsX7_lots wsX6_wedAll := goodIn_r _ [60, 33, 61, 62, 63, 24, 64, 65, 66, 67, 68, 69, 70, 71, 72, 37, 73, 5, 74, 75, 76, 77, 78, 27, 32, 31, 13, 14, 79, 80, 81, 82, 36, 34, 83, 84, 85, 86, 35, 28, 29, 87, 88, 89, 90, 30, 26, 91, 92, 93, 94, 95, 96, 97, 98, 99, 100, 101, 102, 103, 16, 17, 104, 105, 106, 107, 108, 109, 110, 111, 120, 121, 122, 123, 124, 125, 126, 127, 128, 129, 130, 131] (by decide +kernel) (by decide +kernel)
set_option maxRecDepth 20000 in
theorem gX7_lots_X6_wedAll : GoodIn wsX7_lots (wsV RX7 225 RX6 yX6_wedAll wsX6_wedAll) := goodIn_app (goodIn_of _ (by decide +kernel)) ggX7_lots_X6_wedAll
theorem dX7_lots_0 : decode cX7_lots 0 = .ok (.iload_n 1, 1) := by decide +kernel
theorem dX7_lots_1 : decode cX7_lots 1 = .ok (.iconst 1, 1) := by decide +kernel
theorem dX7_lots_2 : decode cX7_lots 2 = .ok (.bipush 20, 2) := by decide +kernel
theorem dX7_lots_4 : decode cX7_lots 4 = .ok (.invokestatic 136, 3) := by decide +kernel
theorem dX7_lots_7 : decode cX7_lots 7 = .ok (.istore 4, 2) := by decide +kernel
theorem dX7_lots_9 : decode cX7_lots 9 = .ok (.iload 4, 2) := by decide +kernel
theorem dX7_lots_11 : decode cX7_lots 11 = .ok (.ifCond .eq 10, 3) := by decide +kernel
theorem dX7_lots_14 : decode cX7_lots 14 = .ok (.aload_n 0, 1) := by decide +kernel
theorem dX7_lots_15 : decode cX7_lots 15 = .ok (.iload 4, 2) := by decide +kernel
theorem dX7_lots_17 : decode cX7_lots 17 = .ok (.invokevirtual 47, 3) := by decide +kernel
theorem dX7_lots_20 : decode cX7_lots 20 = .ok (.ireturn, 1) := by decide +kernel
theorem dX7_lots_21 : decode cX7_lots 21 = .ok (.iload_n 3, 1) := by decide +kernel
theorem dX7_lots_22 : decode cX7_lots 22 = .ok (.invokestatic 159, 3) := by decide +kernel
theorem dX7_lots_25 : decode cX7_lots 25 = .ok (.ifCond .eq 10, 3) := by decide +kernel
theorem dX7_lots_28 : decode cX7_lots 28 = .ok (.aload_n 0, 1) := by decide +kernel
theorem dX7_lots_29 : decode cX7_lots 29 = .ok (.bipush (-2), 2) := by decide +kernel
theorem dX7_lots_31 : decode cX7_lots 31 = .ok (.invokevirtual 47, 3) := by decide +kernel
theorem dX7_lots_34 : decode cX7_lots 34 = .ok (.ireturn, 1) := by decide +kernel
theorem dX7_lots_35 : decode cX7_lots 35 = .ok (.iload_n 2, 1) := by decide +kernel
theorem dX7_lots_36 : decode cX7_lots 36 = .ok (.istore 5, 2) := by decide +kernel
theorem dX7_lots_38 : decode cX7_lots 38 = .ok (.iconst 0, 1) := by decide +kernel
theorem dX7_lots_39 : decode cX7_lots 39 = .ok (.istore 6, 2) := by decide +kernel
theorem dX7_lots_41 : decode cX7_lots 41 = .ok (.iconst 0, 1) := by decide +kernel
theorem dX7_lots_42 : decode cX7_lots 42 = .ok (.istore 7, 2) := by decide +kernel
theorem dX7_lots_44 : decode cX7_lots 44 = .ok (.iload 7, 2) := by decide +kernel
theorem dX7_lots_46 : decode cX7_lots 46 = .ok (.iload_n 1, 1) := by decide +kernel
theorem dX7_lots_47 : decode cX7_lots 47 = .ok (.if_icmp .ge 44, 3) := by decide +kernel
theorem dX7_lots_50 : decode cX7_lots 50 = .ok (.aload_n 0, 1) := by decide +kernel
theorem dX7_lots_51 : decode cX7_lots 51 = .ok (.getfield 16, 3) := by decide +kernel
theorem dX7_lots_54 : decode cX7_lots 54 = .ok (.aload_n 0, 1) := by decide +kernel
theorem dX7_lots_55 : decode cX7_lots 55 = .ok (.getfield 10, 3) := by decide +kernel
theorem dX7_lots_58 : decode cX7_lots 58 = .ok (.invokevirtual 58, 3) := by decide +kernel
theorem dX7_lots_61 : decode cX7_lots 61 = .ok (.aload_n 0, 1) := by decide +kernel
theorem dX7_lots_62 : decode cX7_lots 62 = .ok (.getfield 16, 3) := by decide +kernel
theorem dX7_lots_65 : decode cX7_lots 65 = .ok (.iload 5, 2) := by decide +kernel
theorem dX7_lots_67 : decode cX7_lots 67 = .ok (.invokevirtual 267, 3) := by decide +kernel
theorem dX7_lots_70 : decode cX7_lots 70 = .ok (.istore 5, 2) := by decide +kernel
theorem dX7_lots_72 : decode cX7_lots 72 = .ok (.iload 6, 2) := by decide +kernel
theorem dX7_lots_74 : decode cX7_lots 74 = .ok (.aload_n 0, 1) := by decide +kernel
theorem dX7_lots_75 : decode cX7_lots 75 = .ok (.getfield 16, 3) := by decide +kernel
theorem dX7_lots_78 : decode cX7_lots 78 = .ok (.iload_n 3, 1) := by decide +kernel
theorem dX7_lots_79 : decode cX7_lots 79 = .ok (.invokevirtual 225, 3) := by decide +kernel
theorem dX7_lots_82 : decode cX7_lots 82 = .ok (.iadd, 1) := by decide +kernel
theorem dX7_lots_83 : decode cX7_lots 83 = .ok (.istore 6, 2) := by decide +kernel
theorem dX7_lots_85 : decode cX7_lots 85 = .ok (.iinc 7 1, 3) := by decide +kernel
theorem dX7_lots_88 : decode cX7_lots 88 = .ok (.goto (-44), 3) := by decide +kernel
theorem dX7_lots_91 : decode cX7_lots 91 = .ok (.iload 6, 2) := by decide +kernel
theorem dX7_lots_93 : decode cX7_lots 93 = .ok (.ireturn, 1) := by decide +kernel
set_option maxRecDepth 20000 in
theorem ggX7_image_X6_become : GoodIn wsX7_image wsX6_become := goodIn_r _ [9, 10, 11, 12, 13, 14, 15, 16, 17, 18, 19, 20, 21, 22, 23, 24, 33, 34, 35, 36, 37, 38, 39, 40, 41, 42, 43, 44] (by decide +kernel) (by decide +kernel)
set_option maxRecDepth 20000 in
theorem gX7_image_X6_become : GoodIn wsX7_image (wsV RX7 58 RX6 yX6_become wsX6_become) := goodIn_app (goodIn_of _ (by decide +kernel)) ggX7_image_X6_become
theorem dX7_image_0 : decode cX7_image 0 = .ok (.aload_n 0, 1) := by decide +kernel
theorem dX7_image_1 : decode cX7_image 1 = .ok (.getfield 19, 3) := by decide +kernel
theorem dX7_image_4 : decode cX7_image 4 = .ok (.aload_n 0, 1) := by decide +kernel
theorem dX7_image_5 : decode cX7_image 5 = .ok (.getfield 10, 3) := by decide +kernel
theorem dX7_image_8 : decode cX7_image 8 = .ok (.invokevirtual 58, 3) := by decide +kernel
theorem dX7_image_11 : decode cX7_image 11 = .ok (.aload_n 0, 1) := by decide +kernel
theorem dX7_image_12 : decode cX7_image 12 = .ok (.iconst 1, 1) := by decide +kernel
theorem dX7_image_13 : decode cX7_image 13 = .ok (.putfield 270, 3) := by decide +kernel
theorem dX7_image_16 : decode cX7_image 16 = .ok (.aload_n 0, 1) := by decide +kernel
theorem dX7_image_17 : decode cX7_image 17 = .ok (.getfield 10, 3) := by decide +kernel
theorem dX7_image_20 : decode cX7_image 20 = .ok (.getfield 274, 3) := by decide +kernel
theorem dX7_image_23 : decode cX7_image 23 = .ok (.ireturn, 1) := by decide +kernel
set_option maxRecDepth 20000 in
theorem ggX7_on_X7_refuse : GoodIn wsX7_on wsX7_refuse := goodIn_r _ [9, 10, 11, 12, 8, 13, 14, 15, 16, 36, 37, 38, 39, 40, 41, 42, 43] (by decide +kernel) (by decide +kernel)
set_option maxRecDepth 20000 in
theorem gX7_on_X7_refuse : GoodIn wsX7_on (wsV RX7 47 RX7 yX7_refuse wsX7_refuse) := goodIn_app (goodIn_of _ (by decide +kernel)) ggX7_on_X7_refuse
set_option maxRecDepth 20000 in
theorem ggX7_on_X6_become : GoodIn wsX7_on wsX6_become := goodIn_r _ [21, 22, 23, 24, 25, 26, 27, 28, 29, 30, 31, 32, 33, 34, 8, 35, 44, 45, 46, 47, 48, 49, 50, 51, 52, 53, 54, 55] (by decide +kernel) (by decide +kernel)
set_option maxRecDepth 20000 in
theorem gX7_on_X6_become : GoodIn wsX7_on (wsV RX7 58 RX6 yX6_become wsX6_become) := goodIn_app (goodIn_of _ (by decide +kernel)) ggX7_on_X6_become
theorem dX7_on_0 : decode cX7_on 0 = .ok (.aload_n 0, 1) := by decide +kernel
theorem dX7_on_1 : decode cX7_on 1 = .ok (.getfield 270, 3) := by decide +kernel
theorem dX7_on_4 : decode cX7_on 4 = .ok (.ifCond .ne 10, 3) := by decide +kernel
theorem dX7_on_7 : decode cX7_on 7 = .ok (.aload_n 0, 1) := by decide +kernel
theorem dX7_on_8 : decode cX7_on 8 = .ok (.bipush (-3), 2) := by decide +kernel
theorem dX7_on_10 : decode cX7_on 10 = .ok (.invokevirtual 47, 3) := by decide +kernel
theorem dX7_on_13 : decode cX7_on 13 = .ok (.ireturn, 1) := by decide +kernel
theorem dX7_on_14 : decode cX7_on 14 = .ok (.aload_n 0, 1) := by decide +kernel
theorem dX7_on_15 : decode cX7_on 15 = .ok (.getfield 10, 3) := by decide +kernel
theorem dX7_on_18 : decode cX7_on 18 = .ok (.aload_n 0, 1) := by decide +kernel
theorem dX7_on_19 : decode cX7_on 19 = .ok (.getfield 19, 3) := by decide +kernel
theorem dX7_on_22 : decode cX7_on 22 = .ok (.invokevirtual 58, 3) := by decide +kernel
theorem dX7_on_25 : decode cX7_on 25 = .ok (.aload_n 0, 1) := by decide +kernel
theorem dX7_on_26 : decode cX7_on 26 = .ok (.getfield 10, 3) := by decide +kernel
theorem dX7_on_29 : decode cX7_on 29 = .ok (.getfield 274, 3) := by decide +kernel
theorem dX7_on_32 : decode cX7_on 32 = .ok (.ireturn, 1) := by decide +kernel
set_option maxRecDepth 20000 in
theorem ggX7_count_X7_at : GoodIn wsX7_count wsX7_at := goodIn_r _ [14] (by decide +kernel) (by decide +kernel)
set_option maxRecDepth 20000 in
theorem gX7_count_X7_at : GoodIn wsX7_count (va_wsS RX7 277 yX7_at wsX7_at) := goodIn_app (goodIn_of _ (by decide +kernel)) ggX7_count_X7_at
set_option maxRecDepth 20000 in
theorem ggX7_count_X6_hereThen : GoodIn wsX7_count wsX6_hereThen := goodIn_r _ [19, 20, 21, 22, 23, 13, 24, 12, 14, 43, 44, 45, 46, 47, 48, 49, 50, 51, 52, 53, 54] (by decide +kernel) (by decide +kernel)
set_option maxRecDepth 20000 in
theorem gX7_count_X6_hereThen : GoodIn wsX7_count (wsV RX7 151 RX6 yX6_hereThen wsX6_hereThen) := goodIn_app (goodIn_of _ (by decide +kernel)) ggX7_count_X6_hereThen
set_option maxRecDepth 20000 in
theorem ggX7_count_X6_allLiquor : GoodIn wsX7_count wsX6_allLiquor := goodIn_r _ [28, 29, 30, 31, 32, 18, 33, 34, 12, 13, 14, 43, 44, 45, 46, 47, 48, 49, 50, 51, 52, 53, 54] (by decide +kernel) (by decide +kernel)
set_option maxRecDepth 20000 in
theorem gX7_count_X6_allLiquor : GoodIn wsX7_count (wsV RX7 284 RX6 yX6_allLiquor wsX6_allLiquor) := goodIn_app (goodIn_of _ (by decide +kernel)) ggX7_count_X6_allLiquor
theorem dX7_count_0 : decode cX7_count 0 = .ok (.iload_n 1, 1) := by decide +kernel
theorem dX7_count_1 : decode cX7_count 1 = .ok (.bipush 11, 2) := by decide +kernel
theorem dX7_count_3 : decode cX7_count 3 = .ok (.if_icmp .lt 21, 3) := by decide +kernel
theorem dX7_count_6 : decode cX7_count 6 = .ok (.iload_n 1, 1) := by decide +kernel
theorem dX7_count_7 : decode cX7_count 7 = .ok (.bipush 16, 2) := by decide +kernel
theorem dX7_count_9 : decode cX7_count 9 = .ok (.if_icmp .gt 15, 3) := by decide +kernel
theorem dX7_count_12 : decode cX7_count 12 = .ok (.aload_n 0, 1) := by decide +kernel
theorem dX7_count_13 : decode cX7_count 13 = .ok (.getfield 43, 3) := by decide +kernel
theorem dX7_count_16 : decode cX7_count 16 = .ok (.iload_n 1, 1) := by decide +kernel
theorem dX7_count_17 : decode cX7_count 17 = .ok (.bipush 10, 2) := by decide +kernel
theorem dX7_count_19 : decode cX7_count 19 = .ok (.isub, 1) := by decide +kernel
theorem dX7_count_20 : decode cX7_count 20 = .ok (.invokestatic 277, 3) := by decide +kernel
theorem dX7_count_23 : decode cX7_count 23 = .ok (.ireturn, 1) := by decide +kernel
theorem dX7_count_24 : decode cX7_count 24 = .ok (.iload_n 1, 1) := by decide +kernel
theorem dX7_count_25 : decode cX7_count 25 = .ok (.tableswitch 112 0 7 #[47, 55, 63, 71, 80, 88, 96, 104], 47) := by decide +kernel
theorem dX7_count_72 : decode cX7_count 72 = .ok (.aload_n 0, 1) := by decide +kernel
theorem dX7_count_73 : decode cX7_count 73 = .ok (.getfield 10, 3) := by decide +kernel
theorem dX7_count_76 : decode cX7_count 76 = .ok (.getfield 228, 3) := by decide +kernel
theorem dX7_count_79 : decode cX7_count 79 = .ok (.ireturn, 1) := by decide +kernel
theorem dX7_count_80 : decode cX7_count 80 = .ok (.aload_n 0, 1) := by decide +kernel
theorem dX7_count_81 : decode cX7_count 81 = .ok (.getfield 10, 3) := by decide +kernel
theorem dX7_count_84 : decode cX7_count 84 = .ok (.getfield 201, 3) := by decide +kernel
theorem dX7_count_87 : decode cX7_count 87 = .ok (.ireturn, 1) := by decide +kernel
theorem dX7_count_88 : decode cX7_count 88 = .ok (.aload_n 0, 1) := by decide +kernel
theorem dX7_count_89 : decode cX7_count 89 = .ok (.getfield 10, 3) := by decide +kernel
theorem dX7_count_92 : decode cX7_count 92 = .ok (.getfield 274, 3) := by decide +kernel
theorem dX7_count_95 : decode cX7_count 95 = .ok (.ireturn, 1) := by decide +kernel
theorem dX7_count_96 : decode cX7_count 96 = .ok (.aload_n 0, 1) := by decide +kernel
theorem dX7_count_97 : decode cX7_count 97 = .ok (.getfield 10, 3) := by decide +kernel
theorem dX7_count_100 : decode cX7_count 100 = .ok (.iconst 0, 1) := by decide +kernel
theorem dX7_count_101 : decode cX7_count 101 = .ok (.invokevirtual 151, 3) := by decide +kernel
theorem dX7_count_104 : decode cX7_count 104 = .ok (.ireturn, 1) := by decide +kernel
theorem dX7_count_105 : decode cX7_count 105 = .ok (.aload_n 0, 1) := by decide +kernel
theorem dX7_count_106 : decode cX7_count 106 = .ok (.getfield 10, 3) := by decide +kernel
theorem dX7_count_109 : decode cX7_count 109 = .ok (.getfield 281, 3) := by decide +kernel
theorem dX7_count_112 : decode cX7_count 112 = .ok (.ireturn, 1) := by decide +kernel
theorem dX7_count_113 : decode cX7_count 113 = .ok (.aload_n 0, 1) := by decide +kernel
theorem dX7_count_114 : decode cX7_count 114 = .ok (.getfield 10, 3) := by decide +kernel
theorem dX7_count_117 : decode cX7_count 117 = .ok (.invokevirtual 284, 3) := by decide +kernel
theorem dX7_count_120 : decode cX7_count 120 = .ok (.ireturn, 1) := by decide +kernel
theorem dX7_count_121 : decode cX7_count 121 = .ok (.aload_n 0, 1) := by decide +kernel
theorem dX7_count_122 : decode cX7_count 122 = .ok (.getfield 32, 3) := by decide +kernel
theorem dX7_count_125 : decode cX7_count 125 = .ok (.getfield 264, 3) := by decide +kernel
theorem dX7_count_128 : decode cX7_count 128 = .ok (.ireturn, 1) := by decide +kernel
theorem dX7_count_129 : decode cX7_count 129 = .ok (.aload_n 0, 1) := by decide +kernel
theorem dX7_count_130 : decode cX7_count 130 = .ok (.getfield 25, 3) := by decide +kernel
theorem dX7_count_133 : decode cX7_count 133 = .ok (.getfield 287, 3) := by decide +kernel
theorem dX7_count_136 : decode cX7_count 136 = .ok (.ireturn, 1) := by decide +kernel
theorem dX7_count_137 : decode cX7_count 137 = .ok (.bipush (-9), 2) := by decide +kernel
theorem dX7_count_139 : decode cX7_count 139 = .ok (.ireturn, 1) := by decide +kernel
set_option maxRecDepth 20000 in
theorem ggX7_refuse_X7_at : GoodIn wsX7_refuse wsX7_at := goodIn_r _ [5] (by decide +kernel) (by decide +kernel)
set_option maxRecDepth 20000 in
theorem gX7_refuse_X7_at : GoodIn wsX7_refuse (va_wsS RX7 277 yX7_at wsX7_at) := goodIn_app (goodIn_of _ (by decide +kernel)) ggX7_refuse_X7_at
set_option maxRecDepth 20000 in
theorem ggX7_refuse_X7_put : GoodIn wsX7_refuse wsX7_put := goodIn_r _ [8] (by decide +kernel) (by decide +kernel)
set_option maxRecDepth 20000 in
theorem gX7_refuse_X7_put : GoodIn wsX7_refuse (va_wsS RX7 288 yX7_put wsX7_put) := goodIn_app (goodIn_of _ (by decide +kernel)) ggX7_refuse_X7_put
theorem dX7_refuse_0 : decode cX7_refuse 0 = .ok (.aload_n 0, 1) := by decide +kernel
theorem dX7_refuse_1 : decode cX7_refuse 1 = .ok (.getfield 43, 3) := by decide +kernel
theorem dX7_refuse_4 : decode cX7_refuse 4 = .ok (.iload_n 1, 1) := by decide +kernel
theorem dX7_refuse_5 : decode cX7_refuse 5 = .ok (.ineg, 1) := by decide +kernel
theorem dX7_refuse_6 : decode cX7_refuse 6 = .ok (.aload_n 0, 1) := by decide +kernel
theorem dX7_refuse_7 : decode cX7_refuse 7 = .ok (.getfield 43, 3) := by decide +kernel
theorem dX7_refuse_10 : decode cX7_refuse 10 = .ok (.iload_n 1, 1) := by decide +kernel
theorem dX7_refuse_11 : decode cX7_refuse 11 = .ok (.ineg, 1) := by decide +kernel
theorem dX7_refuse_12 : decode cX7_refuse 12 = .ok (.invokestatic 277, 3) := by decide +kernel
theorem dX7_refuse_15 : decode cX7_refuse 15 = .ok (.iconst 1, 1) := by decide +kernel
theorem dX7_refuse_16 : decode cX7_refuse 16 = .ok (.iadd, 1) := by decide +kernel
theorem dX7_refuse_17 : decode cX7_refuse 17 = .ok (.invokestatic 288, 3) := by decide +kernel
theorem dX7_refuse_20 : decode cX7_refuse 20 = .ok (.iload_n 1, 1) := by decide +kernel
theorem dX7_refuse_21 : decode cX7_refuse 21 = .ok (.ireturn, 1) := by decide +kernel
set_option maxRecDepth 20000 in
theorem ggX7_refuseLong_X7_refuse : GoodIn wsX7_refuseLong wsX7_refuse := goodIn_r _ [6, 7, 8, 9, 5, 10, 11, 12, 13, 14, 15, 16, 17, 18, 19, 20, 21] (by decide +kernel) (by decide +kernel)
set_option maxRecDepth 20000 in
theorem gX7_refuseLong_X7_refuse : GoodIn wsX7_refuseLong (wsV RX7 47 RX7 yX7_refuse wsX7_refuse) := goodIn_app (goodIn_of _ (by decide +kernel)) ggX7_refuseLong_X7_refuse
theorem dX7_refuseLong_0 : decode cX7_refuseLong 0 = .ok (.ldc2_w 292, 3) := by decide +kernel
theorem dX7_refuseLong_3 : decode cX7_refuseLong 3 = .ok (.aload_n 0, 1) := by decide +kernel
theorem dX7_refuseLong_4 : decode cX7_refuseLong 4 = .ok (.iload_n 1, 1) := by decide +kernel
theorem dX7_refuseLong_5 : decode cX7_refuseLong 5 = .ok (.invokevirtual 47, 3) := by decide +kernel
theorem dX7_refuseLong_8 : decode cX7_refuseLong 8 = .ok (.i2l, 1) := by decide +kernel
theorem dX7_refuseLong_9 : decode cX7_refuseLong 9 = .ok (.lsub, 1) := by decide +kernel
theorem dX7_refuseLong_10 : decode cX7_refuseLong 10 = .ok (.lreturn, 1) := by decide +kernel
theorem dX7_outside_0 : decode cX7_outside 0 = .ok (.iload_n 0, 1) := by decide +kernel
theorem dX7_outside_1 : decode cX7_outside 1 = .ok (.iload_n 1, 1) := by decide +kernel
theorem dX7_outside_2 : decode cX7_outside 2 = .ok (.if_icmp .ge 6, 3) := by decide +kernel
theorem dX7_outside_5 : decode cX7_outside 5 = .ok (.bipush (-4), 2) := by decide +kernel
theorem dX7_outside_7 : decode cX7_outside 7 = .ok (.ireturn, 1) := by decide +kernel
theorem dX7_outside_8 : decode cX7_outside 8 = .ok (.iload_n 0, 1) := by decide +kernel
theorem dX7_outside_9 : decode cX7_outside 9 = .ok (.iload_n 2, 1) := by decide +kernel
theorem dX7_outside_10 : decode cX7_outside 10 = .ok (.if_icmp .le 8, 3) := by decide +kernel
theorem dX7_outside_13 : decode cX7_outside 13 = .ok (.bipush (-6), 2) := by decide +kernel
theorem dX7_outside_15 : decode cX7_outside 15 = .ok (.goto 4, 3) := by decide +kernel
theorem dX7_outside_18 : decode cX7_outside 18 = .ok (.iconst 0, 1) := by decide +kernel
theorem dX7_outside_19 : decode cX7_outside 19 = .ok (.ireturn, 1) := by decide +kernel
set_option maxRecDepth 20000 in
theorem ggX7_refusalOf_X7_outside : GoodIn wsX7_refusalOf wsX7_outside := goodIn_r _ [4] (by decide +kernel) (by decide +kernel)
set_option maxRecDepth 20000 in
theorem gX7_refusalOf_X7_outside : GoodIn wsX7_refusalOf (va_wsS RX7 136 yX7_outside wsX7_outside) := goodIn_app (goodIn_of _ (by decide +kernel)) ggX7_refusalOf_X7_outside
theorem dX7_refusalOf_0 : decode cX7_refusalOf 0 = .ok (.iload_n 0, 1) := by decide +kernel
theorem dX7_refusalOf_1 : decode cX7_refusalOf 1 = .ok (.ifCond .eq 12, 3) := by decide +kernel
theorem dX7_refusalOf_4 : decode cX7_refusalOf 4 = .ok (.iload_n 1, 1) := by decide +kernel
theorem dX7_refusalOf_5 : decode cX7_refusalOf 5 = .ok (.iload_n 2, 1) := by decide +kernel
theorem dX7_refusalOf_6 : decode cX7_refusalOf 6 = .ok (.iload_n 3, 1) := by decide +kernel
theorem dX7_refusalOf_7 : decode cX7_refusalOf 7 = .ok (.invokestatic 136, 3) := by decide +kernel
theorem dX7_refusalOf_10 : decode cX7_refusalOf 10 = .ok (.goto 4, 3) := by decide +kernel
theorem dX7_refusalOf_13 : decode cX7_refusalOf 13 = .ok (.iconst (-1), 1) := by decide +kernel
theorem dX7_refusalOf_14 : decode cX7_refusalOf 14 = .ok (.ireturn, 1) := by decide +kernel
theorem dX7_isNotEither_0 : decode cX7_isNotEither 0 = .ok (.iload_n 0, 1) := by decide +kernel
theorem dX7_isNotEither_1 : decode cX7_isNotEither 1 = .ok (.ifCond .eq 12, 3) := by decide +kernel
theorem dX7_isNotEither_4 : decode cX7_isNotEither 4 = .ok (.iload_n 0, 1) := by decide +kernel
theorem dX7_isNotEither_5 : decode cX7_isNotEither 5 = .ok (.iconst 1, 1) := by decide +kernel
theorem dX7_isNotEither_6 : decode cX7_isNotEither 6 = .ok (.if_icmp .eq 7, 3) := by decide +kernel
theorem dX7_isNotEither_9 : decode cX7_isNotEither 9 = .ok (.iconst 1, 1) := by decide +kernel
theorem dX7_isNotEither_10 : decode cX7_isNotEither 10 = .ok (.goto 4, 3) := by decide +kernel
theorem dX7_isNotEither_13 : decode cX7_isNotEither 13 = .ok (.iconst 0, 1) := by decide +kernel
theorem dX7_isNotEither_14 : decode cX7_isNotEither 14 = .ok (.ireturn, 1) := by decide +kernel
theorem dX7_at_0 : decode cX7_at 0 = .ok (.aload_n 0, 1) := by decide +kernel
theorem dX7_at_1 : decode cX7_at 1 = .ok (.ifnull 19, 3) := by decide +kernel
theorem dX7_at_4 : decode cX7_at 4 = .ok (.iload_n 1, 1) := by decide +kernel
theorem dX7_at_5 : decode cX7_at 5 = .ok (.ifCond .lt 15, 3) := by decide +kernel
theorem dX7_at_8 : decode cX7_at 8 = .ok (.iload_n 1, 1) := by decide +kernel
theorem dX7_at_9 : decode cX7_at 9 = .ok (.aload_n 0, 1) := by decide +kernel
theorem dX7_at_10 : decode cX7_at 10 = .ok (.arraylength, 1) := by decide +kernel
theorem dX7_at_11 : decode cX7_at 11 = .ok (.if_icmp .ge 9, 3) := by decide +kernel
theorem dX7_at_14 : decode cX7_at 14 = .ok (.aload_n 0, 1) := by decide +kernel
theorem dX7_at_15 : decode cX7_at 15 = .ok (.iload_n 1, 1) := by decide +kernel
theorem dX7_at_16 : decode cX7_at 16 = .ok (.iaload, 1) := by decide +kernel
theorem dX7_at_17 : decode cX7_at 17 = .ok (.goto 4, 3) := by decide +kernel
theorem dX7_at_20 : decode cX7_at 20 = .ok (.iconst 0, 1) := by decide +kernel
theorem dX7_at_21 : decode cX7_at 21 = .ok (.ireturn, 1) := by decide +kernel
theorem dX7_put_0 : decode cX7_put 0 = .ok (.aload_n 0, 1) := by decide +kernel
theorem dX7_put_1 : decode cX7_put 1 = .ok (.ifnull 17, 3) := by decide +kernel
theorem dX7_put_4 : decode cX7_put 4 = .ok (.iload_n 1, 1) := by decide +kernel
theorem dX7_put_5 : decode cX7_put 5 = .ok (.ifCond .lt 13, 3) := by decide +kernel
theorem dX7_put_8 : decode cX7_put 8 = .ok (.iload_n 1, 1) := by decide +kernel
theorem dX7_put_9 : decode cX7_put 9 = .ok (.aload_n 0, 1) := by decide +kernel
theorem dX7_put_10 : decode cX7_put 10 = .ok (.arraylength, 1) := by decide +kernel
theorem dX7_put_11 : decode cX7_put 11 = .ok (.if_icmp .ge 7, 3) := by decide +kernel
theorem dX7_put_14 : decode cX7_put 14 = .ok (.aload_n 0, 1) := by decide +kernel
theorem dX7_put_15 : decode cX7_put 15 = .ok (.iload_n 1, 1) := by decide +kernel
theorem dX7_put_16 : decode cX7_put 16 = .ok (.iload_n 2, 1) := by decide +kernel
theorem dX7_put_17 : decode cX7_put 17 = .ok (.iastore, 1) := by decide +kernel
theorem dX7_put_18 : decode cX7_put 18 = .ok (.return_, 1) := by decide +kernel
theorem dX7_copy_0 : decode cX7_copy 0 = .ok (.aload_n 0, 1) := by decide +kernel
theorem dX7_copy_1 : decode cX7_copy 1 = .ok (.ifnull 7, 3) := by decide +kernel
theorem dX7_copy_4 : decode cX7_copy 4 = .ok (.aload_n 1, 1) := by decide +kernel
theorem dX7_copy_5 : decode cX7_copy 5 = .ok (.ifnonnull 4, 3) := by decide +kernel
theorem dX7_copy_8 : decode cX7_copy 8 = .ok (.return_, 1) := by decide +kernel
theorem dX7_copy_9 : decode cX7_copy 9 = .ok (.iconst 0, 1) := by decide +kernel
theorem dX7_copy_10 : decode cX7_copy 10 = .ok (.istore_n 2, 1) := by decide +kernel
theorem dX7_copy_11 : decode cX7_copy 11 = .ok (.iload_n 2, 1) := by decide +kernel
theorem dX7_copy_12 : decode cX7_copy 12 = .ok (.aload_n 0, 1) := by decide +kernel
theorem dX7_copy_13 : decode cX7_copy 13 = .ok (.arraylength, 1) := by decide +kernel
theorem dX7_copy_14 : decode cX7_copy 14 = .ok (.if_icmp .ge 21, 3) := by decide +kernel
theorem dX7_copy_17 : decode cX7_copy 17 = .ok (.iload_n 2, 1) := by decide +kernel
theorem dX7_copy_18 : decode cX7_copy 18 = .ok (.aload_n 1, 1) := by decide +kernel
theorem dX7_copy_19 : decode cX7_copy 19 = .ok (.arraylength, 1) := by decide +kernel
theorem dX7_copy_20 : decode cX7_copy 20 = .ok (.if_icmp .ge 15, 3) := by decide +kernel
theorem dX7_copy_23 : decode cX7_copy 23 = .ok (.aload_n 1, 1) := by decide +kernel
theorem dX7_copy_24 : decode cX7_copy 24 = .ok (.iload_n 2, 1) := by decide +kernel
theorem dX7_copy_25 : decode cX7_copy 25 = .ok (.aload_n 0, 1) := by decide +kernel
theorem dX7_copy_26 : decode cX7_copy 26 = .ok (.iload_n 2, 1) := by decide +kernel
theorem dX7_copy_27 : decode cX7_copy 27 = .ok (.iaload, 1) := by decide +kernel
theorem dX7_copy_28 : decode cX7_copy 28 = .ok (.iastore, 1) := by decide +kernel
theorem dX7_copy_29 : decode cX7_copy 29 = .ok (.iinc 2 1, 3) := by decide +kernel
theorem dX7_copy_32 : decode cX7_copy 32 = .ok (.goto (-21), 3) := by decide +kernel
theorem dX7_copy_35 : decode cX7_copy 35 = .ok (.return_, 1) := by decide +kernel
theorem dX7_has_0 : decode cX7_has 0 = .ok (.iload_n 1, 1) := by decide +kernel
theorem dX7_has_1 : decode cX7_has 1 = .ok (.ifCond .lt 22, 3) := by decide +kernel
theorem dX7_has_4 : decode cX7_has 4 = .ok (.iload_n 1, 1) := by decide +kernel
theorem dX7_has_5 : decode cX7_has 5 = .ok (.bipush 32, 2) := by decide +kernel
theorem dX7_has_7 : decode cX7_has 7 = .ok (.if_icmp .ge 16, 3) := by decide +kernel
theorem dX7_has_10 : decode cX7_has 10 = .ok (.iload_n 0, 1) := by decide +kernel
theorem dX7_has_11 : decode cX7_has 11 = .ok (.iload_n 1, 1) := by decide +kernel
theorem dX7_has_12 : decode cX7_has 12 = .ok (.ishr, 1) := by decide +kernel
theorem dX7_has_13 : decode cX7_has 13 = .ok (.iconst 1, 1) := by decide +kernel
theorem dX7_has_14 : decode cX7_has 14 = .ok (.iand, 1) := by decide +kernel
theorem dX7_has_15 : decode cX7_has 15 = .ok (.iconst 1, 1) := by decide +kernel
theorem dX7_has_16 : decode cX7_has 16 = .ok (.if_icmp .ne 7, 3) := by decide +kernel
theorem dX7_has_19 : decode cX7_has 19 = .ok (.iconst 1, 1) := by decide +kernel
theorem dX7_has_20 : decode cX7_has 20 = .ok (.goto 4, 3) := by decide +kernel
theorem dX7_has_23 : decode cX7_has 23 = .ok (.iconst 0, 1) := by decide +kernel
theorem dX7_has_24 : decode cX7_has 24 = .ok (.ireturn, 1) := by decide +kernel
set_option maxRecDepth 20000 in
theorem ggX7_bitAt_X7_has : GoodIn wsX7_bitAt wsX7_has := goodIn_r _ [4] (by decide +kernel) (by decide +kernel)
set_option maxRecDepth 20000 in
theorem gX7_bitAt_X7_has : GoodIn wsX7_bitAt (va_wsS RX7 294 yX7_has wsX7_has) := goodIn_app (goodIn_of _ (by decide +kernel)) ggX7_bitAt_X7_has
theorem dX7_bitAt_0 : decode cX7_bitAt 0 = .ok (.iload_n 1, 1) := by decide +kernel
theorem dX7_bitAt_1 : decode cX7_bitAt 1 = .ok (.istore_n 2, 1) := by decide +kernel
theorem dX7_bitAt_2 : decode cX7_bitAt 2 = .ok (.iconst 0, 1) := by decide +kernel
theorem dX7_bitAt_3 : decode cX7_bitAt 3 = .ok (.istore_n 3, 1) := by decide +kernel
theorem dX7_bitAt_4 : decode cX7_bitAt 4 = .ok (.iload_n 3, 1) := by decide +kernel
theorem dX7_bitAt_5 : decode cX7_bitAt 5 = .ok (.bipush 32, 2) := by decide +kernel
theorem dX7_bitAt_7 : decode cX7_bitAt 7 = .ok (.if_icmp .ge 26, 3) := by decide +kernel
theorem dX7_bitAt_10 : decode cX7_bitAt 10 = .ok (.iload_n 0, 1) := by decide +kernel
theorem dX7_bitAt_11 : decode cX7_bitAt 11 = .ok (.iload_n 3, 1) := by decide +kernel
theorem dX7_bitAt_12 : decode cX7_bitAt 12 = .ok (.invokestatic 294, 3) := by decide +kernel
theorem dX7_bitAt_15 : decode cX7_bitAt 15 = .ok (.ifCond .eq 12, 3) := by decide +kernel
theorem dX7_bitAt_18 : decode cX7_bitAt 18 = .ok (.iload_n 2, 1) := by decide +kernel
theorem dX7_bitAt_19 : decode cX7_bitAt 19 = .ok (.ifCond .ne 5, 3) := by decide +kernel
theorem dX7_bitAt_22 : decode cX7_bitAt 22 = .ok (.iload_n 3, 1) := by decide +kernel
theorem dX7_bitAt_23 : decode cX7_bitAt 23 = .ok (.ireturn, 1) := by decide +kernel
theorem dX7_bitAt_24 : decode cX7_bitAt 24 = .ok (.iinc 2 (-1), 3) := by decide +kernel
theorem dX7_bitAt_27 : decode cX7_bitAt 27 = .ok (.iinc 3 1, 3) := by decide +kernel
theorem dX7_bitAt_30 : decode cX7_bitAt 30 = .ok (.goto (-26), 3) := by decide +kernel
theorem dX7_bitAt_33 : decode cX7_bitAt 33 = .ok (.bipush (-9), 2) := by decide +kernel
theorem dX7_bitAt_35 : decode cX7_bitAt 35 = .ok (.ireturn, 1) := by decide +kernel
set_option maxRecDepth 20000 in
theorem ggX7_onlyOne_J6_bitCount_0f7a4 : GoodIn wsX7_onlyOne wsJ6_bitCount_0f7a4 := goodIn_r _ [4, 5, 6, 7] (by decide +kernel) (by decide +kernel)
set_option maxRecDepth 20000 in
theorem gX7_onlyOne_J6_bitCount_0f7a4 : GoodIn wsX7_onlyOne (va_wsS RX7 154 yJ6_bitCount_0f7a4 wsJ6_bitCount_0f7a4) := goodIn_app (goodIn_of _ (by decide +kernel)) ggX7_onlyOne_J6_bitCount_0f7a4
set_option maxRecDepth 20000 in
theorem ggX7_onlyOne_X7_bitAt : GoodIn wsX7_onlyOne wsX7_bitAt := goodIn_r _ [11, 12, 13, 10, 14] (by decide +kernel) (by decide +kernel)
set_option maxRecDepth 20000 in
theorem gX7_onlyOne_X7_bitAt : GoodIn wsX7_onlyOne (va_wsS RX7 298 yX7_bitAt wsX7_bitAt) := goodIn_app (goodIn_of _ (by decide +kernel)) ggX7_onlyOne_X7_bitAt
theorem dX7_onlyOne_0 : decode cX7_onlyOne 0 = .ok (.iload_n 0, 1) := by decide +kernel
theorem dX7_onlyOne_1 : decode cX7_onlyOne 1 = .ok (.invokestatic 154, 3) := by decide +kernel
theorem dX7_onlyOne_4 : decode cX7_onlyOne 4 = .ok (.iconst 1, 1) := by decide +kernel
theorem dX7_onlyOne_5 : decode cX7_onlyOne 5 = .ok (.if_icmp .ne 11, 3) := by decide +kernel
theorem dX7_onlyOne_8 : decode cX7_onlyOne 8 = .ok (.iload_n 0, 1) := by decide +kernel
theorem dX7_onlyOne_9 : decode cX7_onlyOne 9 = .ok (.iconst 0, 1) := by decide +kernel
theorem dX7_onlyOne_10 : decode cX7_onlyOne 10 = .ok (.invokestatic 298, 3) := by decide +kernel
theorem dX7_onlyOne_13 : decode cX7_onlyOne 13 = .ok (.goto 5, 3) := by decide +kernel
theorem dX7_onlyOne_16 : decode cX7_onlyOne 16 = .ok (.bipush (-9), 2) := by decide +kernel
theorem dX7_onlyOne_18 : decode cX7_onlyOne 18 = .ok (.ireturn, 1) := by decide +kernel
theorem dX8_init_0 : decode cX8_init 0 = .ok (.aload_n 0, 1) := by decide +kernel
theorem dX8_init_1 : decode cX8_init 1 = .ok (.invokespecial 1, 3) := by decide +kernel
theorem dX8_init_4 : decode cX8_init 4 = .ok (.aload_n 0, 1) := by decide +kernel
theorem dX8_init_5 : decode cX8_init 5 = .ok (.bipush 7, 2) := by decide +kernel
theorem dX8_init_7 : decode cX8_init 7 = .ok (.newarray .int, 2) := by decide +kernel
theorem dX8_init_9 : decode cX8_init 9 = .ok (.putfield 7, 3) := by decide +kernel
theorem dX8_init_12 : decode cX8_init 12 = .ok (.aload_n 0, 1) := by decide +kernel
theorem dX8_init_13 : decode cX8_init 13 = .ok (.bipush 8, 2) := by decide +kernel
theorem dX8_init_15 : decode cX8_init 15 = .ok (.newarray .int, 2) := by decide +kernel
theorem dX8_init_17 : decode cX8_init 17 = .ok (.putfield 13, 3) := by decide +kernel
theorem dX8_init_20 : decode cX8_init 20 = .ok (.aload_n 0, 1) := by decide +kernel
theorem dX8_init_21 : decode cX8_init 21 = .ok (.bipush 8, 2) := by decide +kernel
theorem dX8_init_23 : decode cX8_init 23 = .ok (.newarray .int, 2) := by decide +kernel
theorem dX8_init_25 : decode cX8_init 25 = .ok (.putfield 16, 3) := by decide +kernel
theorem dX8_init_28 : decode cX8_init 28 = .ok (.aload_n 0, 1) := by decide +kernel
theorem dX8_init_29 : decode cX8_init 29 = .ok (.bipush 8, 2) := by decide +kernel
theorem dX8_init_31 : decode cX8_init 31 = .ok (.newarray .int, 2) := by decide +kernel
theorem dX8_init_33 : decode cX8_init 33 = .ok (.putfield 19, 3) := by decide +kernel
theorem dX8_init_36 : decode cX8_init 36 = .ok (.aload_n 0, 1) := by decide +kernel
theorem dX8_init_37 : decode cX8_init 37 = .ok (.bipush 8, 2) := by decide +kernel
theorem dX8_init_39 : decode cX8_init 39 = .ok (.newarray .int, 2) := by decide +kernel
theorem dX8_init_41 : decode cX8_init 41 = .ok (.putfield 22, 3) := by decide +kernel
theorem dX8_init_44 : decode cX8_init 44 = .ok (.aload_n 0, 1) := by decide +kernel
theorem dX8_init_45 : decode cX8_init 45 = .ok (.bipush 8, 2) := by decide +kernel
theorem dX8_init_47 : decode cX8_init 47 = .ok (.newarray .int, 2) := by decide +kernel
theorem dX8_init_49 : decode cX8_init 49 = .ok (.putfield 25, 3) := by decide +kernel
theorem dX8_init_52 : decode cX8_init 52 = .ok (.aload_n 0, 1) := by decide +kernel
theorem dX8_init_53 : decode cX8_init 53 = .ok (.iconst 5, 1) := by decide +kernel
theorem dX8_init_54 : decode cX8_init 54 = .ok (.newarray .int, 2) := by decide +kernel
theorem dX8_init_56 : decode cX8_init 56 = .ok (.putfield 28, 3) := by decide +kernel
theorem dX8_init_59 : decode cX8_init 59 = .ok (.aload_n 0, 1) := by decide +kernel
theorem dX8_init_60 : decode cX8_init 60 = .ok (.iconst 5, 1) := by decide +kernel
theorem dX8_init_61 : decode cX8_init 61 = .ok (.newarray .int, 2) := by decide +kernel
theorem dX8_init_63 : decode cX8_init 63 = .ok (.putfield 31, 3) := by decide +kernel
theorem dX8_init_66 : decode cX8_init 66 = .ok (.aload_n 0, 1) := by decide +kernel
theorem dX8_init_67 : decode cX8_init 67 = .ok (.iconst 5, 1) := by decide +kernel
theorem dX8_init_68 : decode cX8_init 68 = .ok (.newarray .int, 2) := by decide +kernel
theorem dX8_init_70 : decode cX8_init 70 = .ok (.putfield 34, 3) := by decide +kernel
theorem dX8_init_73 : decode cX8_init 73 = .ok (.aload_n 0, 1) := by decide +kernel
theorem dX8_init_74 : decode cX8_init 74 = .ok (.iconst 5, 1) := by decide +kernel
theorem dX8_init_75 : decode cX8_init 75 = .ok (.newarray .int, 2) := by decide +kernel
theorem dX8_init_77 : decode cX8_init 77 = .ok (.putfield 37, 3) := by decide +kernel
theorem dX8_init_80 : decode cX8_init 80 = .ok (.aload_n 0, 1) := by decide +kernel
theorem dX8_init_81 : decode cX8_init 81 = .ok (.bipush 96, 2) := by decide +kernel
theorem dX8_init_83 : decode cX8_init 83 = .ok (.newarray .int, 2) := by decide +kernel
theorem dX8_init_85 : decode cX8_init 85 = .ok (.putfield 40, 3) := by decide +kernel
theorem dX8_init_88 : decode cX8_init 88 = .ok (.aload_n 0, 1) := by decide +kernel
theorem dX8_init_89 : decode cX8_init 89 = .ok (.bipush 48, 2) := by decide +kernel
theorem dX8_init_91 : decode cX8_init 91 = .ok (.newarray .int, 2) := by decide +kernel
theorem dX8_init_93 : decode cX8_init 93 = .ok (.putfield 43, 3) := by decide +kernel
theorem dX8_init_96 : decode cX8_init 96 = .ok (.aload_n 0, 1) := by decide +kernel
theorem dX8_init_97 : decode cX8_init 97 = .ok (.bipush 48, 2) := by decide +kernel
theorem dX8_init_99 : decode cX8_init 99 = .ok (.newarray .int, 2) := by decide +kernel
theorem dX8_init_101 : decode cX8_init 101 = .ok (.putfield 46, 3) := by decide +kernel
theorem dX8_init_104 : decode cX8_init 104 = .ok (.aload_n 0, 1) := by decide +kernel
theorem dX8_init_105 : decode cX8_init 105 = .ok (.sipush 144, 3) := by decide +kernel
theorem dX8_init_108 : decode cX8_init 108 = .ok (.newarray .int, 2) := by decide +kernel
theorem dX8_init_110 : decode cX8_init 110 = .ok (.putfield 49, 3) := by decide +kernel
theorem dX8_init_113 : decode cX8_init 113 = .ok (.aload_n 0, 1) := by decide +kernel
theorem dX8_init_114 : decode cX8_init 114 = .ok (.sipush 189, 3) := by decide +kernel
theorem dX8_init_117 : decode cX8_init 117 = .ok (.newarray .int, 2) := by decide +kernel
theorem dX8_init_119 : decode cX8_init 119 = .ok (.putfield 52, 3) := by decide +kernel
theorem dX8_init_122 : decode cX8_init 122 = .ok (.aload_n 0, 1) := by decide +kernel
theorem dX8_init_123 : decode cX8_init 123 = .ok (.bipush 6, 2) := by decide +kernel
theorem dX8_init_125 : decode cX8_init 125 = .ok (.sipush 256, 3) := by decide +kernel
theorem dX8_init_128 : decode cX8_init 128 = .ok (.multianewarray 55 2, 4) := by decide +kernel
theorem dX8_init_132 : decode cX8_init 132 = .ok (.putfield 57, 3) := by decide +kernel
theorem dX8_init_135 : decode cX8_init 135 = .ok (.aload_n 0, 1) := by decide +kernel
theorem dX8_init_136 : decode cX8_init 136 = .ok (.bipush 16, 2) := by decide +kernel
theorem dX8_init_138 : decode cX8_init 138 = .ok (.newarray .int, 2) := by decide +kernel
theorem dX8_init_140 : decode cX8_init 140 = .ok (.putfield 60, 3) := by decide +kernel
theorem dX8_init_143 : decode cX8_init 143 = .ok (.aload_n 0, 1) := by decide +kernel
theorem dX8_init_144 : decode cX8_init 144 = .ok (.bipush 8, 2) := by decide +kernel
theorem dX8_init_146 : decode cX8_init 146 = .ok (.newarray .int, 2) := by decide +kernel
theorem dX8_init_148 : decode cX8_init 148 = .ok (.putfield 63, 3) := by decide +kernel
theorem dX8_init_151 : decode cX8_init 151 = .ok (.aload_n 0, 1) := by decide +kernel
theorem dX8_init_152 : decode cX8_init 152 = .ok (.iconst 0, 1) := by decide +kernel
theorem dX8_init_153 : decode cX8_init 153 = .ok (.putfield 66, 3) := by decide +kernel
theorem dX8_init_156 : decode cX8_init 156 = .ok (.return_, 1) := by decide +kernel
theorem dX8_no_0 : decode cX8_no 0 = .ok (.aload_n 0, 1) := by decide +kernel
theorem dX8_no_1 : decode cX8_no 1 = .ok (.getfield 7, 3) := by decide +kernel
theorem dX8_no_4 : decode cX8_no 4 = .ok (.iload_n 1, 1) := by decide +kernel
theorem dX8_no_5 : decode cX8_no 5 = .ok (.ineg, 1) := by decide +kernel
theorem dX8_no_6 : decode cX8_no 6 = .ok (.dup2, 1) := by decide +kernel
theorem dX8_no_7 : decode cX8_no 7 = .ok (.iaload, 1) := by decide +kernel
theorem dX8_no_8 : decode cX8_no 8 = .ok (.iconst 1, 1) := by decide +kernel
theorem dX8_no_9 : decode cX8_no 9 = .ok (.iadd, 1) := by decide +kernel
theorem dX8_no_10 : decode cX8_no 10 = .ok (.iastore, 1) := by decide +kernel
theorem dX8_no_11 : decode cX8_no 11 = .ok (.iload_n 1, 1) := by decide +kernel
theorem dX8_no_12 : decode cX8_no 12 = .ok (.ireturn, 1) := by decide +kernel
theorem dX8_lowestOf_0 : decode cX8_lowestOf 0 = .ok (.aload_n 0, 1) := by decide +kernel
theorem dX8_lowestOf_1 : decode cX8_lowestOf 1 = .ok (.getfield 7, 3) := by decide +kernel
theorem dX8_lowestOf_4 : decode cX8_lowestOf 4 = .ok (.iload_n 1, 1) := by decide +kernel
theorem dX8_lowestOf_5 : decode cX8_lowestOf 5 = .ok (.ineg, 1) := by decide +kernel
theorem dX8_lowestOf_6 : decode cX8_lowestOf 6 = .ok (.dup2, 1) := by decide +kernel
theorem dX8_lowestOf_7 : decode cX8_lowestOf 7 = .ok (.iaload, 1) := by decide +kernel
theorem dX8_lowestOf_8 : decode cX8_lowestOf 8 = .ok (.iconst 1, 1) := by decide +kernel
theorem dX8_lowestOf_9 : decode cX8_lowestOf 9 = .ok (.iadd, 1) := by decide +kernel
theorem dX8_lowestOf_10 : decode cX8_lowestOf 10 = .ok (.iastore, 1) := by decide +kernel
theorem dX8_lowestOf_11 : decode cX8_lowestOf 11 = .ok (.ldc2_w 70, 3) := by decide +kernel
theorem dX8_lowestOf_14 : decode cX8_lowestOf 14 = .ok (.iload_n 1, 1) := by decide +kernel
theorem dX8_lowestOf_15 : decode cX8_lowestOf 15 = .ok (.i2l, 1) := by decide +kernel
theorem dX8_lowestOf_16 : decode cX8_lowestOf 16 = .ok (.lsub, 1) := by decide +kernel
theorem dX8_lowestOf_17 : decode cX8_lowestOf 17 = .ok (.lreturn, 1) := by decide +kernel
theorem dX8_isIn_0 : decode cX8_isIn 0 = .ok (.iload_n 0, 1) := by decide +kernel
theorem dX8_isIn_1 : decode cX8_isIn 1 = .ok (.iload_n 1, 1) := by decide +kernel
theorem dX8_isIn_2 : decode cX8_isIn 2 = .ok (.if_icmp .lt 12, 3) := by decide +kernel
theorem dX8_isIn_5 : decode cX8_isIn 5 = .ok (.iload_n 0, 1) := by decide +kernel
theorem dX8_isIn_6 : decode cX8_isIn 6 = .ok (.iload_n 2, 1) := by decide +kernel
theorem dX8_isIn_7 : decode cX8_isIn 7 = .ok (.if_icmp .gt 7, 3) := by decide +kernel
theorem dX8_isIn_10 : decode cX8_isIn 10 = .ok (.iconst 1, 1) := by decide +kernel
theorem dX8_isIn_11 : decode cX8_isIn 11 = .ok (.goto 4, 3) := by decide +kernel
theorem dX8_isIn_14 : decode cX8_isIn 14 = .ok (.iconst 0, 1) := by decide +kernel
theorem dX8_isIn_15 : decode cX8_isIn 15 = .ok (.ireturn, 1) := by decide +kernel
theorem dX8_bound_0 : decode cX8_bound 0 = .ok (.iload_n 0, 1) := by decide +kernel
theorem dX8_bound_1 : decode cX8_bound 1 = .ok (.iload_n 1, 1) := by decide +kernel
theorem dX8_bound_2 : decode cX8_bound 2 = .ok (.if_icmp .ge 8, 3) := by decide +kernel
theorem dX8_bound_5 : decode cX8_bound 5 = .ok (.bipush (-4), 2) := by decide +kernel
theorem dX8_bound_7 : decode cX8_bound 7 = .ok (.goto 14, 3) := by decide +kernel
theorem dX8_bound_10 : decode cX8_bound 10 = .ok (.iload_n 0, 1) := by decide +kernel
theorem dX8_bound_11 : decode cX8_bound 11 = .ok (.iload_n 2, 1) := by decide +kernel
theorem dX8_bound_12 : decode cX8_bound 12 = .ok (.if_icmp .le 8, 3) := by decide +kernel
theorem dX8_bound_15 : decode cX8_bound 15 = .ok (.bipush (-6), 2) := by decide +kernel
theorem dX8_bound_17 : decode cX8_bound 17 = .ok (.goto 4, 3) := by decide +kernel
theorem dX8_bound_20 : decode cX8_bound 20 = .ok (.iconst 0, 1) := by decide +kernel
theorem dX8_bound_21 : decode cX8_bound 21 = .ok (.ireturn, 1) := by decide +kernel
theorem dX8_has_0 : decode cX8_has 0 = .ok (.iload_n 0, 1) := by decide +kernel
theorem dX8_has_1 : decode cX8_has 1 = .ok (.iload_n 1, 1) := by decide +kernel
theorem dX8_has_2 : decode cX8_has 2 = .ok (.ishr, 1) := by decide +kernel
theorem dX8_has_3 : decode cX8_has 3 = .ok (.iconst 1, 1) := by decide +kernel
theorem dX8_has_4 : decode cX8_has 4 = .ok (.iand, 1) := by decide +kernel
theorem dX8_has_5 : decode cX8_has 5 = .ok (.iconst 1, 1) := by decide +kernel
theorem dX8_has_6 : decode cX8_has 6 = .ok (.if_icmp .ne 7, 3) := by decide +kernel
theorem dX8_has_9 : decode cX8_has 9 = .ok (.iconst 1, 1) := by decide +kernel
theorem dX8_has_10 : decode cX8_has 10 = .ok (.goto 4, 3) := by decide +kernel
theorem dX8_has_13 : decode cX8_has 13 = .ok (.iconst 0, 1) := by decide +kernel
theorem dX8_has_14 : decode cX8_has 14 = .ok (.ireturn, 1) := by decide +kernel
theorem dX8_bits_0 : decode cX8_bits 0 = .ok (.iconst 0, 1) := by decide +kernel
theorem dX8_bits_1 : decode cX8_bits 1 = .ok (.istore_n 1, 1) := by decide +kernel
theorem dX8_bits_2 : decode cX8_bits 2 = .ok (.iconst 0, 1) := by decide +kernel
theorem dX8_bits_3 : decode cX8_bits 3 = .ok (.istore_n 2, 1) := by decide +kernel
theorem dX8_bits_4 : decode cX8_bits 4 = .ok (.iload_n 2, 1) := by decide +kernel
theorem dX8_bits_5 : decode cX8_bits 5 = .ok (.bipush 31, 2) := by decide +kernel
theorem dX8_bits_7 : decode cX8_bits 7 = .ok (.if_icmp .ge 17, 3) := by decide +kernel
theorem dX8_bits_10 : decode cX8_bits 10 = .ok (.iload_n 1, 1) := by decide +kernel
theorem dX8_bits_11 : decode cX8_bits 11 = .ok (.iload_n 0, 1) := by decide +kernel
theorem dX8_bits_12 : decode cX8_bits 12 = .ok (.iload_n 2, 1) := by decide +kernel
theorem dX8_bits_13 : decode cX8_bits 13 = .ok (.ishr, 1) := by decide +kernel
theorem dX8_bits_14 : decode cX8_bits 14 = .ok (.iconst 1, 1) := by decide +kernel
theorem dX8_bits_15 : decode cX8_bits 15 = .ok (.iand, 1) := by decide +kernel
theorem dX8_bits_16 : decode cX8_bits 16 = .ok (.iadd, 1) := by decide +kernel
theorem dX8_bits_17 : decode cX8_bits 17 = .ok (.istore_n 1, 1) := by decide +kernel
theorem dX8_bits_18 : decode cX8_bits 18 = .ok (.iinc 2 1, 3) := by decide +kernel
theorem dX8_bits_21 : decode cX8_bits 21 = .ok (.goto (-17), 3) := by decide +kernel
theorem dX8_bits_24 : decode cX8_bits 24 = .ok (.iload_n 1, 1) := by decide +kernel
theorem dX8_bits_25 : decode cX8_bits 25 = .ok (.ireturn, 1) := by decide +kernel
set_option maxRecDepth 20000 in
theorem ggX8_lowest_X8_has : GoodIn wsX8_lowest wsX8_has := goodIn_r _ [4] (by decide +kernel) (by decide +kernel)
set_option maxRecDepth 20000 in
theorem gX8_lowest_X8_has : GoodIn wsX8_lowest (va_wsS RX8 72 yX8_has wsX8_has) := goodIn_app (goodIn_of _ (by decide +kernel)) ggX8_lowest_X8_has
theorem dX8_lowest_0 : decode cX8_lowest 0 = .ok (.iconst 0, 1) := by decide +kernel
theorem dX8_lowest_1 : decode cX8_lowest 1 = .ok (.istore_n 1, 1) := by decide +kernel
theorem dX8_lowest_2 : decode cX8_lowest 2 = .ok (.iload_n 0, 1) := by decide +kernel
theorem dX8_lowest_3 : decode cX8_lowest 3 = .ok (.iload_n 1, 1) := by decide +kernel
theorem dX8_lowest_4 : decode cX8_lowest 4 = .ok (.invokestatic 72, 3) := by decide +kernel
theorem dX8_lowest_7 : decode cX8_lowest 7 = .ok (.ifCond .ne 9, 3) := by decide +kernel
theorem dX8_lowest_10 : decode cX8_lowest 10 = .ok (.iinc 1 1, 3) := by decide +kernel
theorem dX8_lowest_13 : decode cX8_lowest 13 = .ok (.goto (-11), 3) := by decide +kernel
theorem dX8_lowest_16 : decode cX8_lowest 16 = .ok (.iload_n 1, 1) := by decide +kernel
theorem dX8_lowest_17 : decode cX8_lowest 17 = .ok (.ireturn, 1) := by decide +kernel
theorem dX8_isBride_0 : decode cX8_isBride 0 = .ok (.iload_n 1, 1) := by decide +kernel
theorem dX8_isBride_1 : decode cX8_isBride 1 = .ok (.ifCond .lt 15, 3) := by decide +kernel
theorem dX8_isBride_4 : decode cX8_isBride 4 = .ok (.iload_n 1, 1) := by decide +kernel
theorem dX8_isBride_5 : decode cX8_isBride 5 = .ok (.aload_n 0, 1) := by decide +kernel
theorem dX8_isBride_6 : decode cX8_isBride 6 = .ok (.getfield 66, 3) := by decide +kernel
theorem dX8_isBride_9 : decode cX8_isBride 9 = .ok (.if_icmp .ge 7, 3) := by decide +kernel
theorem dX8_isBride_12 : decode cX8_isBride 12 = .ok (.iconst 1, 1) := by decide +kernel
theorem dX8_isBride_13 : decode cX8_isBride 13 = .ok (.goto 4, 3) := by decide +kernel
theorem dX8_isBride_16 : decode cX8_isBride 16 = .ok (.iconst 0, 1) := by decide +kernel
theorem dX8_isBride_17 : decode cX8_isBride 17 = .ok (.ireturn, 1) := by decide +kernel
theorem dX8_isGroom_0 : decode cX8_isGroom 0 = .ok (.iload_n 1, 1) := by decide +kernel
theorem dX8_isGroom_1 : decode cX8_isGroom 1 = .ok (.ifCond .lt 15, 3) := by decide +kernel
theorem dX8_isGroom_4 : decode cX8_isGroom 4 = .ok (.iload_n 1, 1) := by decide +kernel
theorem dX8_isGroom_5 : decode cX8_isGroom 5 = .ok (.aload_n 0, 1) := by decide +kernel
theorem dX8_isGroom_6 : decode cX8_isGroom 6 = .ok (.getfield 76, 3) := by decide +kernel
theorem dX8_isGroom_9 : decode cX8_isGroom 9 = .ok (.if_icmp .ge 7, 3) := by decide +kernel
theorem dX8_isGroom_12 : decode cX8_isGroom 12 = .ok (.iconst 1, 1) := by decide +kernel
theorem dX8_isGroom_13 : decode cX8_isGroom 13 = .ok (.goto 4, 3) := by decide +kernel
theorem dX8_isGroom_16 : decode cX8_isGroom 16 = .ok (.iconst 0, 1) := by decide +kernel
theorem dX8_isGroom_17 : decode cX8_isGroom 17 = .ok (.ireturn, 1) := by decide +kernel
set_option maxRecDepth 20000 in
theorem ggX8_letter_X8_bound : GoodIn wsX8_letter wsX8_bound := goodIn_r _ [6] (by decide +kernel) (by decide +kernel)
set_option maxRecDepth 20000 in
theorem gX8_letter_X8_bound : GoodIn wsX8_letter (va_wsS RX8 79 yX8_bound wsX8_bound) := goodIn_app (goodIn_of _ (by decide +kernel)) ggX8_letter_X8_bound
set_option maxRecDepth 20000 in
theorem ggX8_letter_X8_no : GoodIn wsX8_letter wsX8_no := goodIn_r _ [10, 11, 12, 13, 14, 15, 16, 17, 18, 19, 20, 21, 22, 23, 24, 25, 26, 27, 28, 29, 30, 31, 32, 33, 34, 35, 36, 37, 38, 39, 40] (by decide +kernel) (by decide +kernel)
set_option maxRecDepth 20000 in
theorem gX8_letter_X8_no : GoodIn wsX8_letter (wsV RX8 86 RX8 yX8_no wsX8_no) := goodIn_app (goodIn_of _ (by decide +kernel)) ggX8_letter_X8_no
theorem dX8_letter_0 : decode cX8_letter 0 = .ok (.iload_n 1, 1) := by decide +kernel
theorem dX8_letter_1 : decode cX8_letter 1 = .ok (.iconst 0, 1) := by decide +kernel
theorem dX8_letter_2 : decode cX8_letter 2 = .ok (.sipush 255, 3) := by decide +kernel
theorem dX8_letter_5 : decode cX8_letter 5 = .ok (.invokestatic 79, 3) := by decide +kernel
theorem dX8_letter_8 : decode cX8_letter 8 = .ok (.istore_n 2, 1) := by decide +kernel
theorem dX8_letter_9 : decode cX8_letter 9 = .ok (.iload_n 2, 1) := by decide +kernel
theorem dX8_letter_10 : decode cX8_letter 10 = .ok (.ifCond .ne 15, 3) := by decide +kernel
theorem dX8_letter_13 : decode cX8_letter 13 = .ok (.aload_n 0, 1) := by decide +kernel
theorem dX8_letter_14 : decode cX8_letter 14 = .ok (.getfield 83, 3) := by decide +kernel
theorem dX8_letter_17 : decode cX8_letter 17 = .ok (.bipush 96, 2) := by decide +kernel
theorem dX8_letter_19 : decode cX8_letter 19 = .ok (.if_icmp .ne 6, 3) := by decide +kernel
theorem dX8_letter_22 : decode cX8_letter 22 = .ok (.bipush (-6), 2) := by decide +kernel
theorem dX8_letter_24 : decode cX8_letter 24 = .ok (.istore_n 2, 1) := by decide +kernel
theorem dX8_letter_25 : decode cX8_letter 25 = .ok (.iload_n 2, 1) := by decide +kernel
theorem dX8_letter_26 : decode cX8_letter 26 = .ok (.ifCond .eq 9, 3) := by decide +kernel
theorem dX8_letter_29 : decode cX8_letter 29 = .ok (.aload_n 0, 1) := by decide +kernel
theorem dX8_letter_30 : decode cX8_letter 30 = .ok (.iload_n 2, 1) := by decide +kernel
theorem dX8_letter_31 : decode cX8_letter 31 = .ok (.invokevirtual 86, 3) := by decide +kernel
theorem dX8_letter_34 : decode cX8_letter 34 = .ok (.ireturn, 1) := by decide +kernel
theorem dX8_letter_35 : decode cX8_letter 35 = .ok (.aload_n 0, 1) := by decide +kernel
theorem dX8_letter_36 : decode cX8_letter 36 = .ok (.getfield 40, 3) := by decide +kernel
theorem dX8_letter_39 : decode cX8_letter 39 = .ok (.aload_n 0, 1) := by decide +kernel
theorem dX8_letter_40 : decode cX8_letter 40 = .ok (.getfield 83, 3) := by decide +kernel
theorem dX8_letter_43 : decode cX8_letter 43 = .ok (.iload_n 1, 1) := by decide +kernel
theorem dX8_letter_44 : decode cX8_letter 44 = .ok (.iastore, 1) := by decide +kernel
theorem dX8_letter_45 : decode cX8_letter 45 = .ok (.aload_n 0, 1) := by decide +kernel
theorem dX8_letter_46 : decode cX8_letter 46 = .ok (.dup, 1) := by decide +kernel
theorem dX8_letter_47 : decode cX8_letter 47 = .ok (.getfield 83, 3) := by decide +kernel
theorem dX8_letter_50 : decode cX8_letter 50 = .ok (.iconst 1, 1) := by decide +kernel
theorem dX8_letter_51 : decode cX8_letter 51 = .ok (.iadd, 1) := by decide +kernel
theorem dX8_letter_52 : decode cX8_letter 52 = .ok (.putfield 83, 3) := by decide +kernel
theorem dX8_letter_55 : decode cX8_letter 55 = .ok (.aload_n 0, 1) := by decide +kernel
theorem dX8_letter_56 : decode cX8_letter 56 = .ok (.getfield 83, 3) := by decide +kernel
theorem dX8_letter_59 : decode cX8_letter 59 = .ok (.ireturn, 1) := by decide +kernel
theorem dX8_next_0 : decode cX8_next 0 = .ok (.aload_n 0, 1) := by decide +kernel
theorem dX8_next_1 : decode cX8_next 1 = .ok (.getfield 90, 3) := by decide +kernel
theorem dX8_next_4 : decode cX8_next 4 = .ok (.aload_n 0, 1) := by decide +kernel
theorem dX8_next_5 : decode cX8_next 5 = .ok (.getfield 83, 3) := by decide +kernel
theorem dX8_next_8 : decode cX8_next 8 = .ok (.if_icmp .ge 15, 3) := by decide +kernel
theorem dX8_next_11 : decode cX8_next 11 = .ok (.aload_n 0, 1) := by decide +kernel
theorem dX8_next_12 : decode cX8_next 12 = .ok (.getfield 40, 3) := by decide +kernel
theorem dX8_next_15 : decode cX8_next 15 = .ok (.aload_n 0, 1) := by decide +kernel
theorem dX8_next_16 : decode cX8_next 16 = .ok (.getfield 90, 3) := by decide +kernel
theorem dX8_next_19 : decode cX8_next 19 = .ok (.iaload, 1) := by decide +kernel
theorem dX8_next_20 : decode cX8_next 20 = .ok (.goto 4, 3) := by decide +kernel
theorem dX8_next_23 : decode cX8_next 23 = .ok (.iconst (-1), 1) := by decide +kernel
theorem dX8_next_24 : decode cX8_next 24 = .ok (.ireturn, 1) := by decide +kernel
set_option maxRecDepth 20000 in
theorem ggX8_readsDigits_X8_next : GoodIn wsX8_readsDigits wsX8_next := goodIn_r _ [7, 1, 8, 9, 13, 14, 15, 16, 17, 18, 19, 20, 21, 22, 23, 24, 25, 26, 27, 28, 29, 30, 31, 32, 33, 34, 35, 36, 37, 38, 39, 40, 41] (by decide +kernel) (by decide +kernel)
set_option maxRecDepth 20000 in
theorem gX8_readsDigits_X8_next : GoodIn wsX8_readsDigits (wsV RX8 93 RX8 yX8_next wsX8_next) := goodIn_app (goodIn_of _ (by decide +kernel)) ggX8_readsDigits_X8_next
set_option maxRecDepth 20000 in
theorem ggX8_readsDigits_X8_isIn : GoodIn wsX8_readsDigits wsX8_isIn := goodIn_r _ [12] (by decide +kernel) (by decide +kernel)
set_option maxRecDepth 20000 in
theorem gX8_readsDigits_X8_isIn : GoodIn wsX8_readsDigits (va_wsS RX8 97 yX8_isIn wsX8_isIn) := goodIn_app (goodIn_of _ (by decide +kernel)) ggX8_readsDigits_X8_isIn
theorem dX8_readsDigits_0 : decode cX8_readsDigits 0 = .ok (.iconst 0, 1) := by decide +kernel
theorem dX8_readsDigits_1 : decode cX8_readsDigits 1 = .ok (.istore_n 3, 1) := by decide +kernel
theorem dX8_readsDigits_2 : decode cX8_readsDigits 2 = .ok (.iconst 0, 1) := by decide +kernel
theorem dX8_readsDigits_3 : decode cX8_readsDigits 3 = .ok (.istore 4, 2) := by decide +kernel
theorem dX8_readsDigits_5 : decode cX8_readsDigits 5 = .ok (.iload 4, 2) := by decide +kernel
theorem dX8_readsDigits_7 : decode cX8_readsDigits 7 = .ok (.iload_n 2, 1) := by decide +kernel
theorem dX8_readsDigits_8 : decode cX8_readsDigits 8 = .ok (.if_icmp .ge 48, 3) := by decide +kernel
theorem dX8_readsDigits_11 : decode cX8_readsDigits 11 = .ok (.aload_n 0, 1) := by decide +kernel
theorem dX8_readsDigits_12 : decode cX8_readsDigits 12 = .ok (.invokevirtual 93, 3) := by decide +kernel
theorem dX8_readsDigits_15 : decode cX8_readsDigits 15 = .ok (.bipush 48, 2) := by decide +kernel
theorem dX8_readsDigits_17 : decode cX8_readsDigits 17 = .ok (.bipush 57, 2) := by decide +kernel
theorem dX8_readsDigits_19 : decode cX8_readsDigits 19 = .ok (.invokestatic 97, 3) := by decide +kernel
theorem dX8_readsDigits_22 : decode cX8_readsDigits 22 = .ok (.ifCond .ne 5, 3) := by decide +kernel
theorem dX8_readsDigits_25 : decode cX8_readsDigits 25 = .ok (.iconst 0, 1) := by decide +kernel
theorem dX8_readsDigits_26 : decode cX8_readsDigits 26 = .ok (.ireturn, 1) := by decide +kernel
theorem dX8_readsDigits_27 : decode cX8_readsDigits 27 = .ok (.bipush 10, 2) := by decide +kernel
theorem dX8_readsDigits_29 : decode cX8_readsDigits 29 = .ok (.iload_n 3, 1) := by decide +kernel
theorem dX8_readsDigits_30 : decode cX8_readsDigits 30 = .ok (.imul, 1) := by decide +kernel
theorem dX8_readsDigits_31 : decode cX8_readsDigits 31 = .ok (.aload_n 0, 1) := by decide +kernel
theorem dX8_readsDigits_32 : decode cX8_readsDigits 32 = .ok (.invokevirtual 93, 3) := by decide +kernel
theorem dX8_readsDigits_35 : decode cX8_readsDigits 35 = .ok (.iadd, 1) := by decide +kernel
theorem dX8_readsDigits_36 : decode cX8_readsDigits 36 = .ok (.bipush 48, 2) := by decide +kernel
theorem dX8_readsDigits_38 : decode cX8_readsDigits 38 = .ok (.isub, 1) := by decide +kernel
theorem dX8_readsDigits_39 : decode cX8_readsDigits 39 = .ok (.istore_n 3, 1) := by decide +kernel
theorem dX8_readsDigits_40 : decode cX8_readsDigits 40 = .ok (.aload_n 0, 1) := by decide +kernel
theorem dX8_readsDigits_41 : decode cX8_readsDigits 41 = .ok (.dup, 1) := by decide +kernel
theorem dX8_readsDigits_42 : decode cX8_readsDigits 42 = .ok (.getfield 90, 3) := by decide +kernel
theorem dX8_readsDigits_45 : decode cX8_readsDigits 45 = .ok (.iconst 1, 1) := by decide +kernel
theorem dX8_readsDigits_46 : decode cX8_readsDigits 46 = .ok (.iadd, 1) := by decide +kernel
theorem dX8_readsDigits_47 : decode cX8_readsDigits 47 = .ok (.putfield 90, 3) := by decide +kernel
theorem dX8_readsDigits_50 : decode cX8_readsDigits 50 = .ok (.iinc 4 1, 3) := by decide +kernel
theorem dX8_readsDigits_53 : decode cX8_readsDigits 53 = .ok (.goto (-48), 3) := by decide +kernel
theorem dX8_readsDigits_56 : decode cX8_readsDigits 56 = .ok (.aload_n 0, 1) := by decide +kernel
theorem dX8_readsDigits_57 : decode cX8_readsDigits 57 = .ok (.getfield 49, 3) := by decide +kernel
theorem dX8_readsDigits_60 : decode cX8_readsDigits 60 = .ok (.iload_n 1, 1) := by decide +kernel
theorem dX8_readsDigits_61 : decode cX8_readsDigits 61 = .ok (.iload_n 3, 1) := by decide +kernel
theorem dX8_readsDigits_62 : decode cX8_readsDigits 62 = .ok (.iastore, 1) := by decide +kernel
theorem dX8_readsDigits_63 : decode cX8_readsDigits 63 = .ok (.iconst 1, 1) := by decide +kernel
theorem dX8_readsDigits_64 : decode cX8_readsDigits 64 = .ok (.ireturn, 1) := by decide +kernel
theorem dX8_kindOf_0 : decode cX8_kindOf 0 = .ok (.iload_n 0, 1) := by decide +kernel
theorem dX8_kindOf_1 : decode cX8_kindOf 1 = .ok (.bipush 98, 2) := by decide +kernel
theorem dX8_kindOf_3 : decode cX8_kindOf 3 = .ok (.if_icmp .ne 7, 3) := by decide +kernel
theorem dX8_kindOf_6 : decode cX8_kindOf 6 = .ok (.iconst 0, 1) := by decide +kernel
theorem dX8_kindOf_7 : decode cX8_kindOf 7 = .ok (.goto 54, 3) := by decide +kernel
theorem dX8_kindOf_10 : decode cX8_kindOf 10 = .ok (.iload_n 0, 1) := by decide +kernel
theorem dX8_kindOf_11 : decode cX8_kindOf 11 = .ok (.bipush 115, 2) := by decide +kernel
theorem dX8_kindOf_13 : decode cX8_kindOf 13 = .ok (.if_icmp .ne 7, 3) := by decide +kernel
theorem dX8_kindOf_16 : decode cX8_kindOf 16 = .ok (.iconst 1, 1) := by decide +kernel
theorem dX8_kindOf_17 : decode cX8_kindOf 17 = .ok (.goto 44, 3) := by decide +kernel
theorem dX8_kindOf_20 : decode cX8_kindOf 20 = .ok (.iload_n 0, 1) := by decide +kernel
theorem dX8_kindOf_21 : decode cX8_kindOf 21 = .ok (.bipush 102, 2) := by decide +kernel
theorem dX8_kindOf_23 : decode cX8_kindOf 23 = .ok (.if_icmp .ne 7, 3) := by decide +kernel
theorem dX8_kindOf_26 : decode cX8_kindOf 26 = .ok (.iconst 2, 1) := by decide +kernel
theorem dX8_kindOf_27 : decode cX8_kindOf 27 = .ok (.goto 34, 3) := by decide +kernel
theorem dX8_kindOf_30 : decode cX8_kindOf 30 = .ok (.iload_n 0, 1) := by decide +kernel
theorem dX8_kindOf_31 : decode cX8_kindOf 31 = .ok (.bipush 99, 2) := by decide +kernel
theorem dX8_kindOf_33 : decode cX8_kindOf 33 = .ok (.if_icmp .ne 7, 3) := by decide +kernel
theorem dX8_kindOf_36 : decode cX8_kindOf 36 = .ok (.iconst 3, 1) := by decide +kernel
theorem dX8_kindOf_37 : decode cX8_kindOf 37 = .ok (.goto 24, 3) := by decide +kernel
theorem dX8_kindOf_40 : decode cX8_kindOf 40 = .ok (.iload_n 0, 1) := by decide +kernel
theorem dX8_kindOf_41 : decode cX8_kindOf 41 = .ok (.bipush 116, 2) := by decide +kernel
theorem dX8_kindOf_43 : decode cX8_kindOf 43 = .ok (.if_icmp .ne 7, 3) := by decide +kernel
theorem dX8_kindOf_46 : decode cX8_kindOf 46 = .ok (.iconst 4, 1) := by decide +kernel
theorem dX8_kindOf_47 : decode cX8_kindOf 47 = .ok (.goto 14, 3) := by decide +kernel
theorem dX8_kindOf_50 : decode cX8_kindOf 50 = .ok (.iload_n 0, 1) := by decide +kernel
theorem dX8_kindOf_51 : decode cX8_kindOf 51 = .ok (.bipush 109, 2) := by decide +kernel
theorem dX8_kindOf_53 : decode cX8_kindOf 53 = .ok (.if_icmp .ne 7, 3) := by decide +kernel
theorem dX8_kindOf_56 : decode cX8_kindOf 56 = .ok (.iconst 5, 1) := by decide +kernel
theorem dX8_kindOf_57 : decode cX8_kindOf 57 = .ok (.goto 4, 3) := by decide +kernel
theorem dX8_kindOf_60 : decode cX8_kindOf 60 = .ok (.iconst (-1), 1) := by decide +kernel
theorem dX8_kindOf_61 : decode cX8_kindOf 61 = .ok (.ireturn, 1) := by decide +kernel
set_option maxRecDepth 20000 in
theorem ggX8_readsBride_X8_next : GoodIn wsX8_readsBride wsX8_next := goodIn_r _ [7, 2, 8, 9, 20, 21, 22, 23, 24, 25, 26, 27, 28, 29, 30, 31, 32, 33, 34, 35, 36, 37, 38, 39, 40, 41, 42, 43, 44, 45, 46, 47, 48] (by decide +kernel) (by decide +kernel)
set_option maxRecDepth 20000 in
theorem gX8_readsBride_X8_next : GoodIn wsX8_readsBride (wsV RX8 93 RX8 yX8_next wsX8_next) := goodIn_app (goodIn_of _ (by decide +kernel)) ggX8_readsBride_X8_next
set_option maxRecDepth 20000 in
theorem ggX8_readsBride_X8_kindOf : GoodIn wsX8_readsBride wsX8_kindOf := goodIn_r _ [12] (by decide +kernel) (by decide +kernel)
set_option maxRecDepth 20000 in
theorem gX8_readsBride_X8_kindOf : GoodIn wsX8_readsBride (va_wsS RX8 101 yX8_kindOf wsX8_kindOf) := goodIn_app (goodIn_of _ (by decide +kernel)) ggX8_readsBride_X8_kindOf
set_option maxRecDepth 20000 in
theorem ggX8_readsBride_X8_readsDigits : GoodIn wsX8_readsBride wsX8_readsDigits := goodIn_r _ [16, 2, 1, 3, 4, 5, 6, 7, 8, 9, 17, 18, 19, 20, 21, 22, 23, 24, 25, 26, 27, 28, 29, 30, 31, 32, 33, 34, 35, 36, 37, 38, 39, 40, 41, 42, 43, 44, 45, 46, 47, 48] (by decide +kernel) (by decide +kernel)
set_option maxRecDepth 20000 in
theorem gX8_readsBride_X8_readsDigits : GoodIn wsX8_readsBride (wsV RX8 104 RX8 yX8_readsDigits wsX8_readsDigits) := goodIn_app (goodIn_of _ (by decide +kernel)) ggX8_readsBride_X8_readsDigits
theorem dX8_readsBride_0 : decode cX8_readsBride 0 = .ok (.aload_n 0, 1) := by decide +kernel
theorem dX8_readsBride_1 : decode cX8_readsBride 1 = .ok (.getfield 49, 3) := by decide +kernel
theorem dX8_readsBride_4 : decode cX8_readsBride 4 = .ok (.iload_n 1, 1) := by decide +kernel
theorem dX8_readsBride_5 : decode cX8_readsBride 5 = .ok (.aload_n 0, 1) := by decide +kernel
theorem dX8_readsBride_6 : decode cX8_readsBride 6 = .ok (.invokevirtual 93, 3) := by decide +kernel
theorem dX8_readsBride_9 : decode cX8_readsBride 9 = .ok (.invokestatic 101, 3) := by decide +kernel
theorem dX8_readsBride_12 : decode cX8_readsBride 12 = .ok (.iastore, 1) := by decide +kernel
theorem dX8_readsBride_13 : decode cX8_readsBride 13 = .ok (.aload_n 0, 1) := by decide +kernel
theorem dX8_readsBride_14 : decode cX8_readsBride 14 = .ok (.getfield 49, 3) := by decide +kernel
theorem dX8_readsBride_17 : decode cX8_readsBride 17 = .ok (.iload_n 1, 1) := by decide +kernel
theorem dX8_readsBride_18 : decode cX8_readsBride 18 = .ok (.iaload, 1) := by decide +kernel
theorem dX8_readsBride_19 : decode cX8_readsBride 19 = .ok (.ifCond .ge 5, 3) := by decide +kernel
theorem dX8_readsBride_22 : decode cX8_readsBride 22 = .ok (.iconst 0, 1) := by decide +kernel
theorem dX8_readsBride_23 : decode cX8_readsBride 23 = .ok (.ireturn, 1) := by decide +kernel
theorem dX8_readsBride_24 : decode cX8_readsBride 24 = .ok (.aload_n 0, 1) := by decide +kernel
theorem dX8_readsBride_25 : decode cX8_readsBride 25 = .ok (.dup, 1) := by decide +kernel
theorem dX8_readsBride_26 : decode cX8_readsBride 26 = .ok (.getfield 90, 3) := by decide +kernel
theorem dX8_readsBride_29 : decode cX8_readsBride 29 = .ok (.iconst 1, 1) := by decide +kernel
theorem dX8_readsBride_30 : decode cX8_readsBride 30 = .ok (.iadd, 1) := by decide +kernel
theorem dX8_readsBride_31 : decode cX8_readsBride 31 = .ok (.putfield 90, 3) := by decide +kernel
theorem dX8_readsBride_34 : decode cX8_readsBride 34 = .ok (.aload_n 0, 1) := by decide +kernel
theorem dX8_readsBride_35 : decode cX8_readsBride 35 = .ok (.iload_n 1, 1) := by decide +kernel
theorem dX8_readsBride_36 : decode cX8_readsBride 36 = .ok (.iconst 1, 1) := by decide +kernel
theorem dX8_readsBride_37 : decode cX8_readsBride 37 = .ok (.iadd, 1) := by decide +kernel
theorem dX8_readsBride_38 : decode cX8_readsBride 38 = .ok (.iconst 1, 1) := by decide +kernel
theorem dX8_readsBride_39 : decode cX8_readsBride 39 = .ok (.invokevirtual 104, 3) := by decide +kernel
theorem dX8_readsBride_42 : decode cX8_readsBride 42 = .ok (.ifCond .eq 18, 3) := by decide +kernel
theorem dX8_readsBride_45 : decode cX8_readsBride 45 = .ok (.aload_n 0, 1) := by decide +kernel
theorem dX8_readsBride_46 : decode cX8_readsBride 46 = .ok (.iload_n 1, 1) := by decide +kernel
theorem dX8_readsBride_47 : decode cX8_readsBride 47 = .ok (.iconst 2, 1) := by decide +kernel
theorem dX8_readsBride_48 : decode cX8_readsBride 48 = .ok (.iadd, 1) := by decide +kernel
theorem dX8_readsBride_49 : decode cX8_readsBride 49 = .ok (.iconst 2, 1) := by decide +kernel
theorem dX8_readsBride_50 : decode cX8_readsBride 50 = .ok (.invokevirtual 104, 3) := by decide +kernel
theorem dX8_readsBride_53 : decode cX8_readsBride 53 = .ok (.ifCond .eq 7, 3) := by decide +kernel
theorem dX8_readsBride_56 : decode cX8_readsBride 56 = .ok (.iconst 1, 1) := by decide +kernel
theorem dX8_readsBride_57 : decode cX8_readsBride 57 = .ok (.goto 4, 3) := by decide +kernel
theorem dX8_readsBride_60 : decode cX8_readsBride 60 = .ok (.iconst 0, 1) := by decide +kernel
theorem dX8_readsBride_61 : decode cX8_readsBride 61 = .ok (.ireturn, 1) := by decide +kernel
set_option maxRecDepth 20000 in
theorem ggX8_readsAll_X8_readsBride : GoodIn wsX8_readsAll wsX8_readsBride := goodIn_r _ [5, 6, 7, 8, 9, 10, 4, 11, 12, 13, 14, 15, 16, 17, 18, 19, 20, 21, 22, 23, 24, 25, 26, 27, 28, 29, 30, 31, 32, 33, 34, 35, 36, 37, 38, 39, 40, 41, 42, 43, 44, 45, 46, 47, 48, 49, 50, 51, 52] (by decide +kernel) (by decide +kernel)
set_option maxRecDepth 20000 in
theorem gX8_readsAll_X8_readsBride : GoodIn wsX8_readsAll (wsV RX8 107 RX8 yX8_readsBride wsX8_readsBride) := goodIn_app (goodIn_of _ (by decide +kernel)) ggX8_readsAll_X8_readsBride
set_option maxRecDepth 20000 in
theorem ggX8_readsAll_X8_readsDigits : GoodIn wsX8_readsAll wsX8_readsDigits := goodIn_r _ [20, 7, 6, 8, 9, 10, 4, 11, 12, 13, 21, 22, 23, 24, 25, 26, 27, 28, 29, 30, 31, 32, 33, 34, 35, 36, 37, 38, 39, 40, 41, 42, 43, 44, 45, 46, 47, 48, 49, 50, 51, 52] (by decide +kernel) (by decide +kernel)
set_option maxRecDepth 20000 in
theorem gX8_readsAll_X8_readsDigits : GoodIn wsX8_readsAll (wsV RX8 104 RX8 yX8_readsDigits wsX8_readsDigits) := goodIn_app (goodIn_of _ (by decide +kernel)) ggX8_readsAll_X8_readsDigits
theorem dX8_readsAll_0 : decode cX8_readsAll 0 = .ok (.iload_n 1, 1) := by decide +kernel
theorem dX8_readsAll_1 : decode cX8_readsAll 1 = .ok (.lookupswitch 89 #[(98, 43), (103, 49), (119, 75), (121, 82)], 43) := by decide +kernel
theorem dX8_readsAll_44 : decode cX8_readsAll 44 = .ok (.aload_n 0, 1) := by decide +kernel
theorem dX8_readsAll_45 : decode cX8_readsAll 45 = .ok (.iload_n 2, 1) := by decide +kernel
theorem dX8_readsAll_46 : decode cX8_readsAll 46 = .ok (.invokevirtual 107, 3) := by decide +kernel
theorem dX8_readsAll_49 : decode cX8_readsAll 49 = .ok (.ireturn, 1) := by decide +kernel
theorem dX8_readsAll_50 : decode cX8_readsAll 50 = .ok (.aload_n 0, 1) := by decide +kernel
theorem dX8_readsAll_51 : decode cX8_readsAll 51 = .ok (.iload_n 2, 1) := by decide +kernel
theorem dX8_readsAll_52 : decode cX8_readsAll 52 = .ok (.iconst 2, 1) := by decide +kernel
theorem dX8_readsAll_53 : decode cX8_readsAll 53 = .ok (.invokevirtual 104, 3) := by decide +kernel
theorem dX8_readsAll_56 : decode cX8_readsAll 56 = .ok (.ifCond .eq 18, 3) := by decide +kernel
theorem dX8_readsAll_59 : decode cX8_readsAll 59 = .ok (.aload_n 0, 1) := by decide +kernel
theorem dX8_readsAll_60 : decode cX8_readsAll 60 = .ok (.iload_n 2, 1) := by decide +kernel
theorem dX8_readsAll_61 : decode cX8_readsAll 61 = .ok (.iconst 1, 1) := by decide +kernel
theorem dX8_readsAll_62 : decode cX8_readsAll 62 = .ok (.iadd, 1) := by decide +kernel
theorem dX8_readsAll_63 : decode cX8_readsAll 63 = .ok (.iconst 2, 1) := by decide +kernel
theorem dX8_readsAll_64 : decode cX8_readsAll 64 = .ok (.invokevirtual 104, 3) := by decide +kernel
theorem dX8_readsAll_67 : decode cX8_readsAll 67 = .ok (.ifCond .eq 7, 3) := by decide +kernel
theorem dX8_readsAll_70 : decode cX8_readsAll 70 = .ok (.iconst 1, 1) := by decide +kernel
theorem dX8_readsAll_71 : decode cX8_readsAll 71 = .ok (.goto 4, 3) := by decide +kernel
theorem dX8_readsAll_74 : decode cX8_readsAll 74 = .ok (.iconst 0, 1) := by decide +kernel
theorem dX8_readsAll_75 : decode cX8_readsAll 75 = .ok (.ireturn, 1) := by decide +kernel
theorem dX8_readsAll_76 : decode cX8_readsAll 76 = .ok (.aload_n 0, 1) := by decide +kernel
theorem dX8_readsAll_77 : decode cX8_readsAll 77 = .ok (.iload_n 2, 1) := by decide +kernel
theorem dX8_readsAll_78 : decode cX8_readsAll 78 = .ok (.iconst 1, 1) := by decide +kernel
theorem dX8_readsAll_79 : decode cX8_readsAll 79 = .ok (.invokevirtual 104, 3) := by decide +kernel
theorem dX8_readsAll_82 : decode cX8_readsAll 82 = .ok (.ireturn, 1) := by decide +kernel
theorem dX8_readsAll_83 : decode cX8_readsAll 83 = .ok (.aload_n 0, 1) := by decide +kernel
theorem dX8_readsAll_84 : decode cX8_readsAll 84 = .ok (.iload_n 2, 1) := by decide +kernel
theorem dX8_readsAll_85 : decode cX8_readsAll 85 = .ok (.iconst 2, 1) := by decide +kernel
theorem dX8_readsAll_86 : decode cX8_readsAll 86 = .ok (.invokevirtual 104, 3) := by decide +kernel
theorem dX8_readsAll_89 : decode cX8_readsAll 89 = .ok (.ireturn, 1) := by decide +kernel
theorem dX8_readsAll_90 : decode cX8_readsAll 90 = .ok (.aload_n 0, 1) := by decide +kernel
theorem dX8_readsAll_91 : decode cX8_readsAll 91 = .ok (.iload_n 2, 1) := by decide +kernel
theorem dX8_readsAll_92 : decode cX8_readsAll 92 = .ok (.iconst 1, 1) := by decide +kernel
theorem dX8_readsAll_93 : decode cX8_readsAll 93 = .ok (.invokevirtual 104, 3) := by decide +kernel
theorem dX8_readsAll_96 : decode cX8_readsAll 96 = .ok (.ifCond .eq 18, 3) := by decide +kernel
theorem dX8_readsAll_99 : decode cX8_readsAll 99 = .ok (.aload_n 0, 1) := by decide +kernel
theorem dX8_readsAll_100 : decode cX8_readsAll 100 = .ok (.iload_n 2, 1) := by decide +kernel
theorem dX8_readsAll_101 : decode cX8_readsAll 101 = .ok (.iconst 1, 1) := by decide +kernel
theorem dX8_readsAll_102 : decode cX8_readsAll 102 = .ok (.iadd, 1) := by decide +kernel
theorem dX8_readsAll_103 : decode cX8_readsAll 103 = .ok (.iconst 1, 1) := by decide +kernel
theorem dX8_readsAll_104 : decode cX8_readsAll 104 = .ok (.invokevirtual 104, 3) := by decide +kernel
theorem dX8_readsAll_107 : decode cX8_readsAll 107 = .ok (.ifCond .eq 7, 3) := by decide +kernel
theorem dX8_readsAll_110 : decode cX8_readsAll 110 = .ok (.iconst 1, 1) := by decide +kernel
theorem dX8_readsAll_111 : decode cX8_readsAll 111 = .ok (.goto 4, 3) := by decide +kernel
theorem dX8_readsAll_114 : decode cX8_readsAll 114 = .ok (.iconst 0, 1) := by decide +kernel
theorem dX8_readsAll_115 : decode cX8_readsAll 115 = .ok (.ireturn, 1) := by decide +kernel
set_option maxRecDepth 20000 in
theorem ggX8_statement_X8_next : GoodIn wsX8_statement wsX8_next := goodIn_r _ [9, 4, 10, 11, 31, 32, 33, 34, 35, 36, 37, 38, 39, 40, 41, 42, 43, 44, 45, 46, 47, 48, 49, 50, 51, 52, 53, 54, 55, 56, 57, 58, 59] (by decide +kernel) (by decide +kernel)
set_option maxRecDepth 20000 in
theorem gX8_statement_X8_next : GoodIn wsX8_statement (wsV RX8 93 RX8 yX8_next wsX8_next) := goodIn_app (goodIn_of _ (by decide +kernel)) ggX8_statement_X8_next
set_option maxRecDepth 20000 in
theorem ggX8_statement_X8_readsAll : GoodIn wsX8_statement wsX8_readsAll := goodIn_r _ [15, 16, 17, 18, 8, 19, 20, 4, 5, 6, 7, 9, 10, 11, 21, 22, 23, 24, 25, 26, 27, 28, 29, 30, 31, 32, 33, 34, 35, 36, 37, 38, 39, 40, 41, 42, 43, 44, 45, 46, 47, 48, 49, 50, 51, 52, 53, 54, 55, 56, 57, 58, 59] (by decide +kernel) (by decide +kernel)
set_option maxRecDepth 20000 in
theorem gX8_statement_X8_readsAll : GoodIn wsX8_statement (wsV RX8 114 RX8 yX8_readsAll wsX8_readsAll) := goodIn_app (goodIn_of _ (by decide +kernel)) ggX8_statement_X8_readsAll
theorem dX8_statement_0 : decode cX8_statement 0 = .ok (.aload_n 0, 1) := by decide +kernel
theorem dX8_statement_1 : decode cX8_statement 1 = .ok (.invokevirtual 93, 3) := by decide +kernel
theorem dX8_statement_4 : decode cX8_statement 4 = .ok (.istore_n 1, 1) := by decide +kernel
theorem dX8_statement_5 : decode cX8_statement 5 = .ok (.iload_n 1, 1) := by decide +kernel
theorem dX8_statement_6 : decode cX8_statement 6 = .ok (.bipush 98, 2) := by decide +kernel
theorem dX8_statement_8 : decode cX8_statement 8 = .ok (.if_icmp .eq 35, 3) := by decide +kernel
