theorem dX3_seek_118 : decode cX3_seek 118 = .ok (.ifCond .ge (-92), 3) := by decide +kernel
theorem dX3_seek_121 : decode cX3_seek 121 = .ok (.iconst 0, 1) := by decide +kernel
theorem dX3_seek_122 : decode cX3_seek 122 = .ok (.ireturn, 1) := by decide +kernel
theorem dX3_seek_123 : decode cX3_seek 123 = .ok (.iconst 2, 1) := by decide +kernel
theorem dX3_seek_124 : decode cX3_seek 124 = .ok (.ireturn, 1) := by decide +kernel
set_option maxRecDepth 20000 in
theorem ggX3_stillHolds_X3_gatherWants : GoodIn wsX3_stillHolds wsX3_gatherWants := goodIn_r _ [5, 6, 7, 8, 9, 10, 11, 12, 13, 14, 15, 16, 17, 18, 19, 20, 21, 22, 23, 4, 24, 25, 26, 27, 28, 29, 30, 31, 32, 33, 34, 78, 79, 80, 81, 82, 83, 84, 85, 86, 87, 88, 89, 90, 91, 92, 93, 94, 95, 96, 97, 98, 99] (by decide +kernel) (by decide +kernel)
set_option maxRecDepth 20000 in
theorem gX3_stillHolds_X3_gatherWants : GoodIn wsX3_stillHolds (wsV RX3 67 RX3 yX3_gatherWants wsX3_gatherWants) := goodIn_app (goodIn_of _ (by decide +kernel)) ggX3_stillHolds_X3_gatherWants
set_option maxRecDepth 20000 in
theorem ggX3_stillHolds_X3_prepare : GoodIn wsX3_stillHolds wsX3_prepare := goodIn_r _ [38, 6, 7, 8, 39, 40, 41, 42, 43, 4, 44, 45, 46, 47, 48, 49, 50, 33, 51, 52, 53, 54, 55, 56, 57, 58, 59, 60, 61, 62, 63, 64, 65, 66, 78, 79, 80, 81, 82, 83, 84, 85, 86, 87, 88, 89, 90, 91, 97, 98, 99] (by decide +kernel) (by decide +kernel)
set_option maxRecDepth 20000 in
theorem gX3_stillHolds_X3_prepare : GoodIn wsX3_stillHolds (wsV RX3 83 RX3 yX3_prepare wsX3_prepare) := goodIn_app (goodIn_of _ (by decide +kernel)) ggX3_stillHolds_X3_prepare
set_option maxRecDepth 20000 in
theorem ggX3_stillHolds_X3_goes : GoodIn wsX3_stillHolds wsX3_goes := goodIn_r _ [70, 52, 33, 51, 6, 40, 9, 57, 58, 59, 60, 61, 62, 63, 64, 65, 66, 71, 72, 4, 73, 74, 75, 76, 77, 78, 79, 80, 81, 82, 83, 84, 85, 86, 87, 88, 89, 90, 91, 97, 98, 99] (by decide +kernel) (by decide +kernel)
set_option maxRecDepth 20000 in
theorem gX3_stillHolds_X3_goes : GoodIn wsX3_stillHolds (wsV RX3 76 RX3 yX3_goes wsX3_goes) := goodIn_app (goodIn_of _ (by decide +kernel)) ggX3_stillHolds_X3_goes
theorem dX3_stillHolds_0 : decode cX3_stillHolds 0 = .ok (.aload_n 0, 1) := by decide +kernel
theorem dX3_stillHolds_1 : decode cX3_stillHolds 1 = .ok (.iload_n 1, 1) := by decide +kernel
theorem dX3_stillHolds_2 : decode cX3_stillHolds 2 = .ok (.invokevirtual 67, 3) := by decide +kernel
theorem dX3_stillHolds_5 : decode cX3_stillHolds 5 = .ok (.iconst 0, 1) := by decide +kernel
theorem dX3_stillHolds_6 : decode cX3_stillHolds 6 = .ok (.istore_n 2, 1) := by decide +kernel
theorem dX3_stillHolds_7 : decode cX3_stillHolds 7 = .ok (.iload_n 2, 1) := by decide +kernel
theorem dX3_stillHolds_8 : decode cX3_stillHolds 8 = .ok (.iload_n 1, 1) := by decide +kernel
theorem dX3_stillHolds_9 : decode cX3_stillHolds 9 = .ok (.if_icmp .ge 24, 3) := by decide +kernel
theorem dX3_stillHolds_12 : decode cX3_stillHolds 12 = .ok (.aload_n 0, 1) := by decide +kernel
theorem dX3_stillHolds_13 : decode cX3_stillHolds 13 = .ok (.iload_n 2, 1) := by decide +kernel
theorem dX3_stillHolds_14 : decode cX3_stillHolds 14 = .ok (.invokevirtual 83, 3) := by decide +kernel
theorem dX3_stillHolds_17 : decode cX3_stillHolds 17 = .ok (.aload_n 0, 1) := by decide +kernel
theorem dX3_stillHolds_18 : decode cX3_stillHolds 18 = .ok (.iload_n 2, 1) := by decide +kernel
theorem dX3_stillHolds_19 : decode cX3_stillHolds 19 = .ok (.invokevirtual 76, 3) := by decide +kernel
theorem dX3_stillHolds_22 : decode cX3_stillHolds 22 = .ok (.ifCond .ne 5, 3) := by decide +kernel
theorem dX3_stillHolds_25 : decode cX3_stillHolds 25 = .ok (.iconst 0, 1) := by decide +kernel
theorem dX3_stillHolds_26 : decode cX3_stillHolds 26 = .ok (.ireturn, 1) := by decide +kernel
theorem dX3_stillHolds_27 : decode cX3_stillHolds 27 = .ok (.iinc 2 1, 3) := by decide +kernel
theorem dX3_stillHolds_30 : decode cX3_stillHolds 30 = .ok (.goto (-23), 3) := by decide +kernel
theorem dX3_stillHolds_33 : decode cX3_stillHolds 33 = .ok (.iconst 1, 1) := by decide +kernel
theorem dX3_stillHolds_34 : decode cX3_stillHolds 34 = .ok (.ireturn, 1) := by decide +kernel
theorem dX3_numberOf_0 : decode cX3_numberOf 0 = .ok (.aload_n 0, 1) := by decide +kernel
theorem dX3_numberOf_1 : decode cX3_numberOf 1 = .ok (.getfield 26, 3) := by decide +kernel
theorem dX3_numberOf_4 : decode cX3_numberOf 4 = .ok (.iload_n 1, 1) := by decide +kernel
theorem dX3_numberOf_5 : decode cX3_numberOf 5 = .ok (.iaload, 1) := by decide +kernel
theorem dX3_numberOf_6 : decode cX3_numberOf 6 = .ok (.istore_n 3, 1) := by decide +kernel
theorem dX3_numberOf_7 : decode cX3_numberOf 7 = .ok (.iload_n 2, 1) := by decide +kernel
theorem dX3_numberOf_8 : decode cX3_numberOf 8 = .ok (.iconst 3, 1) := by decide +kernel
theorem dX3_numberOf_9 : decode cX3_numberOf 9 = .ok (.if_icmp .ge 17, 3) := by decide +kernel
theorem dX3_numberOf_12 : decode cX3_numberOf 12 = .ok (.aload_n 0, 1) := by decide +kernel
theorem dX3_numberOf_13 : decode cX3_numberOf 13 = .ok (.getfield 12, 3) := by decide +kernel
theorem dX3_numberOf_16 : decode cX3_numberOf 16 = .ok (.getfield 86, 3) := by decide +kernel
theorem dX3_numberOf_19 : decode cX3_numberOf 19 = .ok (.iload_n 2, 1) := by decide +kernel
theorem dX3_numberOf_20 : decode cX3_numberOf 20 = .ok (.aaload, 1) := by decide +kernel
theorem dX3_numberOf_21 : decode cX3_numberOf 21 = .ok (.iload_n 3, 1) := by decide +kernel
theorem dX3_numberOf_22 : decode cX3_numberOf 22 = .ok (.iaload, 1) := by decide +kernel
theorem dX3_numberOf_23 : decode cX3_numberOf 23 = .ok (.goto 4, 3) := by decide +kernel
theorem dX3_numberOf_26 : decode cX3_numberOf 26 = .ok (.iload_n 3, 1) := by decide +kernel
theorem dX3_numberOf_27 : decode cX3_numberOf 27 = .ok (.ireturn, 1) := by decide +kernel
set_option maxRecDepth 20000 in
theorem ggX3_placeOnBoth_X3_joinPoints : GoodIn wsX3_placeOnBoth wsX3_joinPoints := goodIn_r _ [9, 3, 10, 11, 12, 13, 8, 14, 4, 15, 16, 17, 18, 19, 20, 21, 22, 23, 24, 25, 26, 27, 28, 29, 30, 38, 39, 40, 41, 42, 43, 44, 45, 46, 47, 48, 49, 50, 51, 52, 53, 54] (by decide +kernel) (by decide +kernel)
set_option maxRecDepth 20000 in
theorem gX3_placeOnBoth_X3_joinPoints : GoodIn wsX3_placeOnBoth (wsV RX3 89 RX3 yX3_joinPoints wsX3_joinPoints) := goodIn_app (goodIn_of _ (by decide +kernel)) ggX3_placeOnBoth_X3_joinPoints
set_option maxRecDepth 20000 in
theorem ggX3_placeOnBoth_X3_cross : GoodIn wsX3_placeOnBoth wsX3_cross := goodIn_r _ [20, 4, 21, 22, 23, 24, 25, 26, 27, 28, 29, 30, 38, 39, 40, 41, 42, 43, 44, 45, 46, 47, 48, 49, 50, 51, 52, 53, 54] (by decide +kernel) (by decide +kernel)
set_option maxRecDepth 20000 in
theorem gX3_placeOnBoth_X3_cross : GoodIn wsX3_placeOnBoth (wsV RX3 93 RX3 yX3_cross wsX3_cross) := goodIn_app (goodIn_of _ (by decide +kernel)) ggX3_placeOnBoth_X3_cross
set_option maxRecDepth 20000 in
theorem ggX3_placeOnBoth_X2_placeAt : GoodIn wsX3_placeOnBoth wsX2_placeAt := goodIn_r _ [34, 26, 35, 36, 24, 37, 27, 28, 29, 30, 52, 53, 54] (by decide +kernel) (by decide +kernel)
set_option maxRecDepth 20000 in
theorem gX3_placeOnBoth_X2_placeAt : GoodIn wsX3_placeOnBoth (wsV RX3 97 RX2 yX2_placeAt wsX2_placeAt) := goodIn_app (goodIn_of _ (by decide +kernel)) ggX3_placeOnBoth_X2_placeAt
theorem dX3_placeOnBoth_0 : decode cX3_placeOnBoth 0 = .ok (.aload_n 0, 1) := by decide +kernel
theorem dX3_placeOnBoth_1 : decode cX3_placeOnBoth 1 = .ok (.aload_n 1, 1) := by decide +kernel
theorem dX3_placeOnBoth_2 : decode cX3_placeOnBoth 2 = .ok (.iconst 0, 1) := by decide +kernel
theorem dX3_placeOnBoth_3 : decode cX3_placeOnBoth 3 = .ok (.iaload, 1) := by decide +kernel
theorem dX3_placeOnBoth_4 : decode cX3_placeOnBoth 4 = .ok (.aload_n 1, 1) := by decide +kernel
theorem dX3_placeOnBoth_5 : decode cX3_placeOnBoth 5 = .ok (.iconst 1, 1) := by decide +kernel
theorem dX3_placeOnBoth_6 : decode cX3_placeOnBoth 6 = .ok (.iaload, 1) := by decide +kernel
theorem dX3_placeOnBoth_7 : decode cX3_placeOnBoth 7 = .ok (.aload_n 0, 1) := by decide +kernel
theorem dX3_placeOnBoth_8 : decode cX3_placeOnBoth 8 = .ok (.getfield 53, 3) := by decide +kernel
theorem dX3_placeOnBoth_11 : decode cX3_placeOnBoth 11 = .ok (.invokevirtual 89, 3) := by decide +kernel
theorem dX3_placeOnBoth_14 : decode cX3_placeOnBoth 14 = .ok (.aload_n 0, 1) := by decide +kernel
theorem dX3_placeOnBoth_15 : decode cX3_placeOnBoth 15 = .ok (.aload_n 2, 1) := by decide +kernel
theorem dX3_placeOnBoth_16 : decode cX3_placeOnBoth 16 = .ok (.iconst 0, 1) := by decide +kernel
theorem dX3_placeOnBoth_17 : decode cX3_placeOnBoth 17 = .ok (.iaload, 1) := by decide +kernel
theorem dX3_placeOnBoth_18 : decode cX3_placeOnBoth 18 = .ok (.aload_n 2, 1) := by decide +kernel
theorem dX3_placeOnBoth_19 : decode cX3_placeOnBoth 19 = .ok (.iconst 1, 1) := by decide +kernel
theorem dX3_placeOnBoth_20 : decode cX3_placeOnBoth 20 = .ok (.iaload, 1) := by decide +kernel
theorem dX3_placeOnBoth_21 : decode cX3_placeOnBoth 21 = .ok (.aload_n 0, 1) := by decide +kernel
theorem dX3_placeOnBoth_22 : decode cX3_placeOnBoth 22 = .ok (.getfield 56, 3) := by decide +kernel
theorem dX3_placeOnBoth_25 : decode cX3_placeOnBoth 25 = .ok (.invokevirtual 89, 3) := by decide +kernel
theorem dX3_placeOnBoth_28 : decode cX3_placeOnBoth 28 = .ok (.aload_n 0, 1) := by decide +kernel
theorem dX3_placeOnBoth_29 : decode cX3_placeOnBoth 29 = .ok (.aload_n 0, 1) := by decide +kernel
theorem dX3_placeOnBoth_30 : decode cX3_placeOnBoth 30 = .ok (.getfield 53, 3) := by decide +kernel
theorem dX3_placeOnBoth_33 : decode cX3_placeOnBoth 33 = .ok (.aload_n 0, 1) := by decide +kernel
theorem dX3_placeOnBoth_34 : decode cX3_placeOnBoth 34 = .ok (.getfield 56, 3) := by decide +kernel
theorem dX3_placeOnBoth_37 : decode cX3_placeOnBoth 37 = .ok (.aload_n 0, 1) := by decide +kernel
theorem dX3_placeOnBoth_38 : decode cX3_placeOnBoth 38 = .ok (.getfield 47, 3) := by decide +kernel
theorem dX3_placeOnBoth_41 : decode cX3_placeOnBoth 41 = .ok (.invokevirtual 93, 3) := by decide +kernel
theorem dX3_placeOnBoth_44 : decode cX3_placeOnBoth 44 = .ok (.aload_n 0, 1) := by decide +kernel
theorem dX3_placeOnBoth_45 : decode cX3_placeOnBoth 45 = .ok (.getfield 12, 3) := by decide +kernel
theorem dX3_placeOnBoth_48 : decode cX3_placeOnBoth 48 = .ok (.aload_n 0, 1) := by decide +kernel
theorem dX3_placeOnBoth_49 : decode cX3_placeOnBoth 49 = .ok (.getfield 47, 3) := by decide +kernel
theorem dX3_placeOnBoth_52 : decode cX3_placeOnBoth 52 = .ok (.invokevirtual 97, 3) := by decide +kernel
theorem dX3_placeOnBoth_55 : decode cX3_placeOnBoth 55 = .ok (.ireturn, 1) := by decide +kernel
set_option maxRecDepth 20000 in
theorem ggX3_joinPoints_X3_numbersOf : GoodIn wsX3_joinPoints wsX3_numbersOf := goodIn_r _ [7, 8, 9, 10, 25, 26, 27, 28, 29, 30, 31, 32, 33, 34, 35, 36, 37, 38, 39, 40, 41] (by decide +kernel) (by decide +kernel)
set_option maxRecDepth 20000 in
theorem gX3_joinPoints_X3_numbersOf : GoodIn wsX3_joinPoints (wsV RX3 101 RX3 yX3_numbersOf wsX3_numbersOf) := goodIn_app (goodIn_of _ (by decide +kernel)) ggX3_joinPoints_X3_numbersOf
set_option maxRecDepth 20000 in
theorem ggX3_joinPoints_X3_cross : GoodIn wsX3_joinPoints wsX3_cross := goodIn_r _ [14, 8, 15, 16, 17, 18, 19, 20, 21, 22, 23, 24, 25, 26, 27, 28, 29, 30, 31, 32, 33, 34, 35, 36, 37, 38, 39, 40, 41] (by decide +kernel) (by decide +kernel)
set_option maxRecDepth 20000 in
theorem gX3_joinPoints_X3_cross : GoodIn wsX3_joinPoints (wsV RX3 93 RX3 yX3_cross wsX3_cross) := goodIn_app (goodIn_of _ (by decide +kernel)) ggX3_joinPoints_X3_cross
theorem dX3_joinPoints_0 : decode cX3_joinPoints 0 = .ok (.aload_n 0, 1) := by decide +kernel
theorem dX3_joinPoints_1 : decode cX3_joinPoints 1 = .ok (.iload_n 1, 1) := by decide +kernel
theorem dX3_joinPoints_2 : decode cX3_joinPoints 2 = .ok (.aload_n 0, 1) := by decide +kernel
theorem dX3_joinPoints_3 : decode cX3_joinPoints 3 = .ok (.getfield 47, 3) := by decide +kernel
theorem dX3_joinPoints_6 : decode cX3_joinPoints 6 = .ok (.invokevirtual 101, 3) := by decide +kernel
theorem dX3_joinPoints_9 : decode cX3_joinPoints 9 = .ok (.aload_n 0, 1) := by decide +kernel
theorem dX3_joinPoints_10 : decode cX3_joinPoints 10 = .ok (.iload_n 2, 1) := by decide +kernel
theorem dX3_joinPoints_11 : decode cX3_joinPoints 11 = .ok (.aload_n 0, 1) := by decide +kernel
theorem dX3_joinPoints_12 : decode cX3_joinPoints 12 = .ok (.getfield 50, 3) := by decide +kernel
theorem dX3_joinPoints_15 : decode cX3_joinPoints 15 = .ok (.invokevirtual 101, 3) := by decide +kernel
theorem dX3_joinPoints_18 : decode cX3_joinPoints 18 = .ok (.aload_n 0, 1) := by decide +kernel
theorem dX3_joinPoints_19 : decode cX3_joinPoints 19 = .ok (.aload_n 0, 1) := by decide +kernel
theorem dX3_joinPoints_20 : decode cX3_joinPoints 20 = .ok (.getfield 47, 3) := by decide +kernel
theorem dX3_joinPoints_23 : decode cX3_joinPoints 23 = .ok (.aload_n 0, 1) := by decide +kernel
theorem dX3_joinPoints_24 : decode cX3_joinPoints 24 = .ok (.getfield 50, 3) := by decide +kernel
theorem dX3_joinPoints_27 : decode cX3_joinPoints 27 = .ok (.aload_n 3, 1) := by decide +kernel
theorem dX3_joinPoints_28 : decode cX3_joinPoints 28 = .ok (.invokevirtual 93, 3) := by decide +kernel
theorem dX3_joinPoints_31 : decode cX3_joinPoints 31 = .ok (.return_, 1) := by decide +kernel
theorem dX3_numbersOf_0 : decode cX3_numbersOf 0 = .ok (.iconst 0, 1) := by decide +kernel
theorem dX3_numbersOf_1 : decode cX3_numbersOf 1 = .ok (.istore_n 3, 1) := by decide +kernel
theorem dX3_numbersOf_2 : decode cX3_numbersOf 2 = .ok (.iload_n 3, 1) := by decide +kernel
theorem dX3_numbersOf_3 : decode cX3_numbersOf 3 = .ok (.iconst 3, 1) := by decide +kernel
theorem dX3_numbersOf_4 : decode cX3_numbersOf 4 = .ok (.if_icmp .ge 28, 3) := by decide +kernel
theorem dX3_numbersOf_7 : decode cX3_numbersOf 7 = .ok (.aload_n 2, 1) := by decide +kernel
theorem dX3_numbersOf_8 : decode cX3_numbersOf 8 = .ok (.iload_n 3, 1) := by decide +kernel
theorem dX3_numbersOf_9 : decode cX3_numbersOf 9 = .ok (.aload_n 0, 1) := by decide +kernel
theorem dX3_numbersOf_10 : decode cX3_numbersOf 10 = .ok (.getfield 12, 3) := by decide +kernel
theorem dX3_numbersOf_13 : decode cX3_numbersOf 13 = .ok (.getfield 86, 3) := by decide +kernel
theorem dX3_numbersOf_16 : decode cX3_numbersOf 16 = .ok (.iload_n 3, 1) := by decide +kernel
theorem dX3_numbersOf_17 : decode cX3_numbersOf 17 = .ok (.aaload, 1) := by decide +kernel
theorem dX3_numbersOf_18 : decode cX3_numbersOf 18 = .ok (.aload_n 0, 1) := by decide +kernel
theorem dX3_numbersOf_19 : decode cX3_numbersOf 19 = .ok (.getfield 26, 3) := by decide +kernel
theorem dX3_numbersOf_22 : decode cX3_numbersOf 22 = .ok (.iload_n 1, 1) := by decide +kernel
theorem dX3_numbersOf_23 : decode cX3_numbersOf 23 = .ok (.iaload, 1) := by decide +kernel
theorem dX3_numbersOf_24 : decode cX3_numbersOf 24 = .ok (.iaload, 1) := by decide +kernel
theorem dX3_numbersOf_25 : decode cX3_numbersOf 25 = .ok (.iastore, 1) := by decide +kernel
theorem dX3_numbersOf_26 : decode cX3_numbersOf 26 = .ok (.iinc 3 1, 3) := by decide +kernel
theorem dX3_numbersOf_29 : decode cX3_numbersOf 29 = .ok (.goto (-27), 3) := by decide +kernel
theorem dX3_numbersOf_32 : decode cX3_numbersOf 32 = .ok (.return_, 1) := by decide +kernel
set_option maxRecDepth 20000 in
theorem ggX3_cross_X2_rest : GoodIn wsX3_cross wsX2_rest := goodIn_r _ [6, 7, 8, 9, 10, 11, 26, 27, 28] (by decide +kernel) (by decide +kernel)
set_option maxRecDepth 20000 in
theorem gX3_cross_X2_rest : GoodIn wsX3_cross (wsV RX3 105 RX2 yX2_rest wsX2_rest) := goodIn_app (goodIn_of _ (by decide +kernel)) ggX3_cross_X2_rest
theorem dX3_cross_0 : decode cX3_cross 0 = .ok (.aload_n 3, 1) := by decide +kernel
theorem dX3_cross_1 : decode cX3_cross 1 = .ok (.iconst 0, 1) := by decide +kernel
theorem dX3_cross_2 : decode cX3_cross 2 = .ok (.aload_n 0, 1) := by decide +kernel
theorem dX3_cross_3 : decode cX3_cross 3 = .ok (.getfield 12, 3) := by decide +kernel
theorem dX3_cross_6 : decode cX3_cross 6 = .ok (.aload_n 1, 1) := by decide +kernel
theorem dX3_cross_7 : decode cX3_cross 7 = .ok (.iconst 1, 1) := by decide +kernel
theorem dX3_cross_8 : decode cX3_cross 8 = .ok (.iaload, 1) := by decide +kernel
theorem dX3_cross_9 : decode cX3_cross 9 = .ok (.aload_n 2, 1) := by decide +kernel
theorem dX3_cross_10 : decode cX3_cross 10 = .ok (.iconst 2, 1) := by decide +kernel
theorem dX3_cross_11 : decode cX3_cross 11 = .ok (.iaload, 1) := by decide +kernel
theorem dX3_cross_12 : decode cX3_cross 12 = .ok (.imul, 1) := by decide +kernel
theorem dX3_cross_13 : decode cX3_cross 13 = .ok (.aload_n 1, 1) := by decide +kernel
theorem dX3_cross_14 : decode cX3_cross 14 = .ok (.iconst 2, 1) := by decide +kernel
theorem dX3_cross_15 : decode cX3_cross 15 = .ok (.iaload, 1) := by decide +kernel
theorem dX3_cross_16 : decode cX3_cross 16 = .ok (.aload_n 2, 1) := by decide +kernel
theorem dX3_cross_17 : decode cX3_cross 17 = .ok (.iconst 1, 1) := by decide +kernel
theorem dX3_cross_18 : decode cX3_cross 18 = .ok (.iaload, 1) := by decide +kernel
theorem dX3_cross_19 : decode cX3_cross 19 = .ok (.imul, 1) := by decide +kernel
theorem dX3_cross_20 : decode cX3_cross 20 = .ok (.isub, 1) := by decide +kernel
theorem dX3_cross_21 : decode cX3_cross 21 = .ok (.invokevirtual 105, 3) := by decide +kernel
theorem dX3_cross_24 : decode cX3_cross 24 = .ok (.iastore, 1) := by decide +kernel
theorem dX3_cross_25 : decode cX3_cross 25 = .ok (.aload_n 3, 1) := by decide +kernel
theorem dX3_cross_26 : decode cX3_cross 26 = .ok (.iconst 1, 1) := by decide +kernel
theorem dX3_cross_27 : decode cX3_cross 27 = .ok (.aload_n 0, 1) := by decide +kernel
theorem dX3_cross_28 : decode cX3_cross 28 = .ok (.getfield 12, 3) := by decide +kernel
theorem dX3_cross_31 : decode cX3_cross 31 = .ok (.aload_n 1, 1) := by decide +kernel
theorem dX3_cross_32 : decode cX3_cross 32 = .ok (.iconst 2, 1) := by decide +kernel
theorem dX3_cross_33 : decode cX3_cross 33 = .ok (.iaload, 1) := by decide +kernel
theorem dX3_cross_34 : decode cX3_cross 34 = .ok (.aload_n 2, 1) := by decide +kernel
theorem dX3_cross_35 : decode cX3_cross 35 = .ok (.iconst 0, 1) := by decide +kernel
theorem dX3_cross_36 : decode cX3_cross 36 = .ok (.iaload, 1) := by decide +kernel
theorem dX3_cross_37 : decode cX3_cross 37 = .ok (.imul, 1) := by decide +kernel
theorem dX3_cross_38 : decode cX3_cross 38 = .ok (.aload_n 1, 1) := by decide +kernel
theorem dX3_cross_39 : decode cX3_cross 39 = .ok (.iconst 0, 1) := by decide +kernel
theorem dX3_cross_40 : decode cX3_cross 40 = .ok (.iaload, 1) := by decide +kernel
theorem dX3_cross_41 : decode cX3_cross 41 = .ok (.aload_n 2, 1) := by decide +kernel
theorem dX3_cross_42 : decode cX3_cross 42 = .ok (.iconst 2, 1) := by decide +kernel
theorem dX3_cross_43 : decode cX3_cross 43 = .ok (.iaload, 1) := by decide +kernel
theorem dX3_cross_44 : decode cX3_cross 44 = .ok (.imul, 1) := by decide +kernel
theorem dX3_cross_45 : decode cX3_cross 45 = .ok (.isub, 1) := by decide +kernel
theorem dX3_cross_46 : decode cX3_cross 46 = .ok (.invokevirtual 105, 3) := by decide +kernel
theorem dX3_cross_49 : decode cX3_cross 49 = .ok (.iastore, 1) := by decide +kernel
theorem dX3_cross_50 : decode cX3_cross 50 = .ok (.aload_n 3, 1) := by decide +kernel
theorem dX3_cross_51 : decode cX3_cross 51 = .ok (.iconst 2, 1) := by decide +kernel
theorem dX3_cross_52 : decode cX3_cross 52 = .ok (.aload_n 0, 1) := by decide +kernel
theorem dX3_cross_53 : decode cX3_cross 53 = .ok (.getfield 12, 3) := by decide +kernel
theorem dX3_cross_56 : decode cX3_cross 56 = .ok (.aload_n 1, 1) := by decide +kernel
theorem dX3_cross_57 : decode cX3_cross 57 = .ok (.iconst 0, 1) := by decide +kernel
theorem dX3_cross_58 : decode cX3_cross 58 = .ok (.iaload, 1) := by decide +kernel
theorem dX3_cross_59 : decode cX3_cross 59 = .ok (.aload_n 2, 1) := by decide +kernel
theorem dX3_cross_60 : decode cX3_cross 60 = .ok (.iconst 1, 1) := by decide +kernel
theorem dX3_cross_61 : decode cX3_cross 61 = .ok (.iaload, 1) := by decide +kernel
theorem dX3_cross_62 : decode cX3_cross 62 = .ok (.imul, 1) := by decide +kernel
theorem dX3_cross_63 : decode cX3_cross 63 = .ok (.aload_n 1, 1) := by decide +kernel
theorem dX3_cross_64 : decode cX3_cross 64 = .ok (.iconst 1, 1) := by decide +kernel
theorem dX3_cross_65 : decode cX3_cross 65 = .ok (.iaload, 1) := by decide +kernel
theorem dX3_cross_66 : decode cX3_cross 66 = .ok (.aload_n 2, 1) := by decide +kernel
theorem dX3_cross_67 : decode cX3_cross 67 = .ok (.iconst 0, 1) := by decide +kernel
theorem dX3_cross_68 : decode cX3_cross 68 = .ok (.iaload, 1) := by decide +kernel
theorem dX3_cross_69 : decode cX3_cross 69 = .ok (.imul, 1) := by decide +kernel
theorem dX3_cross_70 : decode cX3_cross 70 = .ok (.isub, 1) := by decide +kernel
theorem dX3_cross_71 : decode cX3_cross 71 = .ok (.invokevirtual 105, 3) := by decide +kernel
theorem dX3_cross_74 : decode cX3_cross 74 = .ok (.iastore, 1) := by decide +kernel
theorem dX3_cross_75 : decode cX3_cross 75 = .ok (.return_, 1) := by decide +kernel
set_option maxRecDepth 20000 in
theorem ggX3_gatherWants_X5_spotOf : GoodIn wsX3_gatherWants wsX5_spotOf := goodIn_r _ [8, 9, 10, 11, 12, 13, 14, 15] (by decide +kernel) (by decide +kernel)
set_option maxRecDepth 20000 in
theorem gX3_gatherWants_X5_spotOf : GoodIn wsX3_gatherWants (va_wsS RX3 109 yX5_spotOf wsX5_spotOf) := goodIn_app (goodIn_of _ (by decide +kernel)) ggX3_gatherWants_X5_spotOf
set_option maxRecDepth 20000 in
theorem ggX3_gatherWants_X3_isWanted : GoodIn wsX3_gatherWants wsX3_isWanted := goodIn_r _ [20, 21, 22, 23, 24, 31, 32, 33, 34, 35, 36, 37, 38, 39, 40, 41, 42, 43, 44, 45, 46, 47, 48, 49] (by decide +kernel) (by decide +kernel)
set_option maxRecDepth 20000 in
theorem gX3_gatherWants_X3_isWanted : GoodIn wsX3_gatherWants (wsV RX3 115 RX3 yX3_isWanted wsX3_isWanted) := goodIn_app (goodIn_of _ (by decide +kernel)) ggX3_gatherWants_X3_isWanted
set_option maxRecDepth 20000 in
theorem ggX3_gatherWants_X3_wantOf : GoodIn wsX3_gatherWants wsX3_wantOf := goodIn_r _ [28, 21, 22, 29, 30, 24, 31, 32, 33, 34, 35, 36, 37, 38, 39, 40, 41, 42, 43, 44, 45, 46, 47, 48, 49, 50, 51, 52] (by decide +kernel) (by decide +kernel)
set_option maxRecDepth 20000 in
theorem gX3_gatherWants_X3_wantOf : GoodIn wsX3_gatherWants (wsV RX3 118 RX3 yX3_wantOf wsX3_wantOf) := goodIn_app (goodIn_of _ (by decide +kernel)) ggX3_gatherWants_X3_wantOf
theorem dX3_gatherWants_0 : decode cX3_gatherWants 0 = .ok (.iconst 0, 1) := by decide +kernel
theorem dX3_gatherWants_1 : decode cX3_gatherWants 1 = .ok (.istore_n 2, 1) := by decide +kernel
theorem dX3_gatherWants_2 : decode cX3_gatherWants 2 = .ok (.iconst 0, 1) := by decide +kernel
theorem dX3_gatherWants_3 : decode cX3_gatherWants 3 = .ok (.istore_n 3, 1) := by decide +kernel
theorem dX3_gatherWants_4 : decode cX3_gatherWants 4 = .ok (.iload_n 3, 1) := by decide +kernel
theorem dX3_gatherWants_5 : decode cX3_gatherWants 5 = .ok (.iload_n 1, 1) := by decide +kernel
theorem dX3_gatherWants_6 : decode cX3_gatherWants 6 = .ok (.if_icmp .ge 97, 3) := by decide +kernel
theorem dX3_gatherWants_9 : decode cX3_gatherWants 9 = .ok (.aload_n 0, 1) := by decide +kernel
theorem dX3_gatherWants_10 : decode cX3_gatherWants 10 = .ok (.getfield 30, 3) := by decide +kernel
theorem dX3_gatherWants_13 : decode cX3_gatherWants 13 = .ok (.iload_n 3, 1) := by decide +kernel
theorem dX3_gatherWants_14 : decode cX3_gatherWants 14 = .ok (.iload_n 2, 1) := by decide +kernel
theorem dX3_gatherWants_15 : decode cX3_gatherWants 15 = .ok (.iastore, 1) := by decide +kernel
theorem dX3_gatherWants_16 : decode cX3_gatherWants 16 = .ok (.iconst 1, 1) := by decide +kernel
theorem dX3_gatherWants_17 : decode cX3_gatherWants 17 = .ok (.istore 4, 2) := by decide +kernel
theorem dX3_gatherWants_19 : decode cX3_gatherWants 19 = .ok (.iload 4, 2) := by decide +kernel
theorem dX3_gatherWants_21 : decode cX3_gatherWants 21 = .ok (.iload_n 3, 1) := by decide +kernel
theorem dX3_gatherWants_22 : decode cX3_gatherWants 22 = .ok (.if_icmp .ge 75, 3) := by decide +kernel
theorem dX3_gatherWants_25 : decode cX3_gatherWants 25 = .ok (.iconst 0, 1) := by decide +kernel
theorem dX3_gatherWants_26 : decode cX3_gatherWants 26 = .ok (.istore 5, 2) := by decide +kernel
theorem dX3_gatherWants_28 : decode cX3_gatherWants 28 = .ok (.iload 5, 2) := by decide +kernel
theorem dX3_gatherWants_30 : decode cX3_gatherWants 30 = .ok (.iload 4, 2) := by decide +kernel
theorem dX3_gatherWants_32 : decode cX3_gatherWants 32 = .ok (.if_icmp .ge 59, 3) := by decide +kernel
theorem dX3_gatherWants_35 : decode cX3_gatherWants 35 = .ok (.iload 5, 2) := by decide +kernel
theorem dX3_gatherWants_37 : decode cX3_gatherWants 37 = .ok (.iload 4, 2) := by decide +kernel
theorem dX3_gatherWants_39 : decode cX3_gatherWants 39 = .ok (.iload_n 3, 1) := by decide +kernel
theorem dX3_gatherWants_40 : decode cX3_gatherWants 40 = .ok (.invokestatic 109, 3) := by decide +kernel
theorem dX3_gatherWants_43 : decode cX3_gatherWants 43 = .ok (.istore 6, 2) := by decide +kernel
theorem dX3_gatherWants_45 : decode cX3_gatherWants 45 = .ok (.aload_n 0, 1) := by decide +kernel
theorem dX3_gatherWants_46 : decode cX3_gatherWants 46 = .ok (.iload 6, 2) := by decide +kernel
theorem dX3_gatherWants_48 : decode cX3_gatherWants 48 = .ok (.invokevirtual 115, 3) := by decide +kernel
theorem dX3_gatherWants_51 : decode cX3_gatherWants 51 = .ok (.ifCond .eq 34, 3) := by decide +kernel
theorem dX3_gatherWants_54 : decode cX3_gatherWants 54 = .ok (.aload_n 0, 1) := by decide +kernel
theorem dX3_gatherWants_55 : decode cX3_gatherWants 55 = .ok (.getfield 33, 3) := by decide +kernel
theorem dX3_gatherWants_58 : decode cX3_gatherWants 58 = .ok (.iload_n 2, 1) := by decide +kernel
theorem dX3_gatherWants_59 : decode cX3_gatherWants 59 = .ok (.iload 5, 2) := by decide +kernel
theorem dX3_gatherWants_61 : decode cX3_gatherWants 61 = .ok (.iastore, 1) := by decide +kernel
theorem dX3_gatherWants_62 : decode cX3_gatherWants 62 = .ok (.aload_n 0, 1) := by decide +kernel
theorem dX3_gatherWants_63 : decode cX3_gatherWants 63 = .ok (.getfield 36, 3) := by decide +kernel
theorem dX3_gatherWants_66 : decode cX3_gatherWants 66 = .ok (.iload_n 2, 1) := by decide +kernel
theorem dX3_gatherWants_67 : decode cX3_gatherWants 67 = .ok (.iload 4, 2) := by decide +kernel
theorem dX3_gatherWants_69 : decode cX3_gatherWants 69 = .ok (.iastore, 1) := by decide +kernel
theorem dX3_gatherWants_70 : decode cX3_gatherWants 70 = .ok (.aload_n 0, 1) := by decide +kernel
theorem dX3_gatherWants_71 : decode cX3_gatherWants 71 = .ok (.getfield 39, 3) := by decide +kernel
theorem dX3_gatherWants_74 : decode cX3_gatherWants 74 = .ok (.iload_n 2, 1) := by decide +kernel
theorem dX3_gatherWants_75 : decode cX3_gatherWants 75 = .ok (.aload_n 0, 1) := by decide +kernel
theorem dX3_gatherWants_76 : decode cX3_gatherWants 76 = .ok (.iload 6, 2) := by decide +kernel
theorem dX3_gatherWants_78 : decode cX3_gatherWants 78 = .ok (.invokevirtual 118, 3) := by decide +kernel
theorem dX3_gatherWants_81 : decode cX3_gatherWants 81 = .ok (.iastore, 1) := by decide +kernel
theorem dX3_gatherWants_82 : decode cX3_gatherWants 82 = .ok (.iinc 2 1, 3) := by decide +kernel
theorem dX3_gatherWants_85 : decode cX3_gatherWants 85 = .ok (.iinc 5 1, 3) := by decide +kernel
theorem dX3_gatherWants_88 : decode cX3_gatherWants 88 = .ok (.goto (-60), 3) := by decide +kernel
theorem dX3_gatherWants_91 : decode cX3_gatherWants 91 = .ok (.iinc 4 1, 3) := by decide +kernel
theorem dX3_gatherWants_94 : decode cX3_gatherWants 94 = .ok (.goto (-75), 3) := by decide +kernel
theorem dX3_gatherWants_97 : decode cX3_gatherWants 97 = .ok (.iinc 3 1, 3) := by decide +kernel
theorem dX3_gatherWants_100 : decode cX3_gatherWants 100 = .ok (.goto (-96), 3) := by decide +kernel
theorem dX3_gatherWants_103 : decode cX3_gatherWants 103 = .ok (.aload_n 0, 1) := by decide +kernel
theorem dX3_gatherWants_104 : decode cX3_gatherWants 104 = .ok (.getfield 30, 3) := by decide +kernel
theorem dX3_gatherWants_107 : decode cX3_gatherWants 107 = .ok (.iload_n 1, 1) := by decide +kernel
theorem dX3_gatherWants_108 : decode cX3_gatherWants 108 = .ok (.iload_n 2, 1) := by decide +kernel
theorem dX3_gatherWants_109 : decode cX3_gatherWants 109 = .ok (.iastore, 1) := by decide +kernel
theorem dX3_gatherWants_110 : decode cX3_gatherWants 110 = .ok (.return_, 1) := by decide +kernel
theorem dX3_isWanted_0 : decode cX3_isWanted 0 = .ok (.aload_n 0, 1) := by decide +kernel
theorem dX3_isWanted_1 : decode cX3_isWanted 1 = .ok (.getfield 59, 3) := by decide +kernel
theorem dX3_isWanted_4 : decode cX3_isWanted 4 = .ok (.getfield 121, 3) := by decide +kernel
theorem dX3_isWanted_7 : decode cX3_isWanted 7 = .ok (.iload_n 1, 1) := by decide +kernel
theorem dX3_isWanted_8 : decode cX3_isWanted 8 = .ok (.baload, 1) := by decide +kernel
theorem dX3_isWanted_9 : decode cX3_isWanted 9 = .ok (.ifCond .ne 27, 3) := by decide +kernel
theorem dX3_isWanted_12 : decode cX3_isWanted 12 = .ok (.aload_n 0, 1) := by decide +kernel
theorem dX3_isWanted_13 : decode cX3_isWanted 13 = .ok (.getfield 59, 3) := by decide +kernel
theorem dX3_isWanted_16 : decode cX3_isWanted 16 = .ok (.getfield 125, 3) := by decide +kernel
theorem dX3_isWanted_19 : decode cX3_isWanted 19 = .ok (.iload_n 1, 1) := by decide +kernel
theorem dX3_isWanted_20 : decode cX3_isWanted 20 = .ok (.baload, 1) := by decide +kernel
theorem dX3_isWanted_21 : decode cX3_isWanted 21 = .ok (.ifCond .ne 15, 3) := by decide +kernel
theorem dX3_isWanted_24 : decode cX3_isWanted 24 = .ok (.aload_n 0, 1) := by decide +kernel
theorem dX3_isWanted_25 : decode cX3_isWanted 25 = .ok (.getfield 59, 3) := by decide +kernel
theorem dX3_isWanted_28 : decode cX3_isWanted 28 = .ok (.getfield 128, 3) := by decide +kernel
theorem dX3_isWanted_31 : decode cX3_isWanted 31 = .ok (.iload_n 1, 1) := by decide +kernel
theorem dX3_isWanted_32 : decode cX3_isWanted 32 = .ok (.iaload, 1) := by decide +kernel
theorem dX3_isWanted_33 : decode cX3_isWanted 33 = .ok (.ifCond .eq 7, 3) := by decide +kernel
theorem dX3_isWanted_36 : decode cX3_isWanted 36 = .ok (.iconst 1, 1) := by decide +kernel
theorem dX3_isWanted_37 : decode cX3_isWanted 37 = .ok (.goto 4, 3) := by decide +kernel
theorem dX3_isWanted_40 : decode cX3_isWanted 40 = .ok (.iconst 0, 1) := by decide +kernel
theorem dX3_isWanted_41 : decode cX3_isWanted 41 = .ok (.ireturn, 1) := by decide +kernel
theorem dX3_wantOf_0 : decode cX3_wantOf 0 = .ok (.aload_n 0, 1) := by decide +kernel
theorem dX3_wantOf_1 : decode cX3_wantOf 1 = .ok (.getfield 59, 3) := by decide +kernel
theorem dX3_wantOf_4 : decode cX3_wantOf 4 = .ok (.getfield 121, 3) := by decide +kernel
theorem dX3_wantOf_7 : decode cX3_wantOf 7 = .ok (.iload_n 1, 1) := by decide +kernel
theorem dX3_wantOf_8 : decode cX3_wantOf 8 = .ok (.baload, 1) := by decide +kernel
theorem dX3_wantOf_9 : decode cX3_wantOf 9 = .ok (.ifCond .eq 5, 3) := by decide +kernel
theorem dX3_wantOf_12 : decode cX3_wantOf 12 = .ok (.iconst 0, 1) := by decide +kernel
theorem dX3_wantOf_13 : decode cX3_wantOf 13 = .ok (.ireturn, 1) := by decide +kernel
theorem dX3_wantOf_14 : decode cX3_wantOf 14 = .ok (.aload_n 0, 1) := by decide +kernel
theorem dX3_wantOf_15 : decode cX3_wantOf 15 = .ok (.getfield 12, 3) := by decide +kernel
theorem dX3_wantOf_18 : decode cX3_wantOf 18 = .ok (.getfield 131, 3) := by decide +kernel
theorem dX3_wantOf_21 : decode cX3_wantOf 21 = .ok (.ifCond .ne 19, 3) := by decide +kernel
theorem dX3_wantOf_24 : decode cX3_wantOf 24 = .ok (.aload_n 0, 1) := by decide +kernel
theorem dX3_wantOf_25 : decode cX3_wantOf 25 = .ok (.getfield 59, 3) := by decide +kernel
theorem dX3_wantOf_28 : decode cX3_wantOf 28 = .ok (.getfield 128, 3) := by decide +kernel
theorem dX3_wantOf_31 : decode cX3_wantOf 31 = .ok (.iload_n 1, 1) := by decide +kernel
theorem dX3_wantOf_32 : decode cX3_wantOf 32 = .ok (.iaload, 1) := by decide +kernel
theorem dX3_wantOf_33 : decode cX3_wantOf 33 = .ok (.ifCond .eq 7, 3) := by decide +kernel
theorem dX3_wantOf_36 : decode cX3_wantOf 36 = .ok (.iconst 1, 1) := by decide +kernel
theorem dX3_wantOf_37 : decode cX3_wantOf 37 = .ok (.goto 4, 3) := by decide +kernel
theorem dX3_wantOf_40 : decode cX3_wantOf 40 = .ok (.iconst 0, 1) := by decide +kernel
theorem dX3_wantOf_41 : decode cX3_wantOf 41 = .ok (.istore_n 2, 1) := by decide +kernel
theorem dX3_wantOf_42 : decode cX3_wantOf 42 = .ok (.iload_n 2, 1) := by decide +kernel
theorem dX3_wantOf_43 : decode cX3_wantOf 43 = .ok (.ifCond .eq 15, 3) := by decide +kernel
theorem dX3_wantOf_46 : decode cX3_wantOf 46 = .ok (.aload_n 0, 1) := by decide +kernel
theorem dX3_wantOf_47 : decode cX3_wantOf 47 = .ok (.getfield 59, 3) := by decide +kernel
theorem dX3_wantOf_50 : decode cX3_wantOf 50 = .ok (.getfield 128, 3) := by decide +kernel
theorem dX3_wantOf_53 : decode cX3_wantOf 53 = .ok (.iload_n 1, 1) := by decide +kernel
theorem dX3_wantOf_54 : decode cX3_wantOf 54 = .ok (.iaload, 1) := by decide +kernel
theorem dX3_wantOf_55 : decode cX3_wantOf 55 = .ok (.goto 4, 3) := by decide +kernel
theorem dX3_wantOf_58 : decode cX3_wantOf 58 = .ok (.iconst 2, 1) := by decide +kernel
theorem dX3_wantOf_59 : decode cX3_wantOf 59 = .ok (.ireturn, 1) := by decide +kernel
set_option maxRecDepth 20000 in
theorem ggX3_enter_X3_prepare : GoodIn wsX3_enter wsX3_prepare := goodIn_r _ [6, 7, 8, 9, 10, 11, 12, 13, 14, 5, 15, 16, 17, 18, 19, 20, 21, 22, 23, 1, 24, 25, 26, 27, 28, 29, 30, 31, 32, 33, 34, 35, 36, 37, 38, 39, 40, 41, 42, 43, 44, 45, 46, 47, 48, 49, 50, 51, 52, 53, 54] (by decide +kernel) (by decide +kernel)
set_option maxRecDepth 20000 in
theorem gX3_enter_X3_prepare : GoodIn wsX3_enter (wsV RX3 83 RX3 yX3_prepare wsX3_prepare) := goodIn_app (goodIn_of _ (by decide +kernel)) ggX3_enter_X3_prepare
theorem dX3_enter_0 : decode cX3_enter 0 = .ok (.aload_n 0, 1) := by decide +kernel
theorem dX3_enter_1 : decode cX3_enter 1 = .ok (.getfield 26, 3) := by decide +kernel
theorem dX3_enter_4 : decode cX3_enter 4 = .ok (.iload_n 1, 1) := by decide +kernel
theorem dX3_enter_5 : decode cX3_enter 5 = .ok (.iconst (-1), 1) := by decide +kernel
theorem dX3_enter_6 : decode cX3_enter 6 = .ok (.iastore, 1) := by decide +kernel
theorem dX3_enter_7 : decode cX3_enter 7 = .ok (.aload_n 0, 1) := by decide +kernel
theorem dX3_enter_8 : decode cX3_enter 8 = .ok (.iload_n 1, 1) := by decide +kernel
theorem dX3_enter_9 : decode cX3_enter 9 = .ok (.invokevirtual 83, 3) := by decide +kernel
theorem dX3_enter_12 : decode cX3_enter 12 = .ok (.return_, 1) := by decide +kernel
set_option maxRecDepth 20000 in
theorem ggX3_prepare_X3_joinPoints : GoodIn wsX3_prepare wsX3_joinPoints := goodIn_r _ [10, 11, 12, 13, 14, 15, 9, 16, 17, 18, 19, 20, 21, 22, 23, 24, 25, 26, 27, 28, 29, 30, 31, 32, 33, 34, 35, 36, 37, 38, 39, 40, 41, 42, 43, 44, 45, 46, 47, 48, 49, 50] (by decide +kernel) (by decide +kernel)
set_option maxRecDepth 20000 in
theorem gX3_prepare_X3_joinPoints : GoodIn wsX3_prepare (wsV RX3 89 RX3 yX3_joinPoints wsX3_joinPoints) := goodIn_app (goodIn_of _ (by decide +kernel)) ggX3_prepare_X3_joinPoints
theorem dX3_prepare_0 : decode cX3_prepare 0 = .ok (.aload_n 0, 1) := by decide +kernel
theorem dX3_prepare_1 : decode cX3_prepare 1 = .ok (.getfield 30, 3) := by decide +kernel
theorem dX3_prepare_4 : decode cX3_prepare 4 = .ok (.iload_n 1, 1) := by decide +kernel
theorem dX3_prepare_5 : decode cX3_prepare 5 = .ok (.iaload, 1) := by decide +kernel
theorem dX3_prepare_6 : decode cX3_prepare 6 = .ok (.istore_n 2, 1) := by decide +kernel
theorem dX3_prepare_7 : decode cX3_prepare 7 = .ok (.iload_n 2, 1) := by decide +kernel
theorem dX3_prepare_8 : decode cX3_prepare 8 = .ok (.aload_n 0, 1) := by decide +kernel
theorem dX3_prepare_9 : decode cX3_prepare 9 = .ok (.getfield 30, 3) := by decide +kernel
theorem dX3_prepare_12 : decode cX3_prepare 12 = .ok (.iload_n 1, 1) := by decide +kernel
theorem dX3_prepare_13 : decode cX3_prepare 13 = .ok (.iconst 1, 1) := by decide +kernel
theorem dX3_prepare_14 : decode cX3_prepare 14 = .ok (.iadd, 1) := by decide +kernel
theorem dX3_prepare_15 : decode cX3_prepare 15 = .ok (.iaload, 1) := by decide +kernel
theorem dX3_prepare_16 : decode cX3_prepare 16 = .ok (.if_icmp .ge 56, 3) := by decide +kernel
theorem dX3_prepare_19 : decode cX3_prepare 19 = .ok (.aload_n 0, 1) := by decide +kernel
theorem dX3_prepare_20 : decode cX3_prepare 20 = .ok (.aload_n 0, 1) := by decide +kernel
theorem dX3_prepare_21 : decode cX3_prepare 21 = .ok (.getfield 33, 3) := by decide +kernel
theorem dX3_prepare_24 : decode cX3_prepare 24 = .ok (.iload_n 2, 1) := by decide +kernel
theorem dX3_prepare_25 : decode cX3_prepare 25 = .ok (.iaload, 1) := by decide +kernel
theorem dX3_prepare_26 : decode cX3_prepare 26 = .ok (.aload_n 0, 1) := by decide +kernel
theorem dX3_prepare_27 : decode cX3_prepare 27 = .ok (.getfield 36, 3) := by decide +kernel
theorem dX3_prepare_30 : decode cX3_prepare 30 = .ok (.iload_n 2, 1) := by decide +kernel
theorem dX3_prepare_31 : decode cX3_prepare 31 = .ok (.iaload, 1) := by decide +kernel
theorem dX3_prepare_32 : decode cX3_prepare 32 = .ok (.aload_n 0, 1) := by decide +kernel
theorem dX3_prepare_33 : decode cX3_prepare 33 = .ok (.getfield 53, 3) := by decide +kernel
theorem dX3_prepare_36 : decode cX3_prepare 36 = .ok (.invokevirtual 89, 3) := by decide +kernel
theorem dX3_prepare_39 : decode cX3_prepare 39 = .ok (.iconst 0, 1) := by decide +kernel
theorem dX3_prepare_40 : decode cX3_prepare 40 = .ok (.istore_n 3, 1) := by decide +kernel
theorem dX3_prepare_41 : decode cX3_prepare 41 = .ok (.iload_n 3, 1) := by decide +kernel
theorem dX3_prepare_42 : decode cX3_prepare 42 = .ok (.iconst 3, 1) := by decide +kernel
theorem dX3_prepare_43 : decode cX3_prepare 43 = .ok (.if_icmp .ge 23, 3) := by decide +kernel
theorem dX3_prepare_46 : decode cX3_prepare 46 = .ok (.aload_n 0, 1) := by decide +kernel
theorem dX3_prepare_47 : decode cX3_prepare 47 = .ok (.getfield 44, 3) := by decide +kernel
theorem dX3_prepare_50 : decode cX3_prepare 50 = .ok (.iload_n 3, 1) := by decide +kernel
theorem dX3_prepare_51 : decode cX3_prepare 51 = .ok (.aaload, 1) := by decide +kernel
theorem dX3_prepare_52 : decode cX3_prepare 52 = .ok (.iload_n 2, 1) := by decide +kernel
theorem dX3_prepare_53 : decode cX3_prepare 53 = .ok (.aload_n 0, 1) := by decide +kernel
theorem dX3_prepare_54 : decode cX3_prepare 54 = .ok (.getfield 53, 3) := by decide +kernel
theorem dX3_prepare_57 : decode cX3_prepare 57 = .ok (.iload_n 3, 1) := by decide +kernel
theorem dX3_prepare_58 : decode cX3_prepare 58 = .ok (.iaload, 1) := by decide +kernel
theorem dX3_prepare_59 : decode cX3_prepare 59 = .ok (.iastore, 1) := by decide +kernel
theorem dX3_prepare_60 : decode cX3_prepare 60 = .ok (.iinc 3 1, 3) := by decide +kernel
theorem dX3_prepare_63 : decode cX3_prepare 63 = .ok (.goto (-22), 3) := by decide +kernel
theorem dX3_prepare_66 : decode cX3_prepare 66 = .ok (.iinc 2 1, 3) := by decide +kernel
theorem dX3_prepare_69 : decode cX3_prepare 69 = .ok (.goto (-62), 3) := by decide +kernel
theorem dX3_prepare_72 : decode cX3_prepare 72 = .ok (.return_, 1) := by decide +kernel
set_option maxRecDepth 20000 in
theorem ggX3_goes_X2_rest : GoodIn wsX3_goes wsX2_rest := goodIn_r _ [11, 12, 13, 14, 15, 16, 39, 40, 41] (by decide +kernel) (by decide +kernel)
set_option maxRecDepth 20000 in
theorem gX3_goes_X2_rest : GoodIn wsX3_goes (wsV RX3 105 RX2 yX2_rest wsX2_rest) := goodIn_app (goodIn_of _ (by decide +kernel)) ggX3_goes_X2_rest
set_option maxRecDepth 20000 in
theorem ggX3_goes_X3_fits : GoodIn wsX3_goes wsX3_fits := goodIn_r _ [20, 21, 22, 23, 24] (by decide +kernel) (by decide +kernel)
set_option maxRecDepth 20000 in
theorem gX3_goes_X3_fits : GoodIn wsX3_goes (va_wsS RX3 134 yX3_fits wsX3_fits) := goodIn_app (goodIn_of _ (by decide +kernel)) ggX3_goes_X3_fits
theorem dX3_goes_0 : decode cX3_goes 0 = .ok (.aload_n 0, 1) := by decide +kernel
theorem dX3_goes_1 : decode cX3_goes 1 = .ok (.getfield 26, 3) := by decide +kernel
theorem dX3_goes_4 : decode cX3_goes 4 = .ok (.iload_n 1, 1) := by decide +kernel
theorem dX3_goes_5 : decode cX3_goes 5 = .ok (.iaload, 1) := by decide +kernel
theorem dX3_goes_6 : decode cX3_goes 6 = .ok (.istore_n 2, 1) := by decide +kernel
theorem dX3_goes_7 : decode cX3_goes 7 = .ok (.iconst 0, 1) := by decide +kernel
theorem dX3_goes_8 : decode cX3_goes 8 = .ok (.istore_n 3, 1) := by decide +kernel
theorem dX3_goes_9 : decode cX3_goes 9 = .ok (.iload_n 3, 1) := by decide +kernel
theorem dX3_goes_10 : decode cX3_goes 10 = .ok (.iload_n 1, 1) := by decide +kernel
theorem dX3_goes_11 : decode cX3_goes 11 = .ok (.if_icmp .ge 21, 3) := by decide +kernel
theorem dX3_goes_14 : decode cX3_goes 14 = .ok (.aload_n 0, 1) := by decide +kernel
theorem dX3_goes_15 : decode cX3_goes 15 = .ok (.getfield 26, 3) := by decide +kernel
theorem dX3_goes_18 : decode cX3_goes 18 = .ok (.iload_n 3, 1) := by decide +kernel
theorem dX3_goes_19 : decode cX3_goes 19 = .ok (.iaload, 1) := by decide +kernel
theorem dX3_goes_20 : decode cX3_goes 20 = .ok (.iload_n 2, 1) := by decide +kernel
theorem dX3_goes_21 : decode cX3_goes 21 = .ok (.if_icmp .ne 5, 3) := by decide +kernel
theorem dX3_goes_24 : decode cX3_goes 24 = .ok (.iconst 0, 1) := by decide +kernel
theorem dX3_goes_25 : decode cX3_goes 25 = .ok (.ireturn, 1) := by decide +kernel
theorem dX3_goes_26 : decode cX3_goes 26 = .ok (.iinc 3 1, 3) := by decide +kernel
theorem dX3_goes_29 : decode cX3_goes 29 = .ok (.goto (-20), 3) := by decide +kernel
theorem dX3_goes_32 : decode cX3_goes 32 = .ok (.aload_n 0, 1) := by decide +kernel
theorem dX3_goes_33 : decode cX3_goes 33 = .ok (.getfield 12, 3) := by decide +kernel
theorem dX3_goes_36 : decode cX3_goes 36 = .ok (.getfield 86, 3) := by decide +kernel
theorem dX3_goes_39 : decode cX3_goes 39 = .ok (.iconst 0, 1) := by decide +kernel
theorem dX3_goes_40 : decode cX3_goes 40 = .ok (.aaload, 1) := by decide +kernel
theorem dX3_goes_41 : decode cX3_goes 41 = .ok (.iload_n 2, 1) := by decide +kernel
theorem dX3_goes_42 : decode cX3_goes 42 = .ok (.iaload, 1) := by decide +kernel
theorem dX3_goes_43 : decode cX3_goes 43 = .ok (.istore_n 3, 1) := by decide +kernel
theorem dX3_goes_44 : decode cX3_goes 44 = .ok (.aload_n 0, 1) := by decide +kernel
theorem dX3_goes_45 : decode cX3_goes 45 = .ok (.getfield 12, 3) := by decide +kernel
theorem dX3_goes_48 : decode cX3_goes 48 = .ok (.getfield 86, 3) := by decide +kernel
theorem dX3_goes_51 : decode cX3_goes 51 = .ok (.iconst 1, 1) := by decide +kernel
theorem dX3_goes_52 : decode cX3_goes 52 = .ok (.aaload, 1) := by decide +kernel
theorem dX3_goes_53 : decode cX3_goes 53 = .ok (.iload_n 2, 1) := by decide +kernel
theorem dX3_goes_54 : decode cX3_goes 54 = .ok (.iaload, 1) := by decide +kernel
theorem dX3_goes_55 : decode cX3_goes 55 = .ok (.istore 4, 2) := by decide +kernel
theorem dX3_goes_57 : decode cX3_goes 57 = .ok (.aload_n 0, 1) := by decide +kernel
theorem dX3_goes_58 : decode cX3_goes 58 = .ok (.getfield 12, 3) := by decide +kernel
theorem dX3_goes_61 : decode cX3_goes 61 = .ok (.getfield 86, 3) := by decide +kernel
theorem dX3_goes_64 : decode cX3_goes 64 = .ok (.iconst 2, 1) := by decide +kernel
theorem dX3_goes_65 : decode cX3_goes 65 = .ok (.aaload, 1) := by decide +kernel
theorem dX3_goes_66 : decode cX3_goes 66 = .ok (.iload_n 2, 1) := by decide +kernel
theorem dX3_goes_67 : decode cX3_goes 67 = .ok (.iaload, 1) := by decide +kernel
theorem dX3_goes_68 : decode cX3_goes 68 = .ok (.istore 5, 2) := by decide +kernel
theorem dX3_goes_70 : decode cX3_goes 70 = .ok (.aload_n 0, 1) := by decide +kernel
theorem dX3_goes_71 : decode cX3_goes 71 = .ok (.getfield 30, 3) := by decide +kernel
theorem dX3_goes_74 : decode cX3_goes 74 = .ok (.iload_n 1, 1) := by decide +kernel
theorem dX3_goes_75 : decode cX3_goes 75 = .ok (.iaload, 1) := by decide +kernel
theorem dX3_goes_76 : decode cX3_goes 76 = .ok (.istore 6, 2) := by decide +kernel
theorem dX3_goes_78 : decode cX3_goes 78 = .ok (.iload 6, 2) := by decide +kernel
theorem dX3_goes_80 : decode cX3_goes 80 = .ok (.aload_n 0, 1) := by decide +kernel
theorem dX3_goes_81 : decode cX3_goes 81 = .ok (.getfield 30, 3) := by decide +kernel
theorem dX3_goes_84 : decode cX3_goes 84 = .ok (.iload_n 1, 1) := by decide +kernel
theorem dX3_goes_85 : decode cX3_goes 85 = .ok (.iconst 1, 1) := by decide +kernel
theorem dX3_goes_86 : decode cX3_goes 86 = .ok (.iadd, 1) := by decide +kernel
theorem dX3_goes_87 : decode cX3_goes 87 = .ok (.iaload, 1) := by decide +kernel
theorem dX3_goes_88 : decode cX3_goes 88 = .ok (.if_icmp .ge 72, 3) := by decide +kernel
theorem dX3_goes_91 : decode cX3_goes 91 = .ok (.iload_n 3, 1) := by decide +kernel
theorem dX3_goes_92 : decode cX3_goes 92 = .ok (.aload_n 0, 1) := by decide +kernel
theorem dX3_goes_93 : decode cX3_goes 93 = .ok (.getfield 44, 3) := by decide +kernel
theorem dX3_goes_96 : decode cX3_goes 96 = .ok (.iconst 0, 1) := by decide +kernel
theorem dX3_goes_97 : decode cX3_goes 97 = .ok (.aaload, 1) := by decide +kernel
theorem dX3_goes_98 : decode cX3_goes 98 = .ok (.iload 6, 2) := by decide +kernel
theorem dX3_goes_100 : decode cX3_goes 100 = .ok (.iaload, 1) := by decide +kernel
theorem dX3_goes_101 : decode cX3_goes 101 = .ok (.imul, 1) := by decide +kernel
theorem dX3_goes_102 : decode cX3_goes 102 = .ok (.iload 4, 2) := by decide +kernel
theorem dX3_goes_104 : decode cX3_goes 104 = .ok (.aload_n 0, 1) := by decide +kernel
theorem dX3_goes_105 : decode cX3_goes 105 = .ok (.getfield 44, 3) := by decide +kernel
theorem dX3_goes_108 : decode cX3_goes 108 = .ok (.iconst 1, 1) := by decide +kernel
theorem dX3_goes_109 : decode cX3_goes 109 = .ok (.aaload, 1) := by decide +kernel
theorem dX3_goes_110 : decode cX3_goes 110 = .ok (.iload 6, 2) := by decide +kernel
theorem dX3_goes_112 : decode cX3_goes 112 = .ok (.iaload, 1) := by decide +kernel
theorem dX3_goes_113 : decode cX3_goes 113 = .ok (.imul, 1) := by decide +kernel
theorem dX3_goes_114 : decode cX3_goes 114 = .ok (.iadd, 1) := by decide +kernel
theorem dX3_goes_115 : decode cX3_goes 115 = .ok (.iload 5, 2) := by decide +kernel
theorem dX3_goes_117 : decode cX3_goes 117 = .ok (.aload_n 0, 1) := by decide +kernel
theorem dX3_goes_118 : decode cX3_goes 118 = .ok (.getfield 44, 3) := by decide +kernel
theorem dX3_goes_121 : decode cX3_goes 121 = .ok (.iconst 2, 1) := by decide +kernel
theorem dX3_goes_122 : decode cX3_goes 122 = .ok (.aaload, 1) := by decide +kernel
theorem dX3_goes_123 : decode cX3_goes 123 = .ok (.iload 6, 2) := by decide +kernel
theorem dX3_goes_125 : decode cX3_goes 125 = .ok (.iaload, 1) := by decide +kernel
theorem dX3_goes_126 : decode cX3_goes 126 = .ok (.imul, 1) := by decide +kernel
theorem dX3_goes_127 : decode cX3_goes 127 = .ok (.iadd, 1) := by decide +kernel
theorem dX3_goes_128 : decode cX3_goes 128 = .ok (.istore 7, 2) := by decide +kernel
theorem dX3_goes_130 : decode cX3_goes 130 = .ok (.aload_n 0, 1) := by decide +kernel
theorem dX3_goes_131 : decode cX3_goes 131 = .ok (.getfield 12, 3) := by decide +kernel
theorem dX3_goes_134 : decode cX3_goes 134 = .ok (.iload 7, 2) := by decide +kernel
theorem dX3_goes_136 : decode cX3_goes 136 = .ok (.invokevirtual 105, 3) := by decide +kernel
theorem dX3_goes_139 : decode cX3_goes 139 = .ok (.aload_n 0, 1) := by decide +kernel
theorem dX3_goes_140 : decode cX3_goes 140 = .ok (.getfield 39, 3) := by decide +kernel
theorem dX3_goes_143 : decode cX3_goes 143 = .ok (.iload 6, 2) := by decide +kernel
theorem dX3_goes_145 : decode cX3_goes 145 = .ok (.iaload, 1) := by decide +kernel
theorem dX3_goes_146 : decode cX3_goes 146 = .ok (.invokestatic 134, 3) := by decide +kernel
theorem dX3_goes_149 : decode cX3_goes 149 = .ok (.ifCond .ne 5, 3) := by decide +kernel
theorem dX3_goes_152 : decode cX3_goes 152 = .ok (.iconst 0, 1) := by decide +kernel
theorem dX3_goes_153 : decode cX3_goes 153 = .ok (.ireturn, 1) := by decide +kernel
theorem dX3_goes_154 : decode cX3_goes 154 = .ok (.iinc 6 1, 3) := by decide +kernel
theorem dX3_goes_157 : decode cX3_goes 157 = .ok (.goto (-79), 3) := by decide +kernel
theorem dX3_goes_160 : decode cX3_goes 160 = .ok (.iconst 1, 1) := by decide +kernel
theorem dX3_goes_161 : decode cX3_goes 161 = .ok (.ireturn, 1) := by decide +kernel
set_option maxRecDepth 20000 in
theorem ggX3_fits_J6_compare_7cf53 : GoodIn wsX3_fits wsJ6_compare_7cf53 := goodIn_r _ [4] (by decide +kernel) (by decide +kernel)
set_option maxRecDepth 20000 in
theorem gX3_fits_J6_compare_7cf53 : GoodIn wsX3_fits (va_wsS RX3 138 yJ6_compare_7cf53 wsJ6_compare_7cf53) := goodIn_app (goodIn_of _ (by decide +kernel)) ggX3_fits_J6_compare_7cf53
theorem dX3_fits_0 : decode cX3_fits 0 = .ok (.iload_n 1, 1) := by decide +kernel
theorem dX3_fits_1 : decode cX3_fits 1 = .ok (.iconst 2, 1) := by decide +kernel
theorem dX3_fits_2 : decode cX3_fits 2 = .ok (.if_icmp .ne 15, 3) := by decide +kernel
theorem dX3_fits_5 : decode cX3_fits 5 = .ok (.iload_n 0, 1) := by decide +kernel
theorem dX3_fits_6 : decode cX3_fits 6 = .ok (.ifCond .eq 7, 3) := by decide +kernel
theorem dX3_fits_9 : decode cX3_fits 9 = .ok (.iconst 1, 1) := by decide +kernel
theorem dX3_fits_10 : decode cX3_fits 10 = .ok (.goto 21, 3) := by decide +kernel
theorem dX3_fits_13 : decode cX3_fits 13 = .ok (.iconst 0, 1) := by decide +kernel
theorem dX3_fits_14 : decode cX3_fits 14 = .ok (.goto 17, 3) := by decide +kernel
theorem dX3_fits_17 : decode cX3_fits 17 = .ok (.iload_n 0, 1) := by decide +kernel
theorem dX3_fits_18 : decode cX3_fits 18 = .ok (.iconst 0, 1) := by decide +kernel
theorem dX3_fits_19 : decode cX3_fits 19 = .ok (.invokestatic 138, 3) := by decide +kernel
theorem dX3_fits_22 : decode cX3_fits 22 = .ok (.iload_n 1, 1) := by decide +kernel
theorem dX3_fits_23 : decode cX3_fits 23 = .ok (.if_icmp .ne 7, 3) := by decide +kernel
theorem dX3_fits_26 : decode cX3_fits 26 = .ok (.iconst 1, 1) := by decide +kernel
theorem dX3_fits_27 : decode cX3_fits 27 = .ok (.goto 4, 3) := by decide +kernel
theorem dX3_fits_30 : decode cX3_fits 30 = .ok (.iconst 0, 1) := by decide +kernel
theorem dX3_fits_31 : decode cX3_fits 31 = .ok (.ireturn, 1) := by decide +kernel
theorem dX4_init_0 : decode cX4_init 0 = .ok (.aload_n 0, 1) := by decide +kernel
theorem dX4_init_1 : decode cX4_init 1 = .ok (.invokespecial 3, 3) := by decide +kernel
theorem dX4_init_4 : decode cX4_init 4 = .ok (.aload_n 0, 1) := by decide +kernel
theorem dX4_init_5 : decode cX4_init 5 = .ok (.iconst 0, 1) := by decide +kernel
theorem dX4_init_6 : decode cX4_init 6 = .ok (.putfield 9, 3) := by decide +kernel
theorem dX4_init_9 : decode cX4_init 9 = .ok (.aload_n 0, 1) := by decide +kernel
theorem dX4_init_10 : decode cX4_init 10 = .ok (.iconst 0, 1) := by decide +kernel
theorem dX4_init_11 : decode cX4_init 11 = .ok (.putfield 15, 3) := by decide +kernel
theorem dX4_init_14 : decode cX4_init 14 = .ok (.aload_n 0, 1) := by decide +kernel
theorem dX4_init_15 : decode cX4_init 15 = .ok (.iconst 0, 1) := by decide +kernel
theorem dX4_init_16 : decode cX4_init 16 = .ok (.putfield 18, 3) := by decide +kernel
theorem dX4_init_19 : decode cX4_init 19 = .ok (.aload_n 0, 1) := by decide +kernel
theorem dX4_init_20 : decode cX4_init 20 = .ok (.bipush 10, 2) := by decide +kernel
theorem dX4_init_22 : decode cX4_init 22 = .ok (.newarray .int, 2) := by decide +kernel
theorem dX4_init_24 : decode cX4_init 24 = .ok (.putfield 21, 3) := by decide +kernel
theorem dX4_init_27 : decode cX4_init 27 = .ok (.aload_n 0, 1) := by decide +kernel
theorem dX4_init_28 : decode cX4_init 28 = .ok (.bipush 12, 2) := by decide +kernel
theorem dX4_init_30 : decode cX4_init 30 = .ok (.newarray .int, 2) := by decide +kernel
theorem dX4_init_32 : decode cX4_init 32 = .ok (.putfield 25, 3) := by decide +kernel
theorem dX4_init_35 : decode cX4_init 35 = .ok (.aload_n 0, 1) := by decide +kernel
theorem dX4_init_36 : decode cX4_init 36 = .ok (.bipush 12, 2) := by decide +kernel
theorem dX4_init_38 : decode cX4_init 38 = .ok (.iconst 5, 1) := by decide +kernel
theorem dX4_init_39 : decode cX4_init 39 = .ok (.multianewarray 28 2, 4) := by decide +kernel
theorem dX4_init_43 : decode cX4_init 43 = .ok (.putfield 30, 3) := by decide +kernel
theorem dX4_init_46 : decode cX4_init 46 = .ok (.aload_n 0, 1) := by decide +kernel
theorem dX4_init_47 : decode cX4_init 47 = .ok (.bipush 12, 2) := by decide +kernel
theorem dX4_init_49 : decode cX4_init 49 = .ok (.newarray .int, 2) := by decide +kernel
theorem dX4_init_51 : decode cX4_init 51 = .ok (.putfield 33, 3) := by decide +kernel
theorem dX4_init_54 : decode cX4_init 54 = .ok (.aload_n 0, 1) := by decide +kernel
theorem dX4_init_55 : decode cX4_init 55 = .ok (.iconst 0, 1) := by decide +kernel
theorem dX4_init_56 : decode cX4_init 56 = .ok (.putfield 36, 3) := by decide +kernel
theorem dX4_init_59 : decode cX4_init 59 = .ok (.return_, 1) := by decide +kernel
theorem dX4_hasPoint_0 : decode cX4_hasPoint 0 = .ok (.iload_n 1, 1) := by decide +kernel
theorem dX4_hasPoint_1 : decode cX4_hasPoint 1 = .ok (.ifCond .lt 15, 3) := by decide +kernel
theorem dX4_hasPoint_4 : decode cX4_hasPoint 4 = .ok (.iload_n 1, 1) := by decide +kernel
theorem dX4_hasPoint_5 : decode cX4_hasPoint 5 = .ok (.aload_n 0, 1) := by decide +kernel
theorem dX4_hasPoint_6 : decode cX4_hasPoint 6 = .ok (.getfield 9, 3) := by decide +kernel
theorem dX4_hasPoint_9 : decode cX4_hasPoint 9 = .ok (.if_icmp .ge 7, 3) := by decide +kernel
theorem dX4_hasPoint_12 : decode cX4_hasPoint 12 = .ok (.iconst 1, 1) := by decide +kernel
theorem dX4_hasPoint_13 : decode cX4_hasPoint 13 = .ok (.goto 4, 3) := by decide +kernel
theorem dX4_hasPoint_16 : decode cX4_hasPoint 16 = .ok (.iconst 0, 1) := by decide +kernel
theorem dX4_hasPoint_17 : decode cX4_hasPoint 17 = .ok (.ireturn, 1) := by decide +kernel
theorem dX4_hasLine_0 : decode cX4_hasLine 0 = .ok (.iload_n 1, 1) := by decide +kernel
theorem dX4_hasLine_1 : decode cX4_hasLine 1 = .ok (.ifCond .lt 15, 3) := by decide +kernel
theorem dX4_hasLine_4 : decode cX4_hasLine 4 = .ok (.iload_n 1, 1) := by decide +kernel
theorem dX4_hasLine_5 : decode cX4_hasLine 5 = .ok (.aload_n 0, 1) := by decide +kernel
theorem dX4_hasLine_6 : decode cX4_hasLine 6 = .ok (.getfield 15, 3) := by decide +kernel
theorem dX4_hasLine_9 : decode cX4_hasLine 9 = .ok (.if_icmp .ge 7, 3) := by decide +kernel
theorem dX4_hasLine_12 : decode cX4_hasLine 12 = .ok (.iconst 1, 1) := by decide +kernel
theorem dX4_hasLine_13 : decode cX4_hasLine 13 = .ok (.goto 4, 3) := by decide +kernel
theorem dX4_hasLine_16 : decode cX4_hasLine 16 = .ok (.iconst 0, 1) := by decide +kernel
theorem dX4_hasLine_17 : decode cX4_hasLine 17 = .ok (.ireturn, 1) := by decide +kernel
set_option maxRecDepth 20000 in
theorem ggX4_isTriple_X4_hasPoint : GoodIn wsX4_isTriple wsX4_hasPoint := goodIn_r _ [5, 6, 7, 8, 9, 10, 11, 12, 13, 14] (by decide +kernel) (by decide +kernel)
set_option maxRecDepth 20000 in
theorem gX4_isTriple_X4_hasPoint : GoodIn wsX4_isTriple (wsV RX4 40 RX4 yX4_hasPoint wsX4_hasPoint) := goodIn_app (goodIn_of _ (by decide +kernel)) ggX4_isTriple_X4_hasPoint
theorem dX4_isTriple_0 : decode cX4_isTriple 0 = .ok (.aload_n 0, 1) := by decide +kernel
theorem dX4_isTriple_1 : decode cX4_isTriple 1 = .ok (.iload_n 1, 1) := by decide +kernel
theorem dX4_isTriple_2 : decode cX4_isTriple 2 = .ok (.invokevirtual 40, 3) := by decide +kernel
theorem dX4_isTriple_5 : decode cX4_isTriple 5 = .ok (.ifCond .eq 38, 3) := by decide +kernel
theorem dX4_isTriple_8 : decode cX4_isTriple 8 = .ok (.aload_n 0, 1) := by decide +kernel
theorem dX4_isTriple_9 : decode cX4_isTriple 9 = .ok (.iload_n 2, 1) := by decide +kernel
theorem dX4_isTriple_10 : decode cX4_isTriple 10 = .ok (.invokevirtual 40, 3) := by decide +kernel
theorem dX4_isTriple_13 : decode cX4_isTriple 13 = .ok (.ifCond .eq 30, 3) := by decide +kernel
theorem dX4_isTriple_16 : decode cX4_isTriple 16 = .ok (.aload_n 0, 1) := by decide +kernel
theorem dX4_isTriple_17 : decode cX4_isTriple 17 = .ok (.iload_n 3, 1) := by decide +kernel
theorem dX4_isTriple_18 : decode cX4_isTriple 18 = .ok (.invokevirtual 40, 3) := by decide +kernel
theorem dX4_isTriple_21 : decode cX4_isTriple 21 = .ok (.ifCond .eq 22, 3) := by decide +kernel
theorem dX4_isTriple_24 : decode cX4_isTriple 24 = .ok (.iload_n 1, 1) := by decide +kernel
theorem dX4_isTriple_25 : decode cX4_isTriple 25 = .ok (.iload_n 2, 1) := by decide +kernel
theorem dX4_isTriple_26 : decode cX4_isTriple 26 = .ok (.if_icmp .eq 17, 3) := by decide +kernel
theorem dX4_isTriple_29 : decode cX4_isTriple 29 = .ok (.iload_n 1, 1) := by decide +kernel
theorem dX4_isTriple_30 : decode cX4_isTriple 30 = .ok (.iload_n 3, 1) := by decide +kernel
theorem dX4_isTriple_31 : decode cX4_isTriple 31 = .ok (.if_icmp .eq 12, 3) := by decide +kernel
theorem dX4_isTriple_34 : decode cX4_isTriple 34 = .ok (.iload_n 2, 1) := by decide +kernel
theorem dX4_isTriple_35 : decode cX4_isTriple 35 = .ok (.iload_n 3, 1) := by decide +kernel
theorem dX4_isTriple_36 : decode cX4_isTriple 36 = .ok (.if_icmp .eq 7, 3) := by decide +kernel
theorem dX4_isTriple_39 : decode cX4_isTriple 39 = .ok (.iconst 1, 1) := by decide +kernel
theorem dX4_isTriple_40 : decode cX4_isTriple 40 = .ok (.goto 4, 3) := by decide +kernel
theorem dX4_isTriple_43 : decode cX4_isTriple 43 = .ok (.iconst 0, 1) := by decide +kernel
theorem dX4_isTriple_44 : decode cX4_isTriple 44 = .ok (.ireturn, 1) := by decide +kernel
set_option maxRecDepth 20000 in
theorem ggX4_take_X4_endsWord : GoodIn wsX4_take wsX4_endsWord := goodIn_r _ [9, 4, 10, 2, 37, 38, 39, 40, 41, 42, 43, 44] (by decide +kernel) (by decide +kernel)
set_option maxRecDepth 20000 in
theorem gX4_take_X4_endsWord : GoodIn wsX4_take (wsV RX4 44 RX4 yX4_endsWord wsX4_endsWord) := goodIn_app (goodIn_of _ (by decide +kernel)) ggX4_take_X4_endsWord
set_option maxRecDepth 20000 in
theorem ggX4_take_X4_addsLetter : GoodIn wsX4_take wsX4_addsLetter := goodIn_r _ [14, 4, 2, 10, 15, 16, 3, 17, 18, 19, 8, 20, 21, 22, 23, 24, 1, 25, 26, 27, 28, 29, 30, 31, 32, 33, 34, 35, 36, 37, 38, 39, 40, 41, 42, 43, 44] (by decide +kernel) (by decide +kernel)
set_option maxRecDepth 20000 in
theorem gX4_take_X4_addsLetter : GoodIn wsX4_take (wsV RX4 48 RX4 yX4_addsLetter wsX4_addsLetter) := goodIn_app (goodIn_of _ (by decide +kernel)) ggX4_take_X4_addsLetter
theorem dX4_take_0 : decode cX4_take 0 = .ok (.aload_n 0, 1) := by decide +kernel
theorem dX4_take_1 : decode cX4_take 1 = .ok (.iconst 0, 1) := by decide +kernel
theorem dX4_take_2 : decode cX4_take 2 = .ok (.putfield 9, 3) := by decide +kernel
theorem dX4_take_5 : decode cX4_take 5 = .ok (.aload_n 0, 1) := by decide +kernel
theorem dX4_take_6 : decode cX4_take 6 = .ok (.iconst 0, 1) := by decide +kernel
theorem dX4_take_7 : decode cX4_take 7 = .ok (.putfield 15, 3) := by decide +kernel
theorem dX4_take_10 : decode cX4_take 10 = .ok (.aload_n 0, 1) := by decide +kernel
theorem dX4_take_11 : decode cX4_take 11 = .ok (.iconst 0, 1) := by decide +kernel
theorem dX4_take_12 : decode cX4_take 12 = .ok (.putfield 18, 3) := by decide +kernel
theorem dX4_take_15 : decode cX4_take 15 = .ok (.aload_n 0, 1) := by decide +kernel
theorem dX4_take_16 : decode cX4_take 16 = .ok (.iconst 0, 1) := by decide +kernel
theorem dX4_take_17 : decode cX4_take 17 = .ok (.putfield 36, 3) := by decide +kernel
theorem dX4_take_20 : decode cX4_take 20 = .ok (.iconst 0, 1) := by decide +kernel
theorem dX4_take_21 : decode cX4_take 21 = .ok (.istore_n 3, 1) := by decide +kernel
theorem dX4_take_22 : decode cX4_take 22 = .ok (.iload_n 3, 1) := by decide +kernel
theorem dX4_take_23 : decode cX4_take 23 = .ok (.iload_n 2, 1) := by decide +kernel
theorem dX4_take_24 : decode cX4_take 24 = .ok (.if_icmp .ge 46, 3) := by decide +kernel
theorem dX4_take_27 : decode cX4_take 27 = .ok (.iload_n 3, 1) := by decide +kernel
theorem dX4_take_28 : decode cX4_take 28 = .ok (.aload_n 1, 1) := by decide +kernel
theorem dX4_take_29 : decode cX4_take 29 = .ok (.arraylength, 1) := by decide +kernel
theorem dX4_take_30 : decode cX4_take 30 = .ok (.if_icmp .ge 40, 3) := by decide +kernel
theorem dX4_take_33 : decode cX4_take 33 = .ok (.aload_n 1, 1) := by decide +kernel
theorem dX4_take_34 : decode cX4_take 34 = .ok (.iload_n 3, 1) := by decide +kernel
theorem dX4_take_35 : decode cX4_take 35 = .ok (.iaload, 1) := by decide +kernel
theorem dX4_take_36 : decode cX4_take 36 = .ok (.bipush 32, 2) := by decide +kernel
theorem dX4_take_38 : decode cX4_take 38 = .ok (.if_icmp .ne 10, 3) := by decide +kernel
theorem dX4_take_41 : decode cX4_take 41 = .ok (.aload_n 0, 1) := by decide +kernel
theorem dX4_take_42 : decode cX4_take 42 = .ok (.invokevirtual 44, 3) := by decide +kernel
theorem dX4_take_45 : decode cX4_take 45 = .ok (.goto 10, 3) := by decide +kernel
theorem dX4_take_48 : decode cX4_take 48 = .ok (.aload_n 0, 1) := by decide +kernel
theorem dX4_take_49 : decode cX4_take 49 = .ok (.aload_n 1, 1) := by decide +kernel
theorem dX4_take_50 : decode cX4_take 50 = .ok (.iload_n 3, 1) := by decide +kernel
theorem dX4_take_51 : decode cX4_take 51 = .ok (.iaload, 1) := by decide +kernel
theorem dX4_take_52 : decode cX4_take 52 = .ok (.invokevirtual 48, 3) := by decide +kernel
theorem dX4_take_55 : decode cX4_take 55 = .ok (.istore 4, 2) := by decide +kernel
theorem dX4_take_57 : decode cX4_take 57 = .ok (.iload 4, 2) := by decide +kernel
theorem dX4_take_59 : decode cX4_take 59 = .ok (.ifCond .ne 5, 3) := by decide +kernel
theorem dX4_take_62 : decode cX4_take 62 = .ok (.iload_n 3, 1) := by decide +kernel
theorem dX4_take_63 : decode cX4_take 63 = .ok (.ireturn, 1) := by decide +kernel
theorem dX4_take_64 : decode cX4_take 64 = .ok (.iinc 3 1, 3) := by decide +kernel
theorem dX4_take_67 : decode cX4_take 67 = .ok (.goto (-45), 3) := by decide +kernel
theorem dX4_take_70 : decode cX4_take 70 = .ok (.aload_n 0, 1) := by decide +kernel
theorem dX4_take_71 : decode cX4_take 71 = .ok (.invokevirtual 44, 3) := by decide +kernel
theorem dX4_take_74 : decode cX4_take 74 = .ok (.ifCond .eq 14, 3) := by decide +kernel
theorem dX4_take_77 : decode cX4_take 77 = .ok (.aload_n 0, 1) := by decide +kernel
theorem dX4_take_78 : decode cX4_take 78 = .ok (.getfield 15, 3) := by decide +kernel
theorem dX4_take_81 : decode cX4_take 81 = .ok (.ifCond .le 7, 3) := by decide +kernel
theorem dX4_take_84 : decode cX4_take 84 = .ok (.iconst (-1), 1) := by decide +kernel
theorem dX4_take_85 : decode cX4_take 85 = .ok (.goto 4, 3) := by decide +kernel
theorem dX4_take_88 : decode cX4_take 88 = .ok (.iload_n 2, 1) := by decide +kernel
theorem dX4_take_89 : decode cX4_take 89 = .ok (.ireturn, 1) := by decide +kernel
theorem dX4_endsWord_0 : decode cX4_endsWord 0 = .ok (.aload_n 0, 1) := by decide +kernel
theorem dX4_endsWord_1 : decode cX4_endsWord 1 = .ok (.getfield 36, 3) := by decide +kernel
theorem dX4_endsWord_4 : decode cX4_endsWord 4 = .ok (.ifCond .eq 20, 3) := by decide +kernel
theorem dX4_endsWord_7 : decode cX4_endsWord 7 = .ok (.aload_n 0, 1) := by decide +kernel
theorem dX4_endsWord_8 : decode cX4_endsWord 8 = .ok (.getfield 25, 3) := by decide +kernel
theorem dX4_endsWord_11 : decode cX4_endsWord 11 = .ok (.aload_n 0, 1) := by decide +kernel
theorem dX4_endsWord_12 : decode cX4_endsWord 12 = .ok (.getfield 15, 3) := by decide +kernel
theorem dX4_endsWord_15 : decode cX4_endsWord 15 = .ok (.iconst 1, 1) := by decide +kernel
theorem dX4_endsWord_16 : decode cX4_endsWord 16 = .ok (.isub, 1) := by decide +kernel
theorem dX4_endsWord_17 : decode cX4_endsWord 17 = .ok (.iaload, 1) := by decide +kernel
theorem dX4_endsWord_18 : decode cX4_endsWord 18 = .ok (.iconst 3, 1) := by decide +kernel
theorem dX4_endsWord_19 : decode cX4_endsWord 19 = .ok (.if_icmp .ge 5, 3) := by decide +kernel
theorem dX4_endsWord_22 : decode cX4_endsWord 22 = .ok (.iconst 0, 1) := by decide +kernel
theorem dX4_endsWord_23 : decode cX4_endsWord 23 = .ok (.ireturn, 1) := by decide +kernel
theorem dX4_endsWord_24 : decode cX4_endsWord 24 = .ok (.aload_n 0, 1) := by decide +kernel
theorem dX4_endsWord_25 : decode cX4_endsWord 25 = .ok (.iconst 0, 1) := by decide +kernel
theorem dX4_endsWord_26 : decode cX4_endsWord 26 = .ok (.putfield 36, 3) := by decide +kernel
theorem dX4_endsWord_29 : decode cX4_endsWord 29 = .ok (.iconst 1, 1) := by decide +kernel
theorem dX4_endsWord_30 : decode cX4_endsWord 30 = .ok (.ireturn, 1) := by decide +kernel
set_option maxRecDepth 20000 in
theorem ggX4_addsLetter_X4_startsWord : GoodIn wsX4_addsLetter wsX4_startsWord := goodIn_r _ [11, 2, 3, 5, 1, 29, 30, 31, 32, 33, 34, 35, 36] (by decide +kernel) (by decide +kernel)
set_option maxRecDepth 20000 in
theorem gX4_addsLetter_X4_startsWord : GoodIn wsX4_addsLetter (wsV RX4 51 RX4 yX4_startsWord wsX4_startsWord) := goodIn_app (goodIn_of _ (by decide +kernel)) ggX4_addsLetter_X4_startsWord
set_option maxRecDepth 20000 in
theorem ggX4_addsLetter_X4_pointOf : GoodIn wsX4_addsLetter wsX4_pointOf := goodIn_r _ [15, 16, 17, 29, 30, 31, 32, 33, 34, 35, 36] (by decide +kernel) (by decide +kernel)
set_option maxRecDepth 20000 in
theorem gX4_addsLetter_X4_pointOf : GoodIn wsX4_addsLetter (wsV RX4 54 RX4 yX4_pointOf wsX4_pointOf) := goodIn_app (goodIn_of _ (by decide +kernel)) ggX4_addsLetter_X4_pointOf
set_option maxRecDepth 20000 in
theorem ggX4_addsLetter_X4_clashes : GoodIn wsX4_addsLetter wsX4_clashes := goodIn_r _ [21, 5, 22, 23, 24, 25, 26, 27, 28, 29, 30, 31, 32, 33, 34, 35, 36] (by decide +kernel) (by decide +kernel)
set_option maxRecDepth 20000 in
theorem gX4_addsLetter_X4_clashes : GoodIn wsX4_addsLetter (wsV RX4 58 RX4 yX4_clashes wsX4_clashes) := goodIn_app (goodIn_of _ (by decide +kernel)) ggX4_addsLetter_X4_clashes
theorem dX4_addsLetter_0 : decode cX4_addsLetter 0 = .ok (.iload_n 1, 1) := by decide +kernel
theorem dX4_addsLetter_1 : decode cX4_addsLetter 1 = .ok (.bipush 97, 2) := by decide +kernel
theorem dX4_addsLetter_3 : decode cX4_addsLetter 3 = .ok (.if_icmp .lt 23, 3) := by decide +kernel
theorem dX4_addsLetter_6 : decode cX4_addsLetter 6 = .ok (.iload_n 1, 1) := by decide +kernel
theorem dX4_addsLetter_7 : decode cX4_addsLetter 7 = .ok (.bipush 106, 2) := by decide +kernel
theorem dX4_addsLetter_9 : decode cX4_addsLetter 9 = .ok (.if_icmp .gt 17, 3) := by decide +kernel
theorem dX4_addsLetter_12 : decode cX4_addsLetter 12 = .ok (.aload_n 0, 1) := by decide +kernel
theorem dX4_addsLetter_13 : decode cX4_addsLetter 13 = .ok (.getfield 36, 3) := by decide +kernel
theorem dX4_addsLetter_16 : decode cX4_addsLetter 16 = .ok (.ifCond .ne 12, 3) := by decide +kernel
theorem dX4_addsLetter_19 : decode cX4_addsLetter 19 = .ok (.aload_n 0, 1) := by decide +kernel
theorem dX4_addsLetter_20 : decode cX4_addsLetter 20 = .ok (.invokevirtual 51, 3) := by decide +kernel
theorem dX4_addsLetter_23 : decode cX4_addsLetter 23 = .ok (.ifCond .ne 5, 3) := by decide +kernel
theorem dX4_addsLetter_26 : decode cX4_addsLetter 26 = .ok (.iconst 0, 1) := by decide +kernel
theorem dX4_addsLetter_27 : decode cX4_addsLetter 27 = .ok (.ireturn, 1) := by decide +kernel
theorem dX4_addsLetter_28 : decode cX4_addsLetter 28 = .ok (.aload_n 0, 1) := by decide +kernel
theorem dX4_addsLetter_29 : decode cX4_addsLetter 29 = .ok (.getfield 15, 3) := by decide +kernel
theorem dX4_addsLetter_32 : decode cX4_addsLetter 32 = .ok (.iconst 1, 1) := by decide +kernel
theorem dX4_addsLetter_33 : decode cX4_addsLetter 33 = .ok (.isub, 1) := by decide +kernel
theorem dX4_addsLetter_34 : decode cX4_addsLetter 34 = .ok (.istore_n 2, 1) := by decide +kernel
theorem dX4_addsLetter_35 : decode cX4_addsLetter 35 = .ok (.aload_n 0, 1) := by decide +kernel
theorem dX4_addsLetter_36 : decode cX4_addsLetter 36 = .ok (.iload_n 1, 1) := by decide +kernel
theorem dX4_addsLetter_37 : decode cX4_addsLetter 37 = .ok (.invokevirtual 54, 3) := by decide +kernel
theorem dX4_addsLetter_40 : decode cX4_addsLetter 40 = .ok (.istore_n 3, 1) := by decide +kernel
theorem dX4_addsLetter_41 : decode cX4_addsLetter 41 = .ok (.aload_n 0, 1) := by decide +kernel
theorem dX4_addsLetter_42 : decode cX4_addsLetter 42 = .ok (.getfield 25, 3) := by decide +kernel
theorem dX4_addsLetter_45 : decode cX4_addsLetter 45 = .ok (.iload_n 2, 1) := by decide +kernel
theorem dX4_addsLetter_46 : decode cX4_addsLetter 46 = .ok (.iaload, 1) := by decide +kernel
theorem dX4_addsLetter_47 : decode cX4_addsLetter 47 = .ok (.iconst 5, 1) := by decide +kernel
theorem dX4_addsLetter_48 : decode cX4_addsLetter 48 = .ok (.if_icmp .ge 14, 3) := by decide +kernel
theorem dX4_addsLetter_51 : decode cX4_addsLetter 51 = .ok (.aload_n 0, 1) := by decide +kernel
theorem dX4_addsLetter_52 : decode cX4_addsLetter 52 = .ok (.iload_n 2, 1) := by decide +kernel
theorem dX4_addsLetter_53 : decode cX4_addsLetter 53 = .ok (.iconst 1, 1) := by decide +kernel
theorem dX4_addsLetter_54 : decode cX4_addsLetter 54 = .ok (.iload_n 3, 1) := by decide +kernel
theorem dX4_addsLetter_55 : decode cX4_addsLetter 55 = .ok (.ishl, 1) := by decide +kernel
theorem dX4_addsLetter_56 : decode cX4_addsLetter 56 = .ok (.invokevirtual 58, 3) := by decide +kernel
theorem dX4_addsLetter_59 : decode cX4_addsLetter 59 = .ok (.ifCond .eq 5, 3) := by decide +kernel
theorem dX4_addsLetter_62 : decode cX4_addsLetter 62 = .ok (.iconst 0, 1) := by decide +kernel
theorem dX4_addsLetter_63 : decode cX4_addsLetter 63 = .ok (.ireturn, 1) := by decide +kernel
theorem dX4_addsLetter_64 : decode cX4_addsLetter 64 = .ok (.aload_n 0, 1) := by decide +kernel
theorem dX4_addsLetter_65 : decode cX4_addsLetter 65 = .ok (.getfield 30, 3) := by decide +kernel
theorem dX4_addsLetter_68 : decode cX4_addsLetter 68 = .ok (.iload_n 2, 1) := by decide +kernel
theorem dX4_addsLetter_69 : decode cX4_addsLetter 69 = .ok (.aaload, 1) := by decide +kernel
theorem dX4_addsLetter_70 : decode cX4_addsLetter 70 = .ok (.aload_n 0, 1) := by decide +kernel
theorem dX4_addsLetter_71 : decode cX4_addsLetter 71 = .ok (.getfield 25, 3) := by decide +kernel
theorem dX4_addsLetter_74 : decode cX4_addsLetter 74 = .ok (.iload_n 2, 1) := by decide +kernel
theorem dX4_addsLetter_75 : decode cX4_addsLetter 75 = .ok (.iaload, 1) := by decide +kernel
theorem dX4_addsLetter_76 : decode cX4_addsLetter 76 = .ok (.iload_n 3, 1) := by decide +kernel
theorem dX4_addsLetter_77 : decode cX4_addsLetter 77 = .ok (.iastore, 1) := by decide +kernel
theorem dX4_addsLetter_78 : decode cX4_addsLetter 78 = .ok (.aload_n 0, 1) := by decide +kernel
theorem dX4_addsLetter_79 : decode cX4_addsLetter 79 = .ok (.getfield 25, 3) := by decide +kernel
theorem dX4_addsLetter_82 : decode cX4_addsLetter 82 = .ok (.iload_n 2, 1) := by decide +kernel
theorem dX4_addsLetter_83 : decode cX4_addsLetter 83 = .ok (.dup2, 1) := by decide +kernel
theorem dX4_addsLetter_84 : decode cX4_addsLetter 84 = .ok (.iaload, 1) := by decide +kernel
theorem dX4_addsLetter_85 : decode cX4_addsLetter 85 = .ok (.iconst 1, 1) := by decide +kernel
theorem dX4_addsLetter_86 : decode cX4_addsLetter 86 = .ok (.iadd, 1) := by decide +kernel
theorem dX4_addsLetter_87 : decode cX4_addsLetter 87 = .ok (.iastore, 1) := by decide +kernel
theorem dX4_addsLetter_88 : decode cX4_addsLetter 88 = .ok (.aload_n 0, 1) := by decide +kernel
theorem dX4_addsLetter_89 : decode cX4_addsLetter 89 = .ok (.getfield 33, 3) := by decide +kernel
theorem dX4_addsLetter_92 : decode cX4_addsLetter 92 = .ok (.iload_n 2, 1) := by decide +kernel
theorem dX4_addsLetter_93 : decode cX4_addsLetter 93 = .ok (.dup2, 1) := by decide +kernel
theorem dX4_addsLetter_94 : decode cX4_addsLetter 94 = .ok (.iaload, 1) := by decide +kernel
theorem dX4_addsLetter_95 : decode cX4_addsLetter 95 = .ok (.iconst 1, 1) := by decide +kernel
theorem dX4_addsLetter_96 : decode cX4_addsLetter 96 = .ok (.iload_n 3, 1) := by decide +kernel
theorem dX4_addsLetter_97 : decode cX4_addsLetter 97 = .ok (.ishl, 1) := by decide +kernel
theorem dX4_addsLetter_98 : decode cX4_addsLetter 98 = .ok (.ior, 1) := by decide +kernel
theorem dX4_addsLetter_99 : decode cX4_addsLetter 99 = .ok (.iastore, 1) := by decide +kernel
theorem dX4_addsLetter_100 : decode cX4_addsLetter 100 = .ok (.aload_n 0, 1) := by decide +kernel
theorem dX4_addsLetter_101 : decode cX4_addsLetter 101 = .ok (.dup, 1) := by decide +kernel
theorem dX4_addsLetter_102 : decode cX4_addsLetter 102 = .ok (.getfield 18, 3) := by decide +kernel
theorem dX4_addsLetter_105 : decode cX4_addsLetter 105 = .ok (.iconst 1, 1) := by decide +kernel
theorem dX4_addsLetter_106 : decode cX4_addsLetter 106 = .ok (.iadd, 1) := by decide +kernel
theorem dX4_addsLetter_107 : decode cX4_addsLetter 107 = .ok (.putfield 18, 3) := by decide +kernel
theorem dX4_addsLetter_110 : decode cX4_addsLetter 110 = .ok (.iconst 1, 1) := by decide +kernel
theorem dX4_addsLetter_111 : decode cX4_addsLetter 111 = .ok (.ireturn, 1) := by decide +kernel
theorem dX4_startsWord_0 : decode cX4_startsWord 0 = .ok (.aload_n 0, 1) := by decide +kernel
theorem dX4_startsWord_1 : decode cX4_startsWord 1 = .ok (.getfield 15, 3) := by decide +kernel
theorem dX4_startsWord_4 : decode cX4_startsWord 4 = .ok (.bipush 12, 2) := by decide +kernel
theorem dX4_startsWord_6 : decode cX4_startsWord 6 = .ok (.if_icmp .lt 5, 3) := by decide +kernel
theorem dX4_startsWord_9 : decode cX4_startsWord 9 = .ok (.iconst 0, 1) := by decide +kernel
theorem dX4_startsWord_10 : decode cX4_startsWord 10 = .ok (.ireturn, 1) := by decide +kernel
theorem dX4_startsWord_11 : decode cX4_startsWord 11 = .ok (.aload_n 0, 1) := by decide +kernel
theorem dX4_startsWord_12 : decode cX4_startsWord 12 = .ok (.getfield 25, 3) := by decide +kernel
theorem dX4_startsWord_15 : decode cX4_startsWord 15 = .ok (.aload_n 0, 1) := by decide +kernel
theorem dX4_startsWord_16 : decode cX4_startsWord 16 = .ok (.getfield 15, 3) := by decide +kernel
theorem dX4_startsWord_19 : decode cX4_startsWord 19 = .ok (.iconst 0, 1) := by decide +kernel
theorem dX4_startsWord_20 : decode cX4_startsWord 20 = .ok (.iastore, 1) := by decide +kernel
theorem dX4_startsWord_21 : decode cX4_startsWord 21 = .ok (.aload_n 0, 1) := by decide +kernel
theorem dX4_startsWord_22 : decode cX4_startsWord 22 = .ok (.getfield 33, 3) := by decide +kernel
theorem dX4_startsWord_25 : decode cX4_startsWord 25 = .ok (.aload_n 0, 1) := by decide +kernel
theorem dX4_startsWord_26 : decode cX4_startsWord 26 = .ok (.getfield 15, 3) := by decide +kernel
theorem dX4_startsWord_29 : decode cX4_startsWord 29 = .ok (.iconst 0, 1) := by decide +kernel
theorem dX4_startsWord_30 : decode cX4_startsWord 30 = .ok (.iastore, 1) := by decide +kernel
theorem dX4_startsWord_31 : decode cX4_startsWord 31 = .ok (.aload_n 0, 1) := by decide +kernel
theorem dX4_startsWord_32 : decode cX4_startsWord 32 = .ok (.dup, 1) := by decide +kernel
theorem dX4_startsWord_33 : decode cX4_startsWord 33 = .ok (.getfield 15, 3) := by decide +kernel
theorem dX4_startsWord_36 : decode cX4_startsWord 36 = .ok (.iconst 1, 1) := by decide +kernel
theorem dX4_startsWord_37 : decode cX4_startsWord 37 = .ok (.iadd, 1) := by decide +kernel
theorem dX4_startsWord_38 : decode cX4_startsWord 38 = .ok (.putfield 15, 3) := by decide +kernel
theorem dX4_startsWord_41 : decode cX4_startsWord 41 = .ok (.aload_n 0, 1) := by decide +kernel
theorem dX4_startsWord_42 : decode cX4_startsWord 42 = .ok (.iconst 1, 1) := by decide +kernel
theorem dX4_startsWord_43 : decode cX4_startsWord 43 = .ok (.putfield 36, 3) := by decide +kernel
theorem dX4_startsWord_46 : decode cX4_startsWord 46 = .ok (.iconst 1, 1) := by decide +kernel
theorem dX4_startsWord_47 : decode cX4_startsWord 47 = .ok (.ireturn, 1) := by decide +kernel
theorem dX4_pointOf_0 : decode cX4_pointOf 0 = .ok (.iconst 0, 1) := by decide +kernel
theorem dX4_pointOf_1 : decode cX4_pointOf 1 = .ok (.istore_n 2, 1) := by decide +kernel
theorem dX4_pointOf_2 : decode cX4_pointOf 2 = .ok (.iload_n 2, 1) := by decide +kernel
theorem dX4_pointOf_3 : decode cX4_pointOf 3 = .ok (.aload_n 0, 1) := by decide +kernel
theorem dX4_pointOf_4 : decode cX4_pointOf 4 = .ok (.getfield 9, 3) := by decide +kernel
theorem dX4_pointOf_7 : decode cX4_pointOf 7 = .ok (.if_icmp .ge 21, 3) := by decide +kernel
theorem dX4_pointOf_10 : decode cX4_pointOf 10 = .ok (.aload_n 0, 1) := by decide +kernel
theorem dX4_pointOf_11 : decode cX4_pointOf 11 = .ok (.getfield 21, 3) := by decide +kernel
theorem dX4_pointOf_14 : decode cX4_pointOf 14 = .ok (.iload_n 2, 1) := by decide +kernel
theorem dX4_pointOf_15 : decode cX4_pointOf 15 = .ok (.iaload, 1) := by decide +kernel
theorem dX4_pointOf_16 : decode cX4_pointOf 16 = .ok (.iload_n 1, 1) := by decide +kernel
theorem dX4_pointOf_17 : decode cX4_pointOf 17 = .ok (.if_icmp .ne 5, 3) := by decide +kernel
theorem dX4_pointOf_20 : decode cX4_pointOf 20 = .ok (.iload_n 2, 1) := by decide +kernel
theorem dX4_pointOf_21 : decode cX4_pointOf 21 = .ok (.ireturn, 1) := by decide +kernel
theorem dX4_pointOf_22 : decode cX4_pointOf 22 = .ok (.iinc 2 1, 3) := by decide +kernel
theorem dX4_pointOf_25 : decode cX4_pointOf 25 = .ok (.goto (-23), 3) := by decide +kernel
theorem dX4_pointOf_28 : decode cX4_pointOf 28 = .ok (.aload_n 0, 1) := by decide +kernel
theorem dX4_pointOf_29 : decode cX4_pointOf 29 = .ok (.getfield 21, 3) := by decide +kernel
theorem dX4_pointOf_32 : decode cX4_pointOf 32 = .ok (.aload_n 0, 1) := by decide +kernel
theorem dX4_pointOf_33 : decode cX4_pointOf 33 = .ok (.getfield 9, 3) := by decide +kernel
theorem dX4_pointOf_36 : decode cX4_pointOf 36 = .ok (.iload_n 1, 1) := by decide +kernel
theorem dX4_pointOf_37 : decode cX4_pointOf 37 = .ok (.iastore, 1) := by decide +kernel
theorem dX4_pointOf_38 : decode cX4_pointOf 38 = .ok (.aload_n 0, 1) := by decide +kernel
theorem dX4_pointOf_39 : decode cX4_pointOf 39 = .ok (.dup, 1) := by decide +kernel
theorem dX4_pointOf_40 : decode cX4_pointOf 40 = .ok (.getfield 9, 3) := by decide +kernel
theorem dX4_pointOf_43 : decode cX4_pointOf 43 = .ok (.iconst 1, 1) := by decide +kernel
theorem dX4_pointOf_44 : decode cX4_pointOf 44 = .ok (.iadd, 1) := by decide +kernel
theorem dX4_pointOf_45 : decode cX4_pointOf 45 = .ok (.putfield 9, 3) := by decide +kernel
theorem dX4_pointOf_48 : decode cX4_pointOf 48 = .ok (.aload_n 0, 1) := by decide +kernel
theorem dX4_pointOf_49 : decode cX4_pointOf 49 = .ok (.getfield 9, 3) := by decide +kernel
theorem dX4_pointOf_52 : decode cX4_pointOf 52 = .ok (.iconst 1, 1) := by decide +kernel
theorem dX4_pointOf_53 : decode cX4_pointOf 53 = .ok (.isub, 1) := by decide +kernel
theorem dX4_pointOf_54 : decode cX4_pointOf 54 = .ok (.ireturn, 1) := by decide +kernel
set_option maxRecDepth 20000 in
theorem ggX4_clashes_J6_bitCount_0f7a4 : GoodIn wsX4_clashes wsJ6_bitCount_0f7a4 := goodIn_r _ [5, 6, 7, 8] (by decide +kernel) (by decide +kernel)
set_option maxRecDepth 20000 in
theorem gX4_clashes_J6_bitCount_0f7a4 : GoodIn wsX4_clashes (va_wsS RX4 62 yJ6_bitCount_0f7a4 wsJ6_bitCount_0f7a4) := goodIn_app (goodIn_of _ (by decide +kernel)) ggX4_clashes_J6_bitCount_0f7a4
theorem dX4_clashes_0 : decode cX4_clashes 0 = .ok (.aload_n 0, 1) := by decide +kernel
theorem dX4_clashes_1 : decode cX4_clashes 1 = .ok (.getfield 33, 3) := by decide +kernel
theorem dX4_clashes_4 : decode cX4_clashes 4 = .ok (.iload_n 1, 1) := by decide +kernel
theorem dX4_clashes_5 : decode cX4_clashes 5 = .ok (.iaload, 1) := by decide +kernel
theorem dX4_clashes_6 : decode cX4_clashes 6 = .ok (.iload_n 2, 1) := by decide +kernel
theorem dX4_clashes_7 : decode cX4_clashes 7 = .ok (.iand, 1) := by decide +kernel
theorem dX4_clashes_8 : decode cX4_clashes 8 = .ok (.ifCond .eq 5, 3) := by decide +kernel
theorem dX4_clashes_11 : decode cX4_clashes 11 = .ok (.iconst 1, 1) := by decide +kernel
theorem dX4_clashes_12 : decode cX4_clashes 12 = .ok (.ireturn, 1) := by decide +kernel
theorem dX4_clashes_13 : decode cX4_clashes 13 = .ok (.aload_n 0, 1) := by decide +kernel
theorem dX4_clashes_14 : decode cX4_clashes 14 = .ok (.getfield 33, 3) := by decide +kernel
theorem dX4_clashes_17 : decode cX4_clashes 17 = .ok (.iload_n 1, 1) := by decide +kernel
theorem dX4_clashes_18 : decode cX4_clashes 18 = .ok (.iaload, 1) := by decide +kernel
theorem dX4_clashes_19 : decode cX4_clashes 19 = .ok (.iload_n 2, 1) := by decide +kernel
theorem dX4_clashes_20 : decode cX4_clashes 20 = .ok (.ior, 1) := by decide +kernel
theorem dX4_clashes_21 : decode cX4_clashes 21 = .ok (.istore_n 3, 1) := by decide +kernel
theorem dX4_clashes_22 : decode cX4_clashes 22 = .ok (.iconst 0, 1) := by decide +kernel
theorem dX4_clashes_23 : decode cX4_clashes 23 = .ok (.istore 4, 2) := by decide +kernel
theorem dX4_clashes_25 : decode cX4_clashes 25 = .ok (.iload 4, 2) := by decide +kernel
theorem dX4_clashes_27 : decode cX4_clashes 27 = .ok (.iload_n 1, 1) := by decide +kernel
theorem dX4_clashes_28 : decode cX4_clashes 28 = .ok (.if_icmp .ge 27, 3) := by decide +kernel
theorem dX4_clashes_31 : decode cX4_clashes 31 = .ok (.aload_n 0, 1) := by decide +kernel
theorem dX4_clashes_32 : decode cX4_clashes 32 = .ok (.getfield 33, 3) := by decide +kernel
theorem dX4_clashes_35 : decode cX4_clashes 35 = .ok (.iload 4, 2) := by decide +kernel
theorem dX4_clashes_37 : decode cX4_clashes 37 = .ok (.iaload, 1) := by decide +kernel
theorem dX4_clashes_38 : decode cX4_clashes 38 = .ok (.iload_n 3, 1) := by decide +kernel
theorem dX4_clashes_39 : decode cX4_clashes 39 = .ok (.iand, 1) := by decide +kernel
theorem dX4_clashes_40 : decode cX4_clashes 40 = .ok (.invokestatic 62, 3) := by decide +kernel
theorem dX4_clashes_43 : decode cX4_clashes 43 = .ok (.iconst 1, 1) := by decide +kernel
theorem dX4_clashes_44 : decode cX4_clashes 44 = .ok (.if_icmp .le 5, 3) := by decide +kernel
theorem dX4_clashes_47 : decode cX4_clashes 47 = .ok (.iconst 1, 1) := by decide +kernel
theorem dX4_clashes_48 : decode cX4_clashes 48 = .ok (.ireturn, 1) := by decide +kernel
theorem dX4_clashes_49 : decode cX4_clashes 49 = .ok (.iinc 4 1, 3) := by decide +kernel
theorem dX4_clashes_52 : decode cX4_clashes 52 = .ok (.goto (-27), 3) := by decide +kernel
theorem dX4_clashes_55 : decode cX4_clashes 55 = .ok (.iconst 0, 1) := by decide +kernel
theorem dX4_clashes_56 : decode cX4_clashes 56 = .ok (.ireturn, 1) := by decide +kernel
theorem dX5_init_0 : decode cX5_init 0 = .ok (.aload_n 0, 1) := by decide +kernel
theorem dX5_init_1 : decode cX5_init 1 = .ok (.invokespecial 3, 3) := by decide +kernel
theorem dX5_init_4 : decode cX5_init 4 = .ok (.aload_n 0, 1) := by decide +kernel
theorem dX5_init_5 : decode cX5_init 5 = .ok (.bipush 120, 2) := by decide +kernel
theorem dX5_init_7 : decode cX5_init 7 = .ok (.newarray .boolean, 2) := by decide +kernel
theorem dX5_init_9 : decode cX5_init 9 = .ok (.putfield 9, 3) := by decide +kernel
theorem dX5_init_12 : decode cX5_init 12 = .ok (.aload_n 0, 1) := by decide +kernel
theorem dX5_init_13 : decode cX5_init 13 = .ok (.bipush 120, 2) := by decide +kernel
theorem dX5_init_15 : decode cX5_init 15 = .ok (.newarray .boolean, 2) := by decide +kernel
theorem dX5_init_17 : decode cX5_init 17 = .ok (.putfield 15, 3) := by decide +kernel
theorem dX5_init_20 : decode cX5_init 20 = .ok (.aload_n 0, 1) := by decide +kernel
theorem dX5_init_21 : decode cX5_init 21 = .ok (.bipush 120, 2) := by decide +kernel
theorem dX5_init_23 : decode cX5_init 23 = .ok (.newarray .int, 2) := by decide +kernel
theorem dX5_init_25 : decode cX5_init 25 = .ok (.putfield 18, 3) := by decide +kernel
theorem dX5_init_28 : decode cX5_init 28 = .ok (.aload_n 0, 1) := by decide +kernel
theorem dX5_init_29 : decode cX5_init 29 = .ok (.iconst 0, 1) := by decide +kernel
theorem dX5_init_30 : decode cX5_init 30 = .ok (.putfield 22, 3) := by decide +kernel
theorem dX5_init_33 : decode cX5_init 33 = .ok (.aload_n 0, 1) := by decide +kernel
theorem dX5_init_34 : decode cX5_init 34 = .ok (.iconst 0, 1) := by decide +kernel
theorem dX5_init_35 : decode cX5_init 35 = .ok (.putfield 26, 3) := by decide +kernel
theorem dX5_init_38 : decode cX5_init 38 = .ok (.return_, 1) := by decide +kernel
theorem dX5_spotOf_0 : decode cX5_spotOf 0 = .ok (.iload_n 0, 1) := by decide +kernel
theorem dX5_spotOf_1 : decode cX5_spotOf 1 = .ok (.iload_n 1, 1) := by decide +kernel
theorem dX5_spotOf_2 : decode cX5_spotOf 2 = .ok (.iload_n 2, 1) := by decide +kernel
theorem dX5_spotOf_3 : decode cX5_spotOf 3 = .ok (.invokestatic 29, 3) := by decide +kernel
theorem dX5_spotOf_6 : decode cX5_spotOf 6 = .ok (.invokestatic 29, 3) := by decide +kernel
theorem dX5_spotOf_9 : decode cX5_spotOf 9 = .ok (.istore_n 3, 1) := by decide +kernel
theorem dX5_spotOf_10 : decode cX5_spotOf 10 = .ok (.iload_n 0, 1) := by decide +kernel
theorem dX5_spotOf_11 : decode cX5_spotOf 11 = .ok (.iload_n 1, 1) := by decide +kernel
theorem dX5_spotOf_12 : decode cX5_spotOf 12 = .ok (.iload_n 2, 1) := by decide +kernel
theorem dX5_spotOf_13 : decode cX5_spotOf 13 = .ok (.invokestatic 35, 3) := by decide +kernel
theorem dX5_spotOf_16 : decode cX5_spotOf 16 = .ok (.invokestatic 35, 3) := by decide +kernel
theorem dX5_spotOf_19 : decode cX5_spotOf 19 = .ok (.istore 4, 2) := by decide +kernel
theorem dX5_spotOf_21 : decode cX5_spotOf 21 = .ok (.iload_n 0, 1) := by decide +kernel
theorem dX5_spotOf_22 : decode cX5_spotOf 22 = .ok (.iload_n 1, 1) := by decide +kernel
theorem dX5_spotOf_23 : decode cX5_spotOf 23 = .ok (.iadd, 1) := by decide +kernel
theorem dX5_spotOf_24 : decode cX5_spotOf 24 = .ok (.iload_n 2, 1) := by decide +kernel
theorem dX5_spotOf_25 : decode cX5_spotOf 25 = .ok (.iadd, 1) := by decide +kernel
theorem dX5_spotOf_26 : decode cX5_spotOf 26 = .ok (.iload_n 3, 1) := by decide +kernel
theorem dX5_spotOf_27 : decode cX5_spotOf 27 = .ok (.isub, 1) := by decide +kernel
theorem dX5_spotOf_28 : decode cX5_spotOf 28 = .ok (.iload 4, 2) := by decide +kernel
theorem dX5_spotOf_30 : decode cX5_spotOf 30 = .ok (.isub, 1) := by decide +kernel
theorem dX5_spotOf_31 : decode cX5_spotOf 31 = .ok (.istore 5, 2) := by decide +kernel
theorem dX5_spotOf_33 : decode cX5_spotOf 33 = .ok (.iload 4, 2) := by decide +kernel
theorem dX5_spotOf_35 : decode cX5_spotOf 35 = .ok (.iload 4, 2) := by decide +kernel
theorem dX5_spotOf_37 : decode cX5_spotOf 37 = .ok (.iconst 1, 1) := by decide +kernel
theorem dX5_spotOf_38 : decode cX5_spotOf 38 = .ok (.isub, 1) := by decide +kernel
theorem dX5_spotOf_39 : decode cX5_spotOf 39 = .ok (.imul, 1) := by decide +kernel
theorem dX5_spotOf_40 : decode cX5_spotOf 40 = .ok (.iload 4, 2) := by decide +kernel
theorem dX5_spotOf_42 : decode cX5_spotOf 42 = .ok (.iconst 2, 1) := by decide +kernel
theorem dX5_spotOf_43 : decode cX5_spotOf 43 = .ok (.isub, 1) := by decide +kernel
theorem dX5_spotOf_44 : decode cX5_spotOf 44 = .ok (.imul, 1) := by decide +kernel
theorem dX5_spotOf_45 : decode cX5_spotOf 45 = .ok (.bipush 6, 2) := by decide +kernel
theorem dX5_spotOf_47 : decode cX5_spotOf 47 = .ok (.idiv, 1) := by decide +kernel
theorem dX5_spotOf_48 : decode cX5_spotOf 48 = .ok (.iload 5, 2) := by decide +kernel
theorem dX5_spotOf_50 : decode cX5_spotOf 50 = .ok (.iload 5, 2) := by decide +kernel
theorem dX5_spotOf_52 : decode cX5_spotOf 52 = .ok (.iconst 1, 1) := by decide +kernel
theorem dX5_spotOf_53 : decode cX5_spotOf 53 = .ok (.isub, 1) := by decide +kernel
theorem dX5_spotOf_54 : decode cX5_spotOf 54 = .ok (.imul, 1) := by decide +kernel
theorem dX5_spotOf_55 : decode cX5_spotOf 55 = .ok (.iconst 2, 1) := by decide +kernel
theorem dX5_spotOf_56 : decode cX5_spotOf 56 = .ok (.idiv, 1) := by decide +kernel
theorem dX5_spotOf_57 : decode cX5_spotOf 57 = .ok (.iadd, 1) := by decide +kernel
theorem dX5_spotOf_58 : decode cX5_spotOf 58 = .ok (.iload_n 3, 1) := by decide +kernel
theorem dX5_spotOf_59 : decode cX5_spotOf 59 = .ok (.iadd, 1) := by decide +kernel
theorem dX5_spotOf_60 : decode cX5_spotOf 60 = .ok (.ireturn, 1) := by decide +kernel
theorem dX5_turnOf_0 : decode cX5_turnOf 0 = .ok (.iload_n 0, 1) := by decide +kernel
theorem dX5_turnOf_1 : decode cX5_turnOf 1 = .ok (.iload_n 1, 1) := by decide +kernel
theorem dX5_turnOf_2 : decode cX5_turnOf 2 = .ok (.if_icmp .le 7, 3) := by decide +kernel
theorem dX5_turnOf_5 : decode cX5_turnOf 5 = .ok (.iconst 1, 1) := by decide +kernel
theorem dX5_turnOf_6 : decode cX5_turnOf 6 = .ok (.goto 4, 3) := by decide +kernel
theorem dX5_turnOf_9 : decode cX5_turnOf 9 = .ok (.iconst 0, 1) := by decide +kernel
theorem dX5_turnOf_10 : decode cX5_turnOf 10 = .ok (.iload_n 0, 1) := by decide +kernel
theorem dX5_turnOf_11 : decode cX5_turnOf 11 = .ok (.iload_n 2, 1) := by decide +kernel
theorem dX5_turnOf_12 : decode cX5_turnOf 12 = .ok (.if_icmp .le 7, 3) := by decide +kernel
theorem dX5_turnOf_15 : decode cX5_turnOf 15 = .ok (.iconst 1, 1) := by decide +kernel
theorem dX5_turnOf_16 : decode cX5_turnOf 16 = .ok (.goto 4, 3) := by decide +kernel
theorem dX5_turnOf_19 : decode cX5_turnOf 19 = .ok (.iconst 0, 1) := by decide +kernel
theorem dX5_turnOf_20 : decode cX5_turnOf 20 = .ok (.iadd, 1) := by decide +kernel
theorem dX5_turnOf_21 : decode cX5_turnOf 21 = .ok (.iload_n 1, 1) := by decide +kernel
theorem dX5_turnOf_22 : decode cX5_turnOf 22 = .ok (.iload_n 2, 1) := by decide +kernel
theorem dX5_turnOf_23 : decode cX5_turnOf 23 = .ok (.if_icmp .le 7, 3) := by decide +kernel
theorem dX5_turnOf_26 : decode cX5_turnOf 26 = .ok (.iconst 1, 1) := by decide +kernel
theorem dX5_turnOf_27 : decode cX5_turnOf 27 = .ok (.goto 4, 3) := by decide +kernel
theorem dX5_turnOf_30 : decode cX5_turnOf 30 = .ok (.iconst 0, 1) := by decide +kernel
theorem dX5_turnOf_31 : decode cX5_turnOf 31 = .ok (.iadd, 1) := by decide +kernel
theorem dX5_turnOf_32 : decode cX5_turnOf 32 = .ok (.istore_n 3, 1) := by decide +kernel
theorem dX5_turnOf_33 : decode cX5_turnOf 33 = .ok (.iload_n 3, 1) := by decide +kernel
theorem dX5_turnOf_34 : decode cX5_turnOf 34 = .ok (.iconst 1, 1) := by decide +kernel
theorem dX5_turnOf_35 : decode cX5_turnOf 35 = .ok (.iand, 1) := by decide +kernel
theorem dX5_turnOf_36 : decode cX5_turnOf 36 = .ok (.ifCond .ne 7, 3) := by decide +kernel
theorem dX5_turnOf_39 : decode cX5_turnOf 39 = .ok (.iconst 1, 1) := by decide +kernel
theorem dX5_turnOf_40 : decode cX5_turnOf 40 = .ok (.goto 4, 3) := by decide +kernel
theorem dX5_turnOf_43 : decode cX5_turnOf 43 = .ok (.iconst (-1), 1) := by decide +kernel
theorem dX5_turnOf_44 : decode cX5_turnOf 44 = .ok (.ireturn, 1) := by decide +kernel
set_option maxRecDepth 20000 in
theorem ggX5_startWith_X5_flatten : GoodIn wsX5_startWith wsX5_flatten := goodIn_r _ [13, 1, 14, 15, 12, 16, 17, 18, 19, 20, 21, 22, 23, 24, 25, 26, 27, 28] (by decide +kernel) (by decide +kernel)
set_option maxRecDepth 20000 in
theorem gX5_startWith_X5_flatten : GoodIn wsX5_startWith (wsV RX5 50 RX5 yX5_flatten wsX5_flatten) := goodIn_app (goodIn_of _ (by decide +kernel)) ggX5_startWith_X5_flatten
theorem dX5_startWith_0 : decode cX5_startWith 0 = .ok (.iconst 0, 1) := by decide +kernel
theorem dX5_startWith_1 : decode cX5_startWith 1 = .ok (.istore_n 2, 1) := by decide +kernel
theorem dX5_startWith_2 : decode cX5_startWith 2 = .ok (.iload_n 2, 1) := by decide +kernel
theorem dX5_startWith_3 : decode cX5_startWith 3 = .ok (.bipush 120, 2) := by decide +kernel
theorem dX5_startWith_5 : decode cX5_startWith 5 = .ok (.if_icmp .ge 30, 3) := by decide +kernel
theorem dX5_startWith_8 : decode cX5_startWith 8 = .ok (.aload_n 0, 1) := by decide +kernel
theorem dX5_startWith_9 : decode cX5_startWith 9 = .ok (.getfield 9, 3) := by decide +kernel
theorem dX5_startWith_12 : decode cX5_startWith 12 = .ok (.iload_n 2, 1) := by decide +kernel
theorem dX5_startWith_13 : decode cX5_startWith 13 = .ok (.iconst 0, 1) := by decide +kernel
theorem dX5_startWith_14 : decode cX5_startWith 14 = .ok (.bastore, 1) := by decide +kernel
theorem dX5_startWith_15 : decode cX5_startWith 15 = .ok (.aload_n 0, 1) := by decide +kernel
theorem dX5_startWith_16 : decode cX5_startWith 16 = .ok (.getfield 15, 3) := by decide +kernel
theorem dX5_startWith_19 : decode cX5_startWith 19 = .ok (.iload_n 2, 1) := by decide +kernel
theorem dX5_startWith_20 : decode cX5_startWith 20 = .ok (.iconst 0, 1) := by decide +kernel
theorem dX5_startWith_21 : decode cX5_startWith 21 = .ok (.bastore, 1) := by decide +kernel
theorem dX5_startWith_22 : decode cX5_startWith 22 = .ok (.aload_n 0, 1) := by decide +kernel
theorem dX5_startWith_23 : decode cX5_startWith 23 = .ok (.getfield 18, 3) := by decide +kernel
theorem dX5_startWith_26 : decode cX5_startWith 26 = .ok (.iload_n 2, 1) := by decide +kernel
theorem dX5_startWith_27 : decode cX5_startWith 27 = .ok (.iconst 0, 1) := by decide +kernel
theorem dX5_startWith_28 : decode cX5_startWith 28 = .ok (.iastore, 1) := by decide +kernel
theorem dX5_startWith_29 : decode cX5_startWith 29 = .ok (.iinc 2 1, 3) := by decide +kernel
theorem dX5_startWith_32 : decode cX5_startWith 32 = .ok (.goto (-30), 3) := by decide +kernel
theorem dX5_startWith_35 : decode cX5_startWith 35 = .ok (.aload_n 0, 1) := by decide +kernel
theorem dX5_startWith_36 : decode cX5_startWith 36 = .ok (.iconst 0, 1) := by decide +kernel
theorem dX5_startWith_37 : decode cX5_startWith 37 = .ok (.putfield 22, 3) := by decide +kernel
theorem dX5_startWith_40 : decode cX5_startWith 40 = .ok (.aload_n 0, 1) := by decide +kernel
theorem dX5_startWith_41 : decode cX5_startWith 41 = .ok (.iconst 0, 1) := by decide +kernel
theorem dX5_startWith_42 : decode cX5_startWith 42 = .ok (.putfield 26, 3) := by decide +kernel
theorem dX5_startWith_45 : decode cX5_startWith 45 = .ok (.iconst 0, 1) := by decide +kernel
theorem dX5_startWith_46 : decode cX5_startWith 46 = .ok (.istore_n 2, 1) := by decide +kernel
theorem dX5_startWith_47 : decode cX5_startWith 47 = .ok (.iload_n 2, 1) := by decide +kernel
theorem dX5_startWith_48 : decode cX5_startWith 48 = .ok (.aload_n 1, 1) := by decide +kernel
theorem dX5_startWith_49 : decode cX5_startWith 49 = .ok (.getfield 38, 3) := by decide +kernel
theorem dX5_startWith_52 : decode cX5_startWith 52 = .ok (.if_icmp .ge 25, 3) := by decide +kernel
theorem dX5_startWith_55 : decode cX5_startWith 55 = .ok (.aload_n 0, 1) := by decide +kernel
theorem dX5_startWith_56 : decode cX5_startWith 56 = .ok (.aload_n 1, 1) := by decide +kernel
theorem dX5_startWith_57 : decode cX5_startWith 57 = .ok (.getfield 43, 3) := by decide +kernel
theorem dX5_startWith_60 : decode cX5_startWith 60 = .ok (.iload_n 2, 1) := by decide +kernel
theorem dX5_startWith_61 : decode cX5_startWith 61 = .ok (.aaload, 1) := by decide +kernel
theorem dX5_startWith_62 : decode cX5_startWith 62 = .ok (.aload_n 1, 1) := by decide +kernel
theorem dX5_startWith_63 : decode cX5_startWith 63 = .ok (.getfield 47, 3) := by decide +kernel
theorem dX5_startWith_66 : decode cX5_startWith 66 = .ok (.iload_n 2, 1) := by decide +kernel
theorem dX5_startWith_67 : decode cX5_startWith 67 = .ok (.iaload, 1) := by decide +kernel
theorem dX5_startWith_68 : decode cX5_startWith 68 = .ok (.invokevirtual 50, 3) := by decide +kernel
theorem dX5_startWith_71 : decode cX5_startWith 71 = .ok (.iinc 2 1, 3) := by decide +kernel
theorem dX5_startWith_74 : decode cX5_startWith 74 = .ok (.goto (-27), 3) := by decide +kernel
theorem dX5_startWith_77 : decode cX5_startWith 77 = .ok (.return_, 1) := by decide +kernel
set_option maxRecDepth 20000 in
theorem ggX5_flatten_X5_spotOf : GoodIn wsX5_flatten wsX5_spotOf := goodIn_r _ [5, 6, 7, 8, 9, 10, 11, 12] (by decide +kernel) (by decide +kernel)
set_option maxRecDepth 20000 in
theorem gX5_flatten_X5_spotOf : GoodIn wsX5_flatten (va_wsS RX5 54 yX5_spotOf wsX5_spotOf) := goodIn_app (goodIn_of _ (by decide +kernel)) ggX5_flatten_X5_spotOf
theorem dX5_flatten_0 : decode cX5_flatten 0 = .ok (.iconst 0, 1) := by decide +kernel
theorem dX5_flatten_1 : decode cX5_flatten 1 = .ok (.istore_n 3, 1) := by decide +kernel
theorem dX5_flatten_2 : decode cX5_flatten 2 = .ok (.iload_n 3, 1) := by decide +kernel
theorem dX5_flatten_3 : decode cX5_flatten 3 = .ok (.iload_n 2, 1) := by decide +kernel
theorem dX5_flatten_4 : decode cX5_flatten 4 = .ok (.if_icmp .ge 60, 3) := by decide +kernel
theorem dX5_flatten_7 : decode cX5_flatten 7 = .ok (.iconst 0, 1) := by decide +kernel
theorem dX5_flatten_8 : decode cX5_flatten 8 = .ok (.istore 4, 2) := by decide +kernel
theorem dX5_flatten_10 : decode cX5_flatten 10 = .ok (.iload 4, 2) := by decide +kernel
theorem dX5_flatten_12 : decode cX5_flatten 12 = .ok (.iload_n 3, 1) := by decide +kernel
theorem dX5_flatten_13 : decode cX5_flatten 13 = .ok (.if_icmp .ge 45, 3) := by decide +kernel
theorem dX5_flatten_16 : decode cX5_flatten 16 = .ok (.iconst 0, 1) := by decide +kernel
theorem dX5_flatten_17 : decode cX5_flatten 17 = .ok (.istore 5, 2) := by decide +kernel
theorem dX5_flatten_19 : decode cX5_flatten 19 = .ok (.iload 5, 2) := by decide +kernel
theorem dX5_flatten_21 : decode cX5_flatten 21 = .ok (.iload 4, 2) := by decide +kernel
theorem dX5_flatten_23 : decode cX5_flatten 23 = .ok (.if_icmp .ge 29, 3) := by decide +kernel
theorem dX5_flatten_26 : decode cX5_flatten 26 = .ok (.aload_n 0, 1) := by decide +kernel
theorem dX5_flatten_27 : decode cX5_flatten 27 = .ok (.getfield 9, 3) := by decide +kernel
theorem dX5_flatten_30 : decode cX5_flatten 30 = .ok (.aload_n 1, 1) := by decide +kernel
theorem dX5_flatten_31 : decode cX5_flatten 31 = .ok (.iload_n 3, 1) := by decide +kernel
theorem dX5_flatten_32 : decode cX5_flatten 32 = .ok (.iaload, 1) := by decide +kernel
theorem dX5_flatten_33 : decode cX5_flatten 33 = .ok (.aload_n 1, 1) := by decide +kernel
theorem dX5_flatten_34 : decode cX5_flatten 34 = .ok (.iload 4, 2) := by decide +kernel
theorem dX5_flatten_36 : decode cX5_flatten 36 = .ok (.iaload, 1) := by decide +kernel
theorem dX5_flatten_37 : decode cX5_flatten 37 = .ok (.aload_n 1, 1) := by decide +kernel
theorem dX5_flatten_38 : decode cX5_flatten 38 = .ok (.iload 5, 2) := by decide +kernel
theorem dX5_flatten_40 : decode cX5_flatten 40 = .ok (.iaload, 1) := by decide +kernel
theorem dX5_flatten_41 : decode cX5_flatten 41 = .ok (.invokestatic 54, 3) := by decide +kernel
theorem dX5_flatten_44 : decode cX5_flatten 44 = .ok (.iconst 1, 1) := by decide +kernel
theorem dX5_flatten_45 : decode cX5_flatten 45 = .ok (.bastore, 1) := by decide +kernel
theorem dX5_flatten_46 : decode cX5_flatten 46 = .ok (.iinc 5 1, 3) := by decide +kernel
theorem dX5_flatten_49 : decode cX5_flatten 49 = .ok (.goto (-30), 3) := by decide +kernel
theorem dX5_flatten_52 : decode cX5_flatten 52 = .ok (.iinc 4 1, 3) := by decide +kernel
theorem dX5_flatten_55 : decode cX5_flatten 55 = .ok (.goto (-45), 3) := by decide +kernel
theorem dX5_flatten_58 : decode cX5_flatten 58 = .ok (.iinc 3 1, 3) := by decide +kernel
theorem dX5_flatten_61 : decode cX5_flatten 61 = .ok (.goto (-59), 3) := by decide +kernel
theorem dX5_flatten_64 : decode cX5_flatten 64 = .ok (.return_, 1) := by decide +kernel
theorem dX5_addBarred_0 : decode cX5_addBarred 0 = .ok (.aload_n 0, 1) := by decide +kernel
theorem dX5_addBarred_1 : decode cX5_addBarred 1 = .ok (.getfield 15, 3) := by decide +kernel
theorem dX5_addBarred_4 : decode cX5_addBarred 4 = .ok (.iload_n 1, 1) := by decide +kernel
theorem dX5_addBarred_5 : decode cX5_addBarred 5 = .ok (.baload, 1) := by decide +kernel
theorem dX5_addBarred_6 : decode cX5_addBarred 6 = .ok (.ifCond .ne 32, 3) := by decide +kernel
theorem dX5_addBarred_9 : decode cX5_addBarred 9 = .ok (.aload_n 0, 1) := by decide +kernel
theorem dX5_addBarred_10 : decode cX5_addBarred 10 = .ok (.getfield 22, 3) := by decide +kernel
theorem dX5_addBarred_13 : decode cX5_addBarred 13 = .ok (.bipush 20, 2) := by decide +kernel
theorem dX5_addBarred_15 : decode cX5_addBarred 15 = .ok (.if_icmp .lt 6, 3) := by decide +kernel
theorem dX5_addBarred_18 : decode cX5_addBarred 18 = .ok (.bipush (-3), 2) := by decide +kernel
theorem dX5_addBarred_20 : decode cX5_addBarred 20 = .ok (.ireturn, 1) := by decide +kernel
theorem dX5_addBarred_21 : decode cX5_addBarred 21 = .ok (.aload_n 0, 1) := by decide +kernel
theorem dX5_addBarred_22 : decode cX5_addBarred 22 = .ok (.getfield 15, 3) := by decide +kernel
theorem dX5_addBarred_25 : decode cX5_addBarred 25 = .ok (.iload_n 1, 1) := by decide +kernel
theorem dX5_addBarred_26 : decode cX5_addBarred 26 = .ok (.iconst 1, 1) := by decide +kernel
theorem dX5_addBarred_27 : decode cX5_addBarred 27 = .ok (.bastore, 1) := by decide +kernel
theorem dX5_addBarred_28 : decode cX5_addBarred 28 = .ok (.aload_n 0, 1) := by decide +kernel
theorem dX5_addBarred_29 : decode cX5_addBarred 29 = .ok (.dup, 1) := by decide +kernel
theorem dX5_addBarred_30 : decode cX5_addBarred 30 = .ok (.getfield 22, 3) := by decide +kernel
theorem dX5_addBarred_33 : decode cX5_addBarred 33 = .ok (.iconst 1, 1) := by decide +kernel
theorem dX5_addBarred_34 : decode cX5_addBarred 34 = .ok (.iadd, 1) := by decide +kernel
theorem dX5_addBarred_35 : decode cX5_addBarred 35 = .ok (.putfield 22, 3) := by decide +kernel
theorem dX5_addBarred_38 : decode cX5_addBarred 38 = .ok (.aload_n 0, 1) := by decide +kernel
theorem dX5_addBarred_39 : decode cX5_addBarred 39 = .ok (.getfield 22, 3) := by decide +kernel
theorem dX5_addBarred_42 : decode cX5_addBarred 42 = .ok (.ireturn, 1) := by decide +kernel
theorem dX5_addOriented_0 : decode cX5_addOriented 0 = .ok (.aload_n 0, 1) := by decide +kernel
theorem dX5_addOriented_1 : decode cX5_addOriented 1 = .ok (.getfield 18, 3) := by decide +kernel
theorem dX5_addOriented_4 : decode cX5_addOriented 4 = .ok (.iload_n 1, 1) := by decide +kernel
theorem dX5_addOriented_5 : decode cX5_addOriented 5 = .ok (.iaload, 1) := by decide +kernel
theorem dX5_addOriented_6 : decode cX5_addOriented 6 = .ok (.ifCond .ne 32, 3) := by decide +kernel
theorem dX5_addOriented_9 : decode cX5_addOriented 9 = .ok (.aload_n 0, 1) := by decide +kernel
theorem dX5_addOriented_10 : decode cX5_addOriented 10 = .ok (.getfield 26, 3) := by decide +kernel
theorem dX5_addOriented_13 : decode cX5_addOriented 13 = .ok (.bipush 20, 2) := by decide +kernel
theorem dX5_addOriented_15 : decode cX5_addOriented 15 = .ok (.if_icmp .lt 6, 3) := by decide +kernel
theorem dX5_addOriented_18 : decode cX5_addOriented 18 = .ok (.bipush (-3), 2) := by decide +kernel
theorem dX5_addOriented_20 : decode cX5_addOriented 20 = .ok (.ireturn, 1) := by decide +kernel
theorem dX5_addOriented_21 : decode cX5_addOriented 21 = .ok (.aload_n 0, 1) := by decide +kernel
theorem dX5_addOriented_22 : decode cX5_addOriented 22 = .ok (.getfield 18, 3) := by decide +kernel
theorem dX5_addOriented_25 : decode cX5_addOriented 25 = .ok (.iload_n 1, 1) := by decide +kernel
theorem dX5_addOriented_26 : decode cX5_addOriented 26 = .ok (.iload_n 2, 1) := by decide +kernel
theorem dX5_addOriented_27 : decode cX5_addOriented 27 = .ok (.iastore, 1) := by decide +kernel
theorem dX5_addOriented_28 : decode cX5_addOriented 28 = .ok (.aload_n 0, 1) := by decide +kernel
theorem dX5_addOriented_29 : decode cX5_addOriented 29 = .ok (.dup, 1) := by decide +kernel
theorem dX5_addOriented_30 : decode cX5_addOriented 30 = .ok (.getfield 26, 3) := by decide +kernel
theorem dX5_addOriented_33 : decode cX5_addOriented 33 = .ok (.iconst 1, 1) := by decide +kernel
theorem dX5_addOriented_34 : decode cX5_addOriented 34 = .ok (.iadd, 1) := by decide +kernel
theorem dX5_addOriented_35 : decode cX5_addOriented 35 = .ok (.putfield 26, 3) := by decide +kernel
theorem dX5_addOriented_38 : decode cX5_addOriented 38 = .ok (.aload_n 0, 1) := by decide +kernel
theorem dX5_addOriented_39 : decode cX5_addOriented 39 = .ok (.getfield 26, 3) := by decide +kernel
theorem dX5_addOriented_42 : decode cX5_addOriented 42 = .ok (.ireturn, 1) := by decide +kernel
set_option maxRecDepth 20000 in
theorem ggX6_init_X4_init : GoodIn wsX6_init wsX4_init := goodIn_r _ [29, 30, 2, 3, 31, 32, 33, 4, 34, 35, 36, 37, 38, 39, 118, 119, 120, 121, 122, 123, 124, 125] (by decide +kernel) (by decide +kernel)
set_option maxRecDepth 20000 in
theorem gX6_init_X4_init_n19 : GoodIn wsX6_init (wsX4_init) := ggX6_init_X4_init
set_option maxRecDepth 20000 in
theorem ggX6_init_X5_init : GoodIn wsX6_init wsX5_init := goodIn_r _ [41, 42, 2, 3, 43, 44, 45, 4, 46, 47, 48, 126, 127, 128, 129, 130] (by decide +kernel) (by decide +kernel)
set_option maxRecDepth 20000 in
theorem gX6_init_X5_init_n29 : GoodIn wsX6_init (wsX5_init) := ggX6_init_X5_init
set_option maxRecDepth 20000 in
theorem ggX6_init_X3_init : GoodIn wsX6_init wsX3_init := goodIn_r _ [51, 52, 2, 3, 53, 54, 55, 56, 57, 58, 4, 59, 60, 61, 62, 63, 64, 65, 66, 67, 68, 69, 70, 71, 72, 73, 74, 75, 76, 77, 165, 166, 167, 131, 132, 133, 134, 135, 136, 137, 138, 139, 140, 141, 142, 143, 144] (by decide +kernel) (by decide +kernel)
set_option maxRecDepth 20000 in
theorem gX6_init_X3_init : GoodIn wsX6_init (wsX3_init) := ggX6_init_X3_init
set_option maxRecDepth 20000 in
theorem ggX6_init_X0_init : GoodIn wsX6_init wsX0_init := goodIn_r _ [80, 81, 2, 3, 82, 83, 4, 84, 85, 86, 87, 88, 89, 90, 91, 92, 145, 146, 147, 148, 149, 150, 151, 152, 153, 154, 155] (by decide +kernel) (by decide +kernel)
set_option maxRecDepth 20000 in
theorem gX6_init_X0_init : GoodIn wsX6_init (wsX0_init) := ggX6_init_X0_init
set_option maxRecDepth 20000 in
theorem ggX6_init_X1_init : GoodIn wsX6_init wsX1_init := goodIn_r _ [95, 96, 2, 3, 4, 97, 98, 99, 100, 101, 102, 103, 104, 105, 106, 107, 108, 109, 156, 157, 158, 159, 160, 161, 162, 163, 164] (by decide +kernel) (by decide +kernel)
set_option maxRecDepth 20000 in
theorem gX6_init_X1_init : GoodIn wsX6_init (wsX1_init) := ggX6_init_X1_init
theorem dX6_init_0 : decode cX6_init 0 = .ok (.aload_n 0, 1) := by decide +kernel
theorem dX6_init_1 : decode cX6_init 1 = .ok (.invokespecial 1, 3) := by decide +kernel
theorem dX6_init_4 : decode cX6_init 4 = .ok (.aload_n 0, 1) := by decide +kernel
theorem dX6_init_5 : decode cX6_init 5 = .ok (.bipush 80, 2) := by decide +kernel
theorem dX6_init_7 : decode cX6_init 7 = .ok (.newarray .int, 2) := by decide +kernel
theorem dX6_init_9 : decode cX6_init 9 = .ok (.putfield 9, 3) := by decide +kernel
theorem dX6_init_12 : decode cX6_init 12 = .ok (.aload_n 0, 1) := by decide +kernel
theorem dX6_init_13 : decode cX6_init 13 = .ok (.iconst 0, 1) := by decide +kernel
theorem dX6_init_14 : decode cX6_init 14 = .ok (.putfield 13, 3) := by decide +kernel
theorem dX6_init_17 : decode cX6_init 17 = .ok (.aload_n 0, 1) := by decide +kernel
theorem dX6_init_18 : decode cX6_init 18 = .ok (.new 17, 3) := by decide +kernel
theorem dX6_init_21 : decode cX6_init 21 = .ok (.dup, 1) := by decide +kernel
theorem dX6_init_22 : decode cX6_init 22 = .ok (.invokespecial 19, 3) := by decide +kernel
theorem dX6_init_25 : decode cX6_init 25 = .ok (.putfield 20, 3) := by decide +kernel
theorem dX6_init_28 : decode cX6_init 28 = .ok (.aload_n 0, 1) := by decide +kernel
theorem dX6_init_29 : decode cX6_init 29 = .ok (.new 17, 3) := by decide +kernel
theorem dX6_init_32 : decode cX6_init 32 = .ok (.dup, 1) := by decide +kernel
theorem dX6_init_33 : decode cX6_init 33 = .ok (.invokespecial 19, 3) := by decide +kernel
theorem dX6_init_36 : decode cX6_init 36 = .ok (.putfield 24, 3) := by decide +kernel
theorem dX6_init_39 : decode cX6_init 39 = .ok (.aload_n 0, 1) := by decide +kernel
theorem dX6_init_40 : decode cX6_init 40 = .ok (.new 27, 3) := by decide +kernel
theorem dX6_init_43 : decode cX6_init 43 = .ok (.dup, 1) := by decide +kernel
theorem dX6_init_44 : decode cX6_init 44 = .ok (.invokespecial 29, 3) := by decide +kernel
theorem dX6_init_47 : decode cX6_init 47 = .ok (.putfield 30, 3) := by decide +kernel
theorem dX6_init_50 : decode cX6_init 50 = .ok (.aload_n 0, 1) := by decide +kernel
theorem dX6_init_51 : decode cX6_init 51 = .ok (.new 34, 3) := by decide +kernel
theorem dX6_init_54 : decode cX6_init 54 = .ok (.dup, 1) := by decide +kernel
theorem dX6_init_55 : decode cX6_init 55 = .ok (.aload_n 0, 1) := by decide +kernel
theorem dX6_init_56 : decode cX6_init 56 = .ok (.getfield 30, 3) := by decide +kernel
theorem dX6_init_59 : decode cX6_init 59 = .ok (.invokespecial 36, 3) := by decide +kernel
theorem dX6_init_62 : decode cX6_init 62 = .ok (.putfield 39, 3) := by decide +kernel
theorem dX6_init_65 : decode cX6_init 65 = .ok (.aload_n 0, 1) := by decide +kernel
theorem dX6_init_66 : decode cX6_init 66 = .ok (.new 43, 3) := by decide +kernel
theorem dX6_init_69 : decode cX6_init 69 = .ok (.dup, 1) := by decide +kernel
theorem dX6_init_70 : decode cX6_init 70 = .ok (.aload_n 0, 1) := by decide +kernel
theorem dX6_init_71 : decode cX6_init 71 = .ok (.getfield 30, 3) := by decide +kernel
theorem dX6_init_74 : decode cX6_init 74 = .ok (.invokespecial 45, 3) := by decide +kernel
theorem dX6_init_77 : decode cX6_init 77 = .ok (.putfield 46, 3) := by decide +kernel
theorem dX6_init_80 : decode cX6_init 80 = .ok (.aload_n 0, 1) := by decide +kernel
theorem dX6_init_81 : decode cX6_init 81 = .ok (.new 50, 3) := by decide +kernel
theorem dX6_init_84 : decode cX6_init 84 = .ok (.dup, 1) := by decide +kernel
theorem dX6_init_85 : decode cX6_init 85 = .ok (.invokespecial 52, 3) := by decide +kernel
theorem dX6_init_88 : decode cX6_init 88 = .ok (.putfield 53, 3) := by decide +kernel
theorem dX6_init_91 : decode cX6_init 91 = .ok (.return_, 1) := by decide +kernel
theorem dX6_sign_0 : decode cX6_sign 0 = .ok (.iload_n 1, 1) := by decide +kernel
theorem dX6_sign_1 : decode cX6_sign 1 = .ok (.ifCond .lt 10, 3) := by decide +kernel
theorem dX6_sign_4 : decode cX6_sign 4 = .ok (.iload_n 1, 1) := by decide +kernel
theorem dX6_sign_5 : decode cX6_sign 5 = .ok (.sipush 255, 3) := by decide +kernel
theorem dX6_sign_8 : decode cX6_sign 8 = .ok (.if_icmp .le 6, 3) := by decide +kernel
theorem dX6_sign_11 : decode cX6_sign 11 = .ok (.bipush (-9), 2) := by decide +kernel
theorem dX6_sign_13 : decode cX6_sign 13 = .ok (.ireturn, 1) := by decide +kernel
theorem dX6_sign_14 : decode cX6_sign 14 = .ok (.aload_n 0, 1) := by decide +kernel
theorem dX6_sign_15 : decode cX6_sign 15 = .ok (.getfield 13, 3) := by decide +kernel
theorem dX6_sign_18 : decode cX6_sign 18 = .ok (.bipush 80, 2) := by decide +kernel
theorem dX6_sign_20 : decode cX6_sign 20 = .ok (.if_icmp .lt 6, 3) := by decide +kernel
theorem dX6_sign_23 : decode cX6_sign 23 = .ok (.bipush (-3), 2) := by decide +kernel
theorem dX6_sign_25 : decode cX6_sign 25 = .ok (.ireturn, 1) := by decide +kernel
theorem dX6_sign_26 : decode cX6_sign 26 = .ok (.aload_n 0, 1) := by decide +kernel
theorem dX6_sign_27 : decode cX6_sign 27 = .ok (.getfield 9, 3) := by decide +kernel
theorem dX6_sign_30 : decode cX6_sign 30 = .ok (.aload_n 0, 1) := by decide +kernel
theorem dX6_sign_31 : decode cX6_sign 31 = .ok (.getfield 13, 3) := by decide +kernel
theorem dX6_sign_34 : decode cX6_sign 34 = .ok (.iload_n 1, 1) := by decide +kernel
theorem dX6_sign_35 : decode cX6_sign 35 = .ok (.iastore, 1) := by decide +kernel
theorem dX6_sign_36 : decode cX6_sign 36 = .ok (.aload_n 0, 1) := by decide +kernel
theorem dX6_sign_37 : decode cX6_sign 37 = .ok (.dup, 1) := by decide +kernel
theorem dX6_sign_38 : decode cX6_sign 38 = .ok (.getfield 13, 3) := by decide +kernel
theorem dX6_sign_41 : decode cX6_sign 41 = .ok (.iconst 1, 1) := by decide +kernel
theorem dX6_sign_42 : decode cX6_sign 42 = .ok (.iadd, 1) := by decide +kernel
theorem dX6_sign_43 : decode cX6_sign 43 = .ok (.putfield 13, 3) := by decide +kernel
theorem dX6_sign_46 : decode cX6_sign 46 = .ok (.aload_n 0, 1) := by decide +kernel
theorem dX6_sign_47 : decode cX6_sign 47 = .ok (.getfield 13, 3) := by decide +kernel
theorem dX6_sign_50 : decode cX6_sign 50 = .ok (.ireturn, 1) := by decide +kernel
set_option maxRecDepth 20000 in
theorem ggX6_read_X4_take : GoodIn wsX6_read wsX4_take := goodIn_r _ [14, 15, 16, 17, 18, 19, 20, 21, 13, 22, 23, 24, 25, 26, 27, 28, 29, 30, 31, 32, 33, 34, 35, 36, 37, 38, 39, 40, 41, 42, 43, 44, 45, 46, 47, 48, 49, 105, 106, 107, 108, 109, 110, 111, 112] (by decide +kernel) (by decide +kernel)
set_option maxRecDepth 20000 in
theorem gX6_read_X4_take : GoodIn wsX6_read (wsV RX6 57 RX4 yX4_take wsX4_take) := goodIn_app (goodIn_of _ (by decide +kernel)) ggX6_read_X4_take
set_option maxRecDepth 20000 in
theorem ggX6_read_X5_startWith : GoodIn wsX6_read wsX5_startWith := goodIn_r _ [54, 55, 56, 57, 58, 59, 60, 61, 62, 63, 64, 65, 53, 66, 67, 68, 69, 70, 71, 72, 73, 74, 75, 76, 113, 114, 115, 116, 117, 105, 106, 107, 108, 109, 110, 111, 112] (by decide +kernel) (by decide +kernel)
set_option maxRecDepth 20000 in
theorem gX6_read_X5_startWith : GoodIn wsX6_read (wsV RX6 61 RX5 yX5_startWith wsX5_startWith) := goodIn_app (goodIn_of _ (by decide +kernel)) ggX6_read_X5_startWith
set_option maxRecDepth 20000 in
theorem ggX6_read_X3_forget : GoodIn wsX6_read wsX3_forget := goodIn_r _ [81, 82, 83, 118, 119, 120, 121, 122, 123, 124, 125, 126, 127, 128, 129, 130, 131] (by decide +kernel) (by decide +kernel)
set_option maxRecDepth 20000 in
theorem gX6_read_X3_forget : GoodIn wsX6_read (wsV RX6 65 RX3 yX3_forget wsX3_forget) := goodIn_app (goodIn_of _ (by decide +kernel)) ggX6_read_X3_forget
set_option maxRecDepth 20000 in
theorem ggX6_read_X0_forget : GoodIn wsX6_read wsX0_forget := goodIn_r _ [88, 89, 90, 132, 133, 134, 135, 136, 137, 138, 139, 140, 141, 142] (by decide +kernel) (by decide +kernel)
set_option maxRecDepth 20000 in
theorem gX6_read_X0_forget : GoodIn wsX6_read (wsV RX6 68 RX0 yX0_forget wsX0_forget) := goodIn_app (goodIn_of _ (by decide +kernel)) ggX6_read_X0_forget
set_option maxRecDepth 20000 in
theorem ggX6_read_X1_forget : GoodIn wsX6_read wsX1_forget := goodIn_r _ [95, 96, 143, 144, 145, 146, 147, 148, 149, 150, 151] (by decide +kernel) (by decide +kernel)
set_option maxRecDepth 20000 in
theorem gX6_read_X1_forget : GoodIn wsX6_read (wsV RX6 69 RX1 yX1_forget wsX1_forget) := goodIn_app (goodIn_of _ (by decide +kernel)) ggX6_read_X1_forget
theorem dX6_read_0 : decode cX6_read 0 = .ok (.aload_n 0, 1) := by decide +kernel
theorem dX6_read_1 : decode cX6_read 1 = .ok (.getfield 24, 3) := by decide +kernel
theorem dX6_read_4 : decode cX6_read 4 = .ok (.aload_n 0, 1) := by decide +kernel
theorem dX6_read_5 : decode cX6_read 5 = .ok (.getfield 9, 3) := by decide +kernel
theorem dX6_read_8 : decode cX6_read 8 = .ok (.aload_n 0, 1) := by decide +kernel
theorem dX6_read_9 : decode cX6_read 9 = .ok (.getfield 13, 3) := by decide +kernel
theorem dX6_read_12 : decode cX6_read 12 = .ok (.invokevirtual 57, 3) := by decide +kernel
theorem dX6_read_15 : decode cX6_read 15 = .ok (.istore_n 1, 1) := by decide +kernel
theorem dX6_read_16 : decode cX6_read 16 = .ok (.aload_n 0, 1) := by decide +kernel
theorem dX6_read_17 : decode cX6_read 17 = .ok (.iconst 0, 1) := by decide +kernel
theorem dX6_read_18 : decode cX6_read 18 = .ok (.putfield 13, 3) := by decide +kernel
theorem dX6_read_21 : decode cX6_read 21 = .ok (.iload_n 1, 1) := by decide +kernel
theorem dX6_read_22 : decode cX6_read 22 = .ok (.ifCond .lt 8, 3) := by decide +kernel
theorem dX6_read_25 : decode cX6_read 25 = .ok (.bipush (-10), 2) := by decide +kernel
theorem dX6_read_27 : decode cX6_read 27 = .ok (.iload_n 1, 1) := by decide +kernel
theorem dX6_read_28 : decode cX6_read 28 = .ok (.isub, 1) := by decide +kernel
theorem dX6_read_29 : decode cX6_read 29 = .ok (.ireturn, 1) := by decide +kernel
theorem dX6_read_30 : decode cX6_read 30 = .ok (.aload_n 0, 1) := by decide +kernel
theorem dX6_read_31 : decode cX6_read 31 = .ok (.getfield 20, 3) := by decide +kernel
theorem dX6_read_34 : decode cX6_read 34 = .ok (.astore_n 2, 1) := by decide +kernel
theorem dX6_read_35 : decode cX6_read 35 = .ok (.aload_n 0, 1) := by decide +kernel
theorem dX6_read_36 : decode cX6_read 36 = .ok (.aload_n 0, 1) := by decide +kernel
theorem dX6_read_37 : decode cX6_read 37 = .ok (.getfield 24, 3) := by decide +kernel
theorem dX6_read_40 : decode cX6_read 40 = .ok (.putfield 20, 3) := by decide +kernel
theorem dX6_read_43 : decode cX6_read 43 = .ok (.aload_n 0, 1) := by decide +kernel
theorem dX6_read_44 : decode cX6_read 44 = .ok (.aload_n 2, 1) := by decide +kernel
theorem dX6_read_45 : decode cX6_read 45 = .ok (.putfield 24, 3) := by decide +kernel
theorem dX6_read_48 : decode cX6_read 48 = .ok (.aload_n 0, 1) := by decide +kernel
theorem dX6_read_49 : decode cX6_read 49 = .ok (.getfield 30, 3) := by decide +kernel
theorem dX6_read_52 : decode cX6_read 52 = .ok (.aload_n 0, 1) := by decide +kernel
theorem dX6_read_53 : decode cX6_read 53 = .ok (.getfield 20, 3) := by decide +kernel
theorem dX6_read_56 : decode cX6_read 56 = .ok (.invokevirtual 61, 3) := by decide +kernel
theorem dX6_read_59 : decode cX6_read 59 = .ok (.aload_n 0, 1) := by decide +kernel
theorem dX6_read_60 : decode cX6_read 60 = .ok (.getfield 39, 3) := by decide +kernel
theorem dX6_read_63 : decode cX6_read 63 = .ok (.invokevirtual 65, 3) := by decide +kernel
theorem dX6_read_66 : decode cX6_read 66 = .ok (.aload_n 0, 1) := by decide +kernel
theorem dX6_read_67 : decode cX6_read 67 = .ok (.getfield 46, 3) := by decide +kernel
theorem dX6_read_70 : decode cX6_read 70 = .ok (.invokevirtual 68, 3) := by decide +kernel
theorem dX6_read_73 : decode cX6_read 73 = .ok (.aload_n 0, 1) := by decide +kernel
theorem dX6_read_74 : decode cX6_read 74 = .ok (.getfield 53, 3) := by decide +kernel
theorem dX6_read_77 : decode cX6_read 77 = .ok (.invokevirtual 69, 3) := by decide +kernel
theorem dX6_read_80 : decode cX6_read 80 = .ok (.aload_n 0, 1) := by decide +kernel
theorem dX6_read_81 : decode cX6_read 81 = .ok (.getfield 20, 3) := by decide +kernel
theorem dX6_read_84 : decode cX6_read 84 = .ok (.getfield 70, 3) := by decide +kernel
theorem dX6_read_87 : decode cX6_read 87 = .ok (.ireturn, 1) := by decide +kernel
theorem dX6_count_0 : decode cX6_count 0 = .ok (.iload_n 1, 1) := by decide +kernel
theorem dX6_count_1 : decode cX6_count 1 = .ok (.tableswitch 108 0 7 #[47, 55, 63, 71, 79, 87, 95, 100], 47) := by decide +kernel
theorem dX6_count_48 : decode cX6_count 48 = .ok (.aload_n 0, 1) := by decide +kernel
theorem dX6_count_49 : decode cX6_count 49 = .ok (.getfield 20, 3) := by decide +kernel
theorem dX6_count_52 : decode cX6_count 52 = .ok (.getfield 73, 3) := by decide +kernel
theorem dX6_count_55 : decode cX6_count 55 = .ok (.ireturn, 1) := by decide +kernel
theorem dX6_count_56 : decode cX6_count 56 = .ok (.aload_n 0, 1) := by decide +kernel
theorem dX6_count_57 : decode cX6_count 57 = .ok (.getfield 20, 3) := by decide +kernel
theorem dX6_count_60 : decode cX6_count 60 = .ok (.getfield 76, 3) := by decide +kernel
theorem dX6_count_63 : decode cX6_count 63 = .ok (.ireturn, 1) := by decide +kernel
theorem dX6_count_64 : decode cX6_count 64 = .ok (.aload_n 0, 1) := by decide +kernel
theorem dX6_count_65 : decode cX6_count 65 = .ok (.getfield 30, 3) := by decide +kernel
theorem dX6_count_68 : decode cX6_count 68 = .ok (.getfield 79, 3) := by decide +kernel
theorem dX6_count_71 : decode cX6_count 71 = .ok (.ireturn, 1) := by decide +kernel
theorem dX6_count_72 : decode cX6_count 72 = .ok (.aload_n 0, 1) := by decide +kernel
theorem dX6_count_73 : decode cX6_count 73 = .ok (.getfield 30, 3) := by decide +kernel
theorem dX6_count_76 : decode cX6_count 76 = .ok (.getfield 82, 3) := by decide +kernel
theorem dX6_count_79 : decode cX6_count 79 = .ok (.ireturn, 1) := by decide +kernel
theorem dX6_count_80 : decode cX6_count 80 = .ok (.aload_n 0, 1) := by decide +kernel
theorem dX6_count_81 : decode cX6_count 81 = .ok (.getfield 46, 3) := by decide +kernel
theorem dX6_count_84 : decode cX6_count 84 = .ok (.getfield 85, 3) := by decide +kernel
theorem dX6_count_87 : decode cX6_count 87 = .ok (.ireturn, 1) := by decide +kernel
theorem dX6_count_88 : decode cX6_count 88 = .ok (.aload_n 0, 1) := by decide +kernel
theorem dX6_count_89 : decode cX6_count 89 = .ok (.getfield 39, 3) := by decide +kernel
theorem dX6_count_92 : decode cX6_count 92 = .ok (.getfield 88, 3) := by decide +kernel
theorem dX6_count_95 : decode cX6_count 95 = .ok (.ireturn, 1) := by decide +kernel
theorem dX6_count_96 : decode cX6_count 96 = .ok (.aload_n 0, 1) := by decide +kernel
theorem dX6_count_97 : decode cX6_count 97 = .ok (.getfield 13, 3) := by decide +kernel
theorem dX6_count_100 : decode cX6_count 100 = .ok (.ireturn, 1) := by decide +kernel
theorem dX6_count_101 : decode cX6_count 101 = .ok (.aload_n 0, 1) := by decide +kernel
theorem dX6_count_102 : decode cX6_count 102 = .ok (.getfield 46, 3) := by decide +kernel
theorem dX6_count_105 : decode cX6_count 105 = .ok (.getfield 91, 3) := by decide +kernel
theorem dX6_count_108 : decode cX6_count 108 = .ok (.ireturn, 1) := by decide +kernel
theorem dX6_count_109 : decode cX6_count 109 = .ok (.bipush (-9), 2) := by decide +kernel
theorem dX6_count_111 : decode cX6_count 111 = .ok (.ireturn, 1) := by decide +kernel
set_option maxRecDepth 20000 in
theorem ggX6_line_X4_hasLine : GoodIn wsX6_line wsX4_hasLine := goodIn_r _ [9, 10, 19, 20, 21, 22, 23, 24, 25, 26] (by decide +kernel) (by decide +kernel)
set_option maxRecDepth 20000 in
theorem gX6_line_X4_hasLine : GoodIn wsX6_line (wsV RX6 94 RX4 yX4_hasLine wsX4_hasLine) := goodIn_app (goodIn_of _ (by decide +kernel)) ggX6_line_X4_hasLine
theorem dX6_line_0 : decode cX6_line 0 = .ok (.aload_n 0, 1) := by decide +kernel
theorem dX6_line_1 : decode cX6_line 1 = .ok (.getfield 20, 3) := by decide +kernel
theorem dX6_line_4 : decode cX6_line 4 = .ok (.iload_n 1, 1) := by decide +kernel
theorem dX6_line_5 : decode cX6_line 5 = .ok (.invokevirtual 94, 3) := by decide +kernel
theorem dX6_line_8 : decode cX6_line 8 = .ok (.ifCond .eq 7, 3) := by decide +kernel
theorem dX6_line_11 : decode cX6_line 11 = .ok (.iload_n 2, 1) := by decide +kernel
theorem dX6_line_12 : decode cX6_line 12 = .ok (.ifCond .ge 6, 3) := by decide +kernel
theorem dX6_line_15 : decode cX6_line 15 = .ok (.bipush (-9), 2) := by decide +kernel
theorem dX6_line_17 : decode cX6_line 17 = .ok (.ireturn, 1) := by decide +kernel
theorem dX6_line_18 : decode cX6_line 18 = .ok (.iload_n 2, 1) := by decide +kernel
theorem dX6_line_19 : decode cX6_line 19 = .ok (.aload_n 0, 1) := by decide +kernel
theorem dX6_line_20 : decode cX6_line 20 = .ok (.getfield 20, 3) := by decide +kernel
theorem dX6_line_23 : decode cX6_line 23 = .ok (.getfield 98, 3) := by decide +kernel
theorem dX6_line_26 : decode cX6_line 26 = .ok (.iload_n 1, 1) := by decide +kernel
theorem dX6_line_27 : decode cX6_line 27 = .ok (.iaload, 1) := by decide +kernel
theorem dX6_line_28 : decode cX6_line 28 = .ok (.if_icmp .lt 6, 3) := by decide +kernel
theorem dX6_line_31 : decode cX6_line 31 = .ok (.bipush (-4), 2) := by decide +kernel
theorem dX6_line_33 : decode cX6_line 33 = .ok (.ireturn, 1) := by decide +kernel
theorem dX6_line_34 : decode cX6_line 34 = .ok (.aload_n 0, 1) := by decide +kernel
theorem dX6_line_35 : decode cX6_line 35 = .ok (.getfield 20, 3) := by decide +kernel
theorem dX6_line_38 : decode cX6_line 38 = .ok (.getfield 101, 3) := by decide +kernel
theorem dX6_line_41 : decode cX6_line 41 = .ok (.iload_n 1, 1) := by decide +kernel
theorem dX6_line_42 : decode cX6_line 42 = .ok (.aaload, 1) := by decide +kernel
theorem dX6_line_43 : decode cX6_line 43 = .ok (.iload_n 2, 1) := by decide +kernel
theorem dX6_line_44 : decode cX6_line 44 = .ok (.iaload, 1) := by decide +kernel
theorem dX6_line_45 : decode cX6_line 45 = .ok (.istore 4, 2) := by decide +kernel
theorem dX6_line_47 : decode cX6_line 47 = .ok (.iload_n 3, 1) := by decide +kernel
theorem dX6_line_48 : decode cX6_line 48 = .ok (.ifCond .eq 16, 3) := by decide +kernel
theorem dX6_line_51 : decode cX6_line 51 = .ok (.aload_n 0, 1) := by decide +kernel
theorem dX6_line_52 : decode cX6_line 52 = .ok (.getfield 20, 3) := by decide +kernel
theorem dX6_line_55 : decode cX6_line 55 = .ok (.getfield 105, 3) := by decide +kernel
theorem dX6_line_58 : decode cX6_line 58 = .ok (.iload 4, 2) := by decide +kernel
theorem dX6_line_60 : decode cX6_line 60 = .ok (.iaload, 1) := by decide +kernel
theorem dX6_line_61 : decode cX6_line 61 = .ok (.goto 5, 3) := by decide +kernel
theorem dX6_line_64 : decode cX6_line 64 = .ok (.iload 4, 2) := by decide +kernel
theorem dX6_line_66 : decode cX6_line 66 = .ok (.ireturn, 1) := by decide +kernel
set_option maxRecDepth 20000 in
theorem ggX6_bar_X4_isTriple : GoodIn wsX6_bar wsX4_isTriple := goodIn_r _ [8, 9, 10, 11, 7, 12, 13, 44, 45, 46, 47, 48, 49, 50, 51] (by decide +kernel) (by decide +kernel)
set_option maxRecDepth 20000 in
theorem gX6_bar_X4_isTriple : GoodIn wsX6_bar (wsV RX6 108 RX4 yX4_isTriple wsX4_isTriple) := goodIn_app (goodIn_of _ (by decide +kernel)) ggX6_bar_X4_isTriple
set_option maxRecDepth 20000 in
theorem ggX6_bar_X5_spotOf : GoodIn wsX6_bar wsX5_spotOf := goodIn_r _ [17, 18, 19, 20, 21, 22, 23, 24] (by decide +kernel) (by decide +kernel)
set_option maxRecDepth 20000 in
theorem gX6_bar_X5_spotOf : GoodIn wsX6_bar (va_wsS RX6 112 yX5_spotOf wsX5_spotOf) := goodIn_app (goodIn_of _ (by decide +kernel)) ggX6_bar_X5_spotOf
set_option maxRecDepth 20000 in
theorem ggX6_bar_X5_addBarred : GoodIn wsX6_bar wsX5_addBarred := goodIn_r _ [28, 29, 30, 39, 40, 41, 42, 43] (by decide +kernel) (by decide +kernel)
set_option maxRecDepth 20000 in
theorem gX6_bar_X5_addBarred : GoodIn wsX6_bar (wsV RX6 120 RX5 yX5_addBarred wsX5_addBarred) := goodIn_app (goodIn_of _ (by decide +kernel)) ggX6_bar_X5_addBarred
theorem dX6_bar_0 : decode cX6_bar 0 = .ok (.aload_n 0, 1) := by decide +kernel
theorem dX6_bar_1 : decode cX6_bar 1 = .ok (.getfield 20, 3) := by decide +kernel
theorem dX6_bar_4 : decode cX6_bar 4 = .ok (.iload_n 1, 1) := by decide +kernel
theorem dX6_bar_5 : decode cX6_bar 5 = .ok (.iload_n 2, 1) := by decide +kernel
theorem dX6_bar_6 : decode cX6_bar 6 = .ok (.iload_n 3, 1) := by decide +kernel
theorem dX6_bar_7 : decode cX6_bar 7 = .ok (.invokevirtual 108, 3) := by decide +kernel
theorem dX6_bar_10 : decode cX6_bar 10 = .ok (.ifCond .ne 6, 3) := by decide +kernel
theorem dX6_bar_13 : decode cX6_bar 13 = .ok (.bipush (-9), 2) := by decide +kernel
theorem dX6_bar_15 : decode cX6_bar 15 = .ok (.ireturn, 1) := by decide +kernel
theorem dX6_bar_16 : decode cX6_bar 16 = .ok (.iload_n 1, 1) := by decide +kernel
theorem dX6_bar_17 : decode cX6_bar 17 = .ok (.iload_n 2, 1) := by decide +kernel
theorem dX6_bar_18 : decode cX6_bar 18 = .ok (.iload_n 3, 1) := by decide +kernel
theorem dX6_bar_19 : decode cX6_bar 19 = .ok (.invokestatic 112, 3) := by decide +kernel
theorem dX6_bar_22 : decode cX6_bar 22 = .ok (.istore 4, 2) := by decide +kernel
theorem dX6_bar_24 : decode cX6_bar 24 = .ok (.aload_n 0, 1) := by decide +kernel
theorem dX6_bar_25 : decode cX6_bar 25 = .ok (.getfield 30, 3) := by decide +kernel
theorem dX6_bar_28 : decode cX6_bar 28 = .ok (.getfield 116, 3) := by decide +kernel
theorem dX6_bar_31 : decode cX6_bar 31 = .ok (.iload 4, 2) := by decide +kernel
theorem dX6_bar_33 : decode cX6_bar 33 = .ok (.baload, 1) := by decide +kernel
theorem dX6_bar_34 : decode cX6_bar 34 = .ok (.ifCond .eq 6, 3) := by decide +kernel
theorem dX6_bar_37 : decode cX6_bar 37 = .ok (.bipush (-2), 2) := by decide +kernel
theorem dX6_bar_39 : decode cX6_bar 39 = .ok (.ireturn, 1) := by decide +kernel
theorem dX6_bar_40 : decode cX6_bar 40 = .ok (.aload_n 0, 1) := by decide +kernel
theorem dX6_bar_41 : decode cX6_bar 41 = .ok (.getfield 30, 3) := by decide +kernel
theorem dX6_bar_44 : decode cX6_bar 44 = .ok (.iload 4, 2) := by decide +kernel
theorem dX6_bar_46 : decode cX6_bar 46 = .ok (.invokevirtual 120, 3) := by decide +kernel
theorem dX6_bar_49 : decode cX6_bar 49 = .ok (.ireturn, 1) := by decide +kernel
set_option maxRecDepth 20000 in
theorem ggX6_orient_X4_isTriple : GoodIn wsX6_orient wsX4_isTriple := goodIn_r _ [9, 10, 11, 12, 8, 13, 14, 48, 49, 50, 51, 52, 53, 54, 55] (by decide +kernel) (by decide +kernel)
set_option maxRecDepth 20000 in
theorem gX6_orient_X4_isTriple : GoodIn wsX6_orient (wsV RX6 108 RX4 yX4_isTriple wsX4_isTriple) := goodIn_app (goodIn_of _ (by decide +kernel)) ggX6_orient_X4_isTriple
set_option maxRecDepth 20000 in
theorem ggX6_orient_X5_spotOf : GoodIn wsX6_orient wsX5_spotOf := goodIn_r _ [18, 19, 20, 21, 22, 23, 24, 25] (by decide +kernel) (by decide +kernel)
set_option maxRecDepth 20000 in
theorem gX6_orient_X5_spotOf : GoodIn wsX6_orient (va_wsS RX6 112 yX5_spotOf wsX5_spotOf) := goodIn_app (goodIn_of _ (by decide +kernel)) ggX6_orient_X5_spotOf
set_option maxRecDepth 20000 in
theorem ggX6_orient_X5_turnOf : GoodIn wsX6_orient wsX5_turnOf := goodIn_r _ [28] (by decide +kernel) (by decide +kernel)
set_option maxRecDepth 20000 in
theorem gX6_orient_X5_turnOf : GoodIn wsX6_orient (va_wsS RX6 124 yX5_turnOf wsX5_turnOf) := goodIn_app (goodIn_of _ (by decide +kernel)) ggX6_orient_X5_turnOf
set_option maxRecDepth 20000 in
theorem ggX6_orient_X5_addOriented : GoodIn wsX6_orient wsX5_addOriented := goodIn_r _ [32, 33, 34, 43, 44, 45, 46, 47] (by decide +kernel) (by decide +kernel)
set_option maxRecDepth 20000 in
theorem gX6_orient_X5_addOriented : GoodIn wsX6_orient (wsV RX6 130 RX5 yX5_addOriented wsX5_addOriented) := goodIn_app (goodIn_of _ (by decide +kernel)) ggX6_orient_X5_addOriented
theorem dX6_orient_0 : decode cX6_orient 0 = .ok (.aload_n 0, 1) := by decide +kernel
theorem dX6_orient_1 : decode cX6_orient 1 = .ok (.getfield 20, 3) := by decide +kernel
theorem dX6_orient_4 : decode cX6_orient 4 = .ok (.iload_n 1, 1) := by decide +kernel
theorem dX6_orient_5 : decode cX6_orient 5 = .ok (.iload_n 2, 1) := by decide +kernel
theorem dX6_orient_6 : decode cX6_orient 6 = .ok (.iload_n 3, 1) := by decide +kernel
theorem dX6_orient_7 : decode cX6_orient 7 = .ok (.invokevirtual 108, 3) := by decide +kernel
theorem dX6_orient_10 : decode cX6_orient 10 = .ok (.ifCond .eq 15, 3) := by decide +kernel
theorem dX6_orient_13 : decode cX6_orient 13 = .ok (.iload 4, 2) := by decide +kernel
theorem dX6_orient_15 : decode cX6_orient 15 = .ok (.iconst 1, 1) := by decide +kernel
theorem dX6_orient_16 : decode cX6_orient 16 = .ok (.if_icmp .eq 12, 3) := by decide +kernel
theorem dX6_orient_19 : decode cX6_orient 19 = .ok (.iload 4, 2) := by decide +kernel
theorem dX6_orient_21 : decode cX6_orient 21 = .ok (.iconst (-1), 1) := by decide +kernel
theorem dX6_orient_22 : decode cX6_orient 22 = .ok (.if_icmp .eq 6, 3) := by decide +kernel
theorem dX6_orient_25 : decode cX6_orient 25 = .ok (.bipush (-9), 2) := by decide +kernel
theorem dX6_orient_27 : decode cX6_orient 27 = .ok (.ireturn, 1) := by decide +kernel
theorem dX6_orient_28 : decode cX6_orient 28 = .ok (.iload_n 1, 1) := by decide +kernel
theorem dX6_orient_29 : decode cX6_orient 29 = .ok (.iload_n 2, 1) := by decide +kernel
theorem dX6_orient_30 : decode cX6_orient 30 = .ok (.iload_n 3, 1) := by decide +kernel
theorem dX6_orient_31 : decode cX6_orient 31 = .ok (.invokestatic 112, 3) := by decide +kernel
theorem dX6_orient_34 : decode cX6_orient 34 = .ok (.istore 5, 2) := by decide +kernel
theorem dX6_orient_36 : decode cX6_orient 36 = .ok (.iload 4, 2) := by decide +kernel
theorem dX6_orient_38 : decode cX6_orient 38 = .ok (.iload_n 1, 1) := by decide +kernel
theorem dX6_orient_39 : decode cX6_orient 39 = .ok (.iload_n 2, 1) := by decide +kernel
theorem dX6_orient_40 : decode cX6_orient 40 = .ok (.iload_n 3, 1) := by decide +kernel
theorem dX6_orient_41 : decode cX6_orient 41 = .ok (.invokestatic 124, 3) := by decide +kernel
theorem dX6_orient_44 : decode cX6_orient 44 = .ok (.imul, 1) := by decide +kernel
theorem dX6_orient_45 : decode cX6_orient 45 = .ok (.istore 6, 2) := by decide +kernel
theorem dX6_orient_47 : decode cX6_orient 47 = .ok (.aload_n 0, 1) := by decide +kernel
theorem dX6_orient_48 : decode cX6_orient 48 = .ok (.getfield 30, 3) := by decide +kernel
theorem dX6_orient_51 : decode cX6_orient 51 = .ok (.getfield 116, 3) := by decide +kernel
theorem dX6_orient_54 : decode cX6_orient 54 = .ok (.iload 5, 2) := by decide +kernel
theorem dX6_orient_56 : decode cX6_orient 56 = .ok (.baload, 1) := by decide +kernel
theorem dX6_orient_57 : decode cX6_orient 57 = .ok (.ifCond .ne 19, 3) := by decide +kernel
theorem dX6_orient_60 : decode cX6_orient 60 = .ok (.aload_n 0, 1) := by decide +kernel
theorem dX6_orient_61 : decode cX6_orient 61 = .ok (.getfield 30, 3) := by decide +kernel
theorem dX6_orient_64 : decode cX6_orient 64 = .ok (.getfield 127, 3) := by decide +kernel
theorem dX6_orient_67 : decode cX6_orient 67 = .ok (.iload 5, 2) := by decide +kernel
theorem dX6_orient_69 : decode cX6_orient 69 = .ok (.iaload, 1) := by decide +kernel
theorem dX6_orient_70 : decode cX6_orient 70 = .ok (.iload 6, 2) := by decide +kernel
theorem dX6_orient_72 : decode cX6_orient 72 = .ok (.ineg, 1) := by decide +kernel
theorem dX6_orient_73 : decode cX6_orient 73 = .ok (.if_icmp .ne 6, 3) := by decide +kernel
theorem dX6_orient_76 : decode cX6_orient 76 = .ok (.bipush (-2), 2) := by decide +kernel
theorem dX6_orient_78 : decode cX6_orient 78 = .ok (.ireturn, 1) := by decide +kernel
theorem dX6_orient_79 : decode cX6_orient 79 = .ok (.aload_n 0, 1) := by decide +kernel
theorem dX6_orient_80 : decode cX6_orient 80 = .ok (.getfield 30, 3) := by decide +kernel
theorem dX6_orient_83 : decode cX6_orient 83 = .ok (.iload 5, 2) := by decide +kernel
theorem dX6_orient_85 : decode cX6_orient 85 = .ok (.iload 6, 2) := by decide +kernel
theorem dX6_orient_87 : decode cX6_orient 87 = .ok (.invokevirtual 130, 3) := by decide +kernel
theorem dX6_orient_90 : decode cX6_orient 90 = .ok (.ireturn, 1) := by decide +kernel
set_option maxRecDepth 20000 in
theorem ggX6_realise_X6_isPrime : GoodIn wsX6_realise wsX6_isPrime := goodIn_r _ [8, 9] (by decide +kernel) (by decide +kernel)
set_option maxRecDepth 20000 in
theorem gX6_realise_X6_isPrime : GoodIn wsX6_realise (va_wsS RX6 134 yX6_isPrime wsX6_isPrime) := goodIn_app (goodIn_of _ (by decide +kernel)) ggX6_realise_X6_isPrime
set_option maxRecDepth 20000 in
theorem ggX6_realise_X3_seek : GoodIn wsX6_realise wsX3_seek := goodIn_r _ [14, 15, 16, 17, 18, 19, 20, 21, 22, 23, 24, 25, 26, 27, 28, 29, 30, 31, 32, 33, 34, 13, 35, 36, 37, 38, 39, 40, 41, 42, 43, 44, 45, 46, 47, 48, 49, 50, 51, 52, 53, 54, 55, 56, 57, 58, 59, 60, 61, 62, 63, 64, 65, 66, 67, 68, 69, 70, 71, 72, 73, 74, 75, 76, 77, 78, 79, 80, 81, 82, 83, 84, 85, 86, 87, 88, 89, 90, 91, 92, 93, 94, 95, 96, 97, 98, 99, 100, 101, 102, 103, 104, 105, 106, 107, 108, 109, 110, 111, 128, 129, 130, 131, 132, 133, 134, 135, 136, 137, 138, 139, 140, 141, 142, 143, 144, 145, 146, 147, 148, 149] (by decide +kernel) (by decide +kernel)
set_option maxRecDepth 20000 in
theorem gX6_realise_X3_seek : GoodIn wsX6_realise (wsV RX6 137 RX3 yX3_seek wsX3_seek) := goodIn_app (goodIn_of _ (by decide +kernel)) ggX6_realise_X3_seek
theorem dX6_realise_0 : decode cX6_realise 0 = .ok (.iload_n 1, 1) := by decide +kernel
theorem dX6_realise_1 : decode cX6_realise 1 = .ok (.ifCond .eq 10, 3) := by decide +kernel
theorem dX6_realise_4 : decode cX6_realise 4 = .ok (.iload_n 1, 1) := by decide +kernel
theorem dX6_realise_5 : decode cX6_realise 5 = .ok (.invokestatic 134, 3) := by decide +kernel
theorem dX6_realise_8 : decode cX6_realise 8 = .ok (.ifCond .eq 15, 3) := by decide +kernel
theorem dX6_realise_11 : decode cX6_realise 11 = .ok (.iload_n 2, 1) := by decide +kernel
theorem dX6_realise_12 : decode cX6_realise 12 = .ok (.iconst 1, 1) := by decide +kernel
theorem dX6_realise_13 : decode cX6_realise 13 = .ok (.if_icmp .lt 10, 3) := by decide +kernel
theorem dX6_realise_16 : decode cX6_realise 16 = .ok (.iload_n 2, 1) := by decide +kernel
theorem dX6_realise_17 : decode cX6_realise 17 = .ok (.sipush 20000, 3) := by decide +kernel
theorem dX6_realise_20 : decode cX6_realise 20 = .ok (.if_icmp .le 6, 3) := by decide +kernel
theorem dX6_realise_23 : decode cX6_realise 23 = .ok (.bipush (-9), 2) := by decide +kernel
theorem dX6_realise_25 : decode cX6_realise 25 = .ok (.ireturn, 1) := by decide +kernel
theorem dX6_realise_26 : decode cX6_realise 26 = .ok (.aload_n 0, 1) := by decide +kernel
theorem dX6_realise_27 : decode cX6_realise 27 = .ok (.getfield 20, 3) := by decide +kernel
theorem dX6_realise_30 : decode cX6_realise 30 = .ok (.getfield 76, 3) := by decide +kernel
theorem dX6_realise_33 : decode cX6_realise 33 = .ok (.ifCond .ne 6, 3) := by decide +kernel
theorem dX6_realise_36 : decode cX6_realise 36 = .ok (.bipush (-2), 2) := by decide +kernel
theorem dX6_realise_38 : decode cX6_realise 38 = .ok (.ireturn, 1) := by decide +kernel
theorem dX6_realise_39 : decode cX6_realise 39 = .ok (.aload_n 0, 1) := by decide +kernel
theorem dX6_realise_40 : decode cX6_realise 40 = .ok (.getfield 39, 3) := by decide +kernel
theorem dX6_realise_43 : decode cX6_realise 43 = .ok (.aload_n 0, 1) := by decide +kernel
theorem dX6_realise_44 : decode cX6_realise 44 = .ok (.getfield 20, 3) := by decide +kernel
theorem dX6_realise_47 : decode cX6_realise 47 = .ok (.getfield 73, 3) := by decide +kernel
theorem dX6_realise_50 : decode cX6_realise 50 = .ok (.iload_n 1, 1) := by decide +kernel
theorem dX6_realise_51 : decode cX6_realise 51 = .ok (.iload_n 2, 1) := by decide +kernel
theorem dX6_realise_52 : decode cX6_realise 52 = .ok (.invokevirtual 137, 3) := by decide +kernel
theorem dX6_realise_55 : decode cX6_realise 55 = .ok (.ireturn, 1) := by decide +kernel
set_option maxRecDepth 20000 in
theorem ggX6_coordinate_X4_hasPoint : GoodIn wsX6_coordinate wsX4_hasPoint := goodIn_r _ [8, 9, 40, 41, 42, 43, 44, 45, 46, 47] (by decide +kernel) (by decide +kernel)
set_option maxRecDepth 20000 in
theorem gX6_coordinate_X4_hasPoint : GoodIn wsX6_coordinate (wsV RX6 140 RX4 yX4_hasPoint wsX4_hasPoint) := goodIn_app (goodIn_of _ (by decide +kernel)) ggX6_coordinate_X4_hasPoint
set_option maxRecDepth 20000 in
theorem ggX6_coordinate_X3_numberOf : GoodIn wsX6_coordinate wsX3_numberOf := goodIn_r _ [14, 15, 16, 17, 26, 27, 28, 29, 30, 31, 32, 33, 34, 35, 36, 37, 38, 39, 48, 49, 50] (by decide +kernel) (by decide +kernel)
set_option maxRecDepth 20000 in
theorem gX6_coordinate_X3_numberOf : GoodIn wsX6_coordinate (wsV RX6 147 RX3 yX3_numberOf wsX3_numberOf) := goodIn_app (goodIn_of _ (by decide +kernel)) ggX6_coordinate_X3_numberOf
theorem dX6_coordinate_0 : decode cX6_coordinate 0 = .ok (.aload_n 0, 1) := by decide +kernel
theorem dX6_coordinate_1 : decode cX6_coordinate 1 = .ok (.getfield 20, 3) := by decide +kernel
theorem dX6_coordinate_4 : decode cX6_coordinate 4 = .ok (.iload_n 1, 1) := by decide +kernel
theorem dX6_coordinate_5 : decode cX6_coordinate 5 = .ok (.invokevirtual 140, 3) := by decide +kernel
theorem dX6_coordinate_8 : decode cX6_coordinate 8 = .ok (.ifCond .eq 12, 3) := by decide +kernel
theorem dX6_coordinate_11 : decode cX6_coordinate 11 = .ok (.iload_n 2, 1) := by decide +kernel
theorem dX6_coordinate_12 : decode cX6_coordinate 12 = .ok (.ifCond .lt 8, 3) := by decide +kernel
theorem dX6_coordinate_15 : decode cX6_coordinate 15 = .ok (.iload_n 2, 1) := by decide +kernel
theorem dX6_coordinate_16 : decode cX6_coordinate 16 = .ok (.iconst 3, 1) := by decide +kernel
theorem dX6_coordinate_17 : decode cX6_coordinate 17 = .ok (.if_icmp .le 6, 3) := by decide +kernel
theorem dX6_coordinate_20 : decode cX6_coordinate 20 = .ok (.bipush (-9), 2) := by decide +kernel
theorem dX6_coordinate_22 : decode cX6_coordinate 22 = .ok (.ireturn, 1) := by decide +kernel
theorem dX6_coordinate_23 : decode cX6_coordinate 23 = .ok (.aload_n 0, 1) := by decide +kernel
theorem dX6_coordinate_24 : decode cX6_coordinate 24 = .ok (.getfield 39, 3) := by decide +kernel
theorem dX6_coordinate_27 : decode cX6_coordinate 27 = .ok (.getfield 143, 3) := by decide +kernel
theorem dX6_coordinate_30 : decode cX6_coordinate 30 = .ok (.ifCond .ne 6, 3) := by decide +kernel
theorem dX6_coordinate_33 : decode cX6_coordinate 33 = .ok (.bipush (-2), 2) := by decide +kernel
theorem dX6_coordinate_35 : decode cX6_coordinate 35 = .ok (.ireturn, 1) := by decide +kernel
theorem dX6_coordinate_36 : decode cX6_coordinate 36 = .ok (.aload_n 0, 1) := by decide +kernel
theorem dX6_coordinate_37 : decode cX6_coordinate 37 = .ok (.getfield 39, 3) := by decide +kernel
theorem dX6_coordinate_40 : decode cX6_coordinate 40 = .ok (.iload_n 1, 1) := by decide +kernel
theorem dX6_coordinate_41 : decode cX6_coordinate 41 = .ok (.iload_n 2, 1) := by decide +kernel
theorem dX6_coordinate_42 : decode cX6_coordinate 42 = .ok (.invokevirtual 147, 3) := by decide +kernel
theorem dX6_coordinate_45 : decode cX6_coordinate 45 = .ok (.ireturn, 1) := by decide +kernel
set_option maxRecDepth 20000 in
theorem ggX6_check_X3_stillHolds : GoodIn wsX6_check wsX3_stillHolds := goodIn_r _ [9, 10, 11, 12, 8, 13, 14, 15, 16, 17, 18, 19, 20, 21, 22, 23, 24, 25, 26, 27, 28, 29, 30, 31, 32, 33, 34, 35, 36, 37, 38, 39, 40, 41, 42, 43, 44, 45, 46, 47, 48, 49, 50, 51, 52, 53, 54, 55, 56, 57, 58, 59, 60, 61, 62, 63, 64, 65, 66, 67, 68, 69, 70, 71, 72, 73, 74, 75, 76, 77, 78, 79, 80, 81, 82, 83, 84, 85, 94, 95, 96, 97, 98, 99, 100, 101, 102, 103, 104, 105, 106, 107, 116, 117, 118, 119, 120, 121, 122, 123] (by decide +kernel) (by decide +kernel)
set_option maxRecDepth 20000 in
theorem gX6_check_X3_stillHolds : GoodIn wsX6_check (wsV RX6 150 RX3 yX3_stillHolds wsX3_stillHolds) := goodIn_app (goodIn_of _ (by decide +kernel)) ggX6_check_X3_stillHolds
theorem dX6_check_0 : decode cX6_check 0 = .ok (.aload_n 0, 1) := by decide +kernel
theorem dX6_check_1 : decode cX6_check 1 = .ok (.getfield 39, 3) := by decide +kernel
theorem dX6_check_4 : decode cX6_check 4 = .ok (.getfield 143, 3) := by decide +kernel
theorem dX6_check_7 : decode cX6_check 7 = .ok (.ifCond .ne 6, 3) := by decide +kernel
theorem dX6_check_10 : decode cX6_check 10 = .ok (.bipush (-2), 2) := by decide +kernel
theorem dX6_check_12 : decode cX6_check 12 = .ok (.ireturn, 1) := by decide +kernel
theorem dX6_check_13 : decode cX6_check 13 = .ok (.aload_n 0, 1) := by decide +kernel
theorem dX6_check_14 : decode cX6_check 14 = .ok (.getfield 39, 3) := by decide +kernel
theorem dX6_check_17 : decode cX6_check 17 = .ok (.aload_n 0, 1) := by decide +kernel
theorem dX6_check_18 : decode cX6_check 18 = .ok (.getfield 20, 3) := by decide +kernel
theorem dX6_check_21 : decode cX6_check 21 = .ok (.getfield 73, 3) := by decide +kernel
theorem dX6_check_24 : decode cX6_check 24 = .ok (.invokevirtual 150, 3) := by decide +kernel
theorem dX6_check_27 : decode cX6_check 27 = .ok (.ifCond .eq 7, 3) := by decide +kernel
theorem dX6_check_30 : decode cX6_check 30 = .ok (.iconst 1, 1) := by decide +kernel
theorem dX6_check_31 : decode cX6_check 31 = .ok (.goto 4, 3) := by decide +kernel
theorem dX6_check_34 : decode cX6_check 34 = .ok (.iconst 0, 1) := by decide +kernel
theorem dX6_check_35 : decode cX6_check 35 = .ok (.ireturn, 1) := by decide +kernel
set_option maxRecDepth 20000 in
theorem ggX6_meet_X6_placeOfBoth : GoodIn wsX6_meet wsX6_placeOfBoth := goodIn_r _ [7, 8, 9, 10, 11, 12, 13, 14, 15, 16, 17, 18, 19, 20, 21, 22, 23, 24, 25, 26, 27, 28, 29, 30, 31, 32, 33, 34, 35, 36, 37, 38, 39, 40, 41, 42, 43, 44, 45, 46, 47, 48, 49, 50, 51, 52, 53, 54, 55, 56, 57, 58, 59, 60, 61, 62, 63, 64, 65, 66, 67, 68, 69, 70, 71, 72, 73, 74, 75, 76, 77, 78, 79, 80, 81, 82, 83, 84, 85, 86, 87, 88, 89, 90, 91, 92, 93] (by decide +kernel) (by decide +kernel)
set_option maxRecDepth 20000 in
theorem gX6_meet_X6_placeOfBoth : GoodIn wsX6_meet (wsV RX6 153 RX6 yX6_placeOfBoth wsX6_placeOfBoth) := goodIn_app (goodIn_of _ (by decide +kernel)) ggX6_meet_X6_placeOfBoth
theorem dX6_meet_0 : decode cX6_meet 0 = .ok (.aload_n 0, 1) := by decide +kernel
theorem dX6_meet_1 : decode cX6_meet 1 = .ok (.iload_n 1, 1) := by decide +kernel
theorem dX6_meet_2 : decode cX6_meet 2 = .ok (.iload_n 2, 1) := by decide +kernel
theorem dX6_meet_3 : decode cX6_meet 3 = .ok (.invokevirtual 153, 3) := by decide +kernel
theorem dX6_meet_6 : decode cX6_meet 6 = .ok (.istore_n 3, 1) := by decide +kernel
theorem dX6_meet_7 : decode cX6_meet 7 = .ok (.iload_n 3, 1) := by decide +kernel
theorem dX6_meet_8 : decode cX6_meet 8 = .ok (.bipush (-4), 2) := by decide +kernel
theorem dX6_meet_10 : decode cX6_meet 10 = .ok (.if_icmp .ne 13, 3) := by decide +kernel
theorem dX6_meet_13 : decode cX6_meet 13 = .ok (.new 156, 3) := by decide +kernel
theorem dX6_meet_16 : decode cX6_meet 16 = .ok (.dup, 1) := by decide +kernel
theorem dX6_meet_17 : decode cX6_meet 17 = .ok (.ldc 158, 2) := by decide +kernel
theorem dX6_meet_19 : decode cX6_meet 19 = .ok (.invokespecial 160, 3) := by decide +kernel
theorem dX6_meet_22 : decode cX6_meet 22 = .ok (.athrow, 1) := by decide +kernel
theorem dX6_meet_23 : decode cX6_meet 23 = .ok (.iload_n 3, 1) := by decide +kernel
theorem dX6_meet_24 : decode cX6_meet 24 = .ok (.ireturn, 1) := by decide +kernel
set_option maxRecDepth 20000 in
theorem ggX6_meets_X6_placeOfBoth : GoodIn wsX6_meets wsX6_placeOfBoth := goodIn_r _ [5, 6, 7, 8, 9, 10, 11, 12, 13, 14, 15, 16, 17, 18, 19, 20, 21, 22, 23, 24, 25, 26, 27, 28, 29, 30, 31, 32, 33, 34, 35, 36, 37, 38, 39, 40, 41, 42, 43, 44, 45, 46, 47, 48, 49, 50, 51, 52, 53, 54, 55, 56, 57, 58, 59, 60, 61, 62, 63, 64, 65, 66, 67, 68, 69, 70, 71, 72, 73, 74, 75, 76, 77, 78, 79, 80, 81, 82, 83, 84, 85, 86, 87, 88, 89, 90, 91] (by decide +kernel) (by decide +kernel)
set_option maxRecDepth 20000 in
theorem gX6_meets_X6_placeOfBoth : GoodIn wsX6_meets (wsV RX6 153 RX6 yX6_placeOfBoth wsX6_placeOfBoth) := goodIn_app (goodIn_of _ (by decide +kernel)) ggX6_meets_X6_placeOfBoth
theorem dX6_meets_0 : decode cX6_meets 0 = .ok (.aload_n 0, 1) := by decide +kernel
theorem dX6_meets_1 : decode cX6_meets 1 = .ok (.iload_n 1, 1) := by decide +kernel
theorem dX6_meets_2 : decode cX6_meets 2 = .ok (.iload_n 2, 1) := by decide +kernel
theorem dX6_meets_3 : decode cX6_meets 3 = .ok (.invokevirtual 153, 3) := by decide +kernel
theorem dX6_meets_6 : decode cX6_meets 6 = .ok (.ireturn, 1) := by decide +kernel
set_option maxRecDepth 20000 in
theorem ggX6_pivot_X6_isPrime : GoodIn wsX6_pivot wsX6_isPrime := goodIn_r _ [6, 7] (by decide +kernel) (by decide +kernel)
set_option maxRecDepth 20000 in
theorem gX6_pivot_X6_isPrime : GoodIn wsX6_pivot (va_wsS RX6 134 yX6_isPrime wsX6_isPrime) := goodIn_app (goodIn_of _ (by decide +kernel)) ggX6_pivot_X6_isPrime
set_option maxRecDepth 20000 in
theorem ggX6_pivot_X2_quotient : GoodIn wsX6_pivot wsX2_quotient := goodIn_r _ [11, 12, 13, 14, 15] (by decide +kernel) (by decide +kernel)
set_option maxRecDepth 20000 in
theorem gX6_pivot_X2_quotient : GoodIn wsX6_pivot (va_wsS RX6 163 yX2_quotient wsX2_quotient) := goodIn_app (goodIn_of _ (by decide +kernel)) ggX6_pivot_X2_quotient
theorem dX6_pivot_0 : decode cX6_pivot 0 = .ok (.iload_n 1, 1) := by decide +kernel
theorem dX6_pivot_1 : decode cX6_pivot 1 = .ok (.invokestatic 134, 3) := by decide +kernel
theorem dX6_pivot_4 : decode cX6_pivot 4 = .ok (.ifCond .ne 6, 3) := by decide +kernel
theorem dX6_pivot_7 : decode cX6_pivot 7 = .ok (.bipush (-9), 2) := by decide +kernel
theorem dX6_pivot_9 : decode cX6_pivot 9 = .ok (.ireturn, 1) := by decide +kernel
theorem dX6_pivot_10 : decode cX6_pivot 10 = .ok (.iload_n 1, 1) := by decide +kernel
theorem dX6_pivot_11 : decode cX6_pivot 11 = .ok (.iload_n 2, 1) := by decide +kernel
theorem dX6_pivot_12 : decode cX6_pivot 12 = .ok (.iload_n 3, 1) := by decide +kernel
theorem dX6_pivot_13 : decode cX6_pivot 13 = .ok (.invokestatic 163, 3) := by decide +kernel
theorem dX6_pivot_16 : decode cX6_pivot 16 = .ok (.istore 4, 2) := by decide +kernel
theorem dX6_pivot_18 : decode cX6_pivot 18 = .ok (.iload 4, 2) := by decide +kernel
theorem dX6_pivot_20 : decode cX6_pivot 20 = .ok (.bipush (-4), 2) := by decide +kernel
theorem dX6_pivot_22 : decode cX6_pivot 22 = .ok (.if_icmp .ne 13, 3) := by decide +kernel
theorem dX6_pivot_25 : decode cX6_pivot 25 = .ok (.new 156, 3) := by decide +kernel
theorem dX6_pivot_28 : decode cX6_pivot 28 = .ok (.dup, 1) := by decide +kernel
theorem dX6_pivot_29 : decode cX6_pivot 29 = .ok (.ldc 168, 2) := by decide +kernel
theorem dX6_pivot_31 : decode cX6_pivot 31 = .ok (.invokespecial 160, 3) := by decide +kernel
theorem dX6_pivot_34 : decode cX6_pivot 34 = .ok (.athrow, 1) := by decide +kernel
theorem dX6_pivot_35 : decode cX6_pivot 35 = .ok (.iload 4, 2) := by decide +kernel
theorem dX6_pivot_37 : decode cX6_pivot 37 = .ok (.ireturn, 1) := by decide +kernel
set_option maxRecDepth 20000 in
theorem ggX6_deduce_X0_follow : GoodIn wsX6_deduce wsX0_follow := goodIn_r _ [9, 10, 11, 12, 13, 14, 8, 15, 16, 17, 18, 19, 20, 21, 22, 23, 24, 25, 26, 27, 28, 29, 30, 31, 32, 33, 34, 35, 36, 37, 38, 39, 40, 41, 42, 43, 44, 45, 46, 47, 48, 49, 50, 51, 52, 53, 54, 55, 56, 57, 58, 59, 60, 61, 62, 63, 64, 65, 66, 67, 68, 69, 70, 71, 72, 73, 74, 75, 76, 77, 78, 79, 80, 81, 82, 83, 84, 85, 86, 87, 88, 89, 90, 91, 92, 109, 110, 111, 112, 113, 114, 115, 116, 117, 118, 119, 120, 121, 122, 123, 124] (by decide +kernel) (by decide +kernel)
set_option maxRecDepth 20000 in
theorem gX6_deduce_X0_follow : GoodIn wsX6_deduce (wsV RX6 170 RX0 yX0_follow wsX0_follow) := goodIn_app (goodIn_of _ (by decide +kernel)) ggX6_deduce_X0_follow
theorem dX6_deduce_0 : decode cX6_deduce 0 = .ok (.aload_n 0, 1) := by decide +kernel
theorem dX6_deduce_1 : decode cX6_deduce 1 = .ok (.getfield 20, 3) := by decide +kernel
theorem dX6_deduce_4 : decode cX6_deduce 4 = .ok (.getfield 76, 3) := by decide +kernel
theorem dX6_deduce_7 : decode cX6_deduce 7 = .ok (.ifCond .ne 6, 3) := by decide +kernel
theorem dX6_deduce_10 : decode cX6_deduce 10 = .ok (.bipush (-2), 2) := by decide +kernel
theorem dX6_deduce_12 : decode cX6_deduce 12 = .ok (.ireturn, 1) := by decide +kernel
theorem dX6_deduce_13 : decode cX6_deduce 13 = .ok (.aload_n 0, 1) := by decide +kernel
theorem dX6_deduce_14 : decode cX6_deduce 14 = .ok (.getfield 46, 3) := by decide +kernel
theorem dX6_deduce_17 : decode cX6_deduce 17 = .ok (.aload_n 0, 1) := by decide +kernel
theorem dX6_deduce_18 : decode cX6_deduce 18 = .ok (.getfield 20, 3) := by decide +kernel
theorem dX6_deduce_21 : decode cX6_deduce 21 = .ok (.getfield 73, 3) := by decide +kernel
theorem dX6_deduce_24 : decode cX6_deduce 24 = .ok (.invokevirtual 170, 3) := by decide +kernel
theorem dX6_deduce_27 : decode cX6_deduce 27 = .ok (.ireturn, 1) := by decide +kernel
set_option maxRecDepth 20000 in
theorem ggX6_row_X0_hasRow : GoodIn wsX6_row wsX0_hasRow := goodIn_r _ [6, 7, 24, 25, 26, 27, 28, 29, 30, 31, 32, 33, 34] (by decide +kernel) (by decide +kernel)
set_option maxRecDepth 20000 in
theorem gX6_row_X0_hasRow : GoodIn wsX6_row (wsV RX6 173 RX0 yX0_hasRow wsX0_hasRow) := goodIn_app (goodIn_of _ (by decide +kernel)) ggX6_row_X0_hasRow
set_option maxRecDepth 20000 in
theorem ggX6_row_X0_entry : GoodIn wsX6_row wsX0_entry := goodIn_r _ [11, 12, 13, 14, 15, 24, 25, 26, 27, 28, 29, 30, 31, 32, 33, 34] (by decide +kernel) (by decide +kernel)
set_option maxRecDepth 20000 in
theorem gX6_row_X0_entry : GoodIn wsX6_row (wsV RX6 176 RX0 yX0_entry wsX0_entry) := goodIn_app (goodIn_of _ (by decide +kernel)) ggX6_row_X0_entry
theorem dX6_row_0 : decode cX6_row 0 = .ok (.iload_n 2, 1) := by decide +kernel
theorem dX6_row_1 : decode cX6_row 1 = .ok (.ifCond .lt 9, 3) := by decide +kernel
theorem dX6_row_4 : decode cX6_row 4 = .ok (.iload_n 2, 1) := by decide +kernel
theorem dX6_row_5 : decode cX6_row 5 = .ok (.bipush 9, 2) := by decide +kernel
theorem dX6_row_7 : decode cX6_row 7 = .ok (.if_icmp .le 6, 3) := by decide +kernel
theorem dX6_row_10 : decode cX6_row 10 = .ok (.bipush (-9), 2) := by decide +kernel
theorem dX6_row_12 : decode cX6_row 12 = .ok (.ireturn, 1) := by decide +kernel
theorem dX6_row_13 : decode cX6_row 13 = .ok (.aload_n 0, 1) := by decide +kernel
theorem dX6_row_14 : decode cX6_row 14 = .ok (.getfield 46, 3) := by decide +kernel
theorem dX6_row_17 : decode cX6_row 17 = .ok (.iload_n 1, 1) := by decide +kernel
theorem dX6_row_18 : decode cX6_row 18 = .ok (.invokevirtual 173, 3) := by decide +kernel
theorem dX6_row_21 : decode cX6_row 21 = .ok (.ifCond .ne 6, 3) := by decide +kernel
theorem dX6_row_24 : decode cX6_row 24 = .ok (.bipush (-4), 2) := by decide +kernel
theorem dX6_row_26 : decode cX6_row 26 = .ok (.ireturn, 1) := by decide +kernel
theorem dX6_row_27 : decode cX6_row 27 = .ok (.aload_n 0, 1) := by decide +kernel
theorem dX6_row_28 : decode cX6_row 28 = .ok (.getfield 46, 3) := by decide +kernel
theorem dX6_row_31 : decode cX6_row 31 = .ok (.iload_n 1, 1) := by decide +kernel
theorem dX6_row_32 : decode cX6_row 32 = .ok (.iload_n 2, 1) := by decide +kernel
theorem dX6_row_33 : decode cX6_row 33 = .ok (.invokevirtual 176, 3) := by decide +kernel
theorem dX6_row_36 : decode cX6_row 36 = .ok (.ireturn, 1) := by decide +kernel
set_option maxRecDepth 20000 in
theorem ggX6_plant_X0_hasRow : GoodIn wsX6_plant wsX0_hasRow := goodIn_r _ [8, 9, 18, 19, 20, 21, 22, 23, 24, 25, 26, 27, 28] (by decide +kernel) (by decide +kernel)
set_option maxRecDepth 20000 in
theorem gX6_plant_X0_hasRow : GoodIn wsX6_plant (wsV RX6 173 RX0 yX0_hasRow wsX0_hasRow) := goodIn_app (goodIn_of _ (by decide +kernel)) ggX6_plant_X0_hasRow
theorem dX6_plant_0 : decode cX6_plant 0 = .ok (.iload_n 2, 1) := by decide +kernel
theorem dX6_plant_1 : decode cX6_plant 1 = .ok (.iconst (-1), 1) := by decide +kernel
theorem dX6_plant_2 : decode cX6_plant 2 = .ok (.if_icmp .lt 8, 3) := by decide +kernel
theorem dX6_plant_5 : decode cX6_plant 5 = .ok (.iload_n 2, 1) := by decide +kernel
theorem dX6_plant_6 : decode cX6_plant 6 = .ok (.iconst 1, 1) := by decide +kernel
theorem dX6_plant_7 : decode cX6_plant 7 = .ok (.if_icmp .le 6, 3) := by decide +kernel
theorem dX6_plant_10 : decode cX6_plant 10 = .ok (.bipush (-9), 2) := by decide +kernel
theorem dX6_plant_12 : decode cX6_plant 12 = .ok (.ireturn, 1) := by decide +kernel
theorem dX6_plant_13 : decode cX6_plant 13 = .ok (.aload_n 0, 1) := by decide +kernel
theorem dX6_plant_14 : decode cX6_plant 14 = .ok (.getfield 46, 3) := by decide +kernel
theorem dX6_plant_17 : decode cX6_plant 17 = .ok (.iload_n 1, 1) := by decide +kernel
theorem dX6_plant_18 : decode cX6_plant 18 = .ok (.invokevirtual 173, 3) := by decide +kernel
theorem dX6_plant_21 : decode cX6_plant 21 = .ok (.ifCond .eq 16, 3) := by decide +kernel
theorem dX6_plant_24 : decode cX6_plant 24 = .ok (.aload_n 0, 1) := by decide +kernel
theorem dX6_plant_25 : decode cX6_plant 25 = .ok (.getfield 46, 3) := by decide +kernel
theorem dX6_plant_28 : decode cX6_plant 28 = .ok (.getfield 179, 3) := by decide +kernel
theorem dX6_plant_31 : decode cX6_plant 31 = .ok (.iload_n 1, 1) := by decide +kernel
theorem dX6_plant_32 : decode cX6_plant 32 = .ok (.iaload, 1) := by decide +kernel
theorem dX6_plant_33 : decode cX6_plant 33 = .ok (.iconst 1, 1) := by decide +kernel
theorem dX6_plant_34 : decode cX6_plant 34 = .ok (.if_icmp .ne 6, 3) := by decide +kernel
theorem dX6_plant_37 : decode cX6_plant 37 = .ok (.bipush (-4), 2) := by decide +kernel
theorem dX6_plant_39 : decode cX6_plant 39 = .ok (.ireturn, 1) := by decide +kernel
theorem dX6_plant_40 : decode cX6_plant 40 = .ok (.aload_n 0, 1) := by decide +kernel
theorem dX6_plant_41 : decode cX6_plant 41 = .ok (.getfield 46, 3) := by decide +kernel
theorem dX6_plant_44 : decode cX6_plant 44 = .ok (.getfield 182, 3) := by decide +kernel
theorem dX6_plant_47 : decode cX6_plant 47 = .ok (.iload_n 1, 1) := by decide +kernel
theorem dX6_plant_48 : decode cX6_plant 48 = .ok (.iaload, 1) := by decide +kernel
theorem dX6_plant_49 : decode cX6_plant 49 = .ok (.istore_n 3, 1) := by decide +kernel
theorem dX6_plant_50 : decode cX6_plant 50 = .ok (.aload_n 0, 1) := by decide +kernel
theorem dX6_plant_51 : decode cX6_plant 51 = .ok (.getfield 46, 3) := by decide +kernel
theorem dX6_plant_54 : decode cX6_plant 54 = .ok (.getfield 182, 3) := by decide +kernel
theorem dX6_plant_57 : decode cX6_plant 57 = .ok (.iload_n 1, 1) := by decide +kernel
theorem dX6_plant_58 : decode cX6_plant 58 = .ok (.iload_n 2, 1) := by decide +kernel
theorem dX6_plant_59 : decode cX6_plant 59 = .ok (.iastore, 1) := by decide +kernel
theorem dX6_plant_60 : decode cX6_plant 60 = .ok (.iload_n 3, 1) := by decide +kernel
theorem dX6_plant_61 : decode cX6_plant 61 = .ok (.ireturn, 1) := by decide +kernel
set_option maxRecDepth 20000 in
theorem ggX6_proof_X0_allFollow : GoodIn wsX6_proof wsX0_allFollow := goodIn_r _ [6, 7, 8, 9, 10, 11, 5, 12, 13, 14, 15, 16, 17, 18, 19, 20, 21, 22, 23, 24, 25, 26, 27, 28, 29, 30, 31, 32, 33, 34, 35, 36, 37, 38, 39, 40, 41, 42, 43, 44, 45, 46, 47, 48, 49, 50, 51, 52, 53, 54, 55, 56, 57, 58, 59, 60, 61, 62, 63, 64, 65, 66, 67, 68, 69, 70, 71, 72, 73, 74, 75, 76, 77, 78, 79, 80, 89, 90, 91, 92, 93, 94, 95, 96, 97, 98, 99, 100, 101, 102, 103, 104] (by decide +kernel) (by decide +kernel)
set_option maxRecDepth 20000 in
theorem gX6_proof_X0_allFollow : GoodIn wsX6_proof (wsV RX6 185 RX0 yX0_allFollow wsX0_allFollow) := goodIn_app (goodIn_of _ (by decide +kernel)) ggX6_proof_X0_allFollow
theorem dX6_proof_0 : decode cX6_proof 0 = .ok (.aload_n 0, 1) := by decide +kernel
theorem dX6_proof_1 : decode cX6_proof 1 = .ok (.getfield 46, 3) := by decide +kernel
theorem dX6_proof_4 : decode cX6_proof 4 = .ok (.invokevirtual 185, 3) := by decide +kernel
theorem dX6_proof_7 : decode cX6_proof 7 = .ok (.ifCond .eq 7, 3) := by decide +kernel
theorem dX6_proof_10 : decode cX6_proof 10 = .ok (.iconst 1, 1) := by decide +kernel
theorem dX6_proof_11 : decode cX6_proof 11 = .ok (.goto 4, 3) := by decide +kernel
theorem dX6_proof_14 : decode cX6_proof 14 = .ok (.iconst 0, 1) := by decide +kernel
theorem dX6_proof_15 : decode cX6_proof 15 = .ok (.ireturn, 1) := by decide +kernel
set_option maxRecDepth 20000 in
theorem ggX6_known_X4_isTriple : GoodIn wsX6_known wsX4_isTriple := goodIn_r _ [8, 9, 10, 11, 7, 12, 13, 75, 76, 77, 78, 79, 80, 81, 82] (by decide +kernel) (by decide +kernel)
set_option maxRecDepth 20000 in
theorem gX6_known_X4_isTriple : GoodIn wsX6_known (wsV RX6 108 RX4 yX4_isTriple wsX4_isTriple) := goodIn_app (goodIn_of _ (by decide +kernel)) ggX6_known_X4_isTriple
set_option maxRecDepth 20000 in
theorem ggX6_known_X0_gather : GoodIn wsX6_known wsX0_gather := goodIn_r _ [18, 19, 20, 21, 22, 23, 24, 25, 26, 27, 28, 29, 30, 31, 32, 33, 34, 35, 36, 37, 38, 39, 40, 17, 41, 42, 43, 44, 45, 46, 47, 48, 49, 50, 51, 64, 65, 66, 67, 68, 69, 70, 71, 72, 73, 74, 83, 84, 85, 86, 87] (by decide +kernel) (by decide +kernel)
set_option maxRecDepth 20000 in
theorem gX6_known_X0_gather : GoodIn wsX6_known (wsV RX6 189 RX0 yX0_gather wsX0_gather) := goodIn_app (goodIn_of _ (by decide +kernel)) ggX6_known_X0_gather
set_option maxRecDepth 20000 in
theorem ggX6_known_X0_signNow : GoodIn wsX6_known wsX0_signNow := goodIn_r _ [55, 19, 42, 43, 17, 44, 64, 65, 66, 67, 68, 69, 70, 71, 72, 73, 74] (by decide +kernel) (by decide +kernel)
set_option maxRecDepth 20000 in
theorem gX6_known_X0_signNow : GoodIn wsX6_known (wsV RX6 193 RX0 yX0_signNow wsX0_signNow) := goodIn_app (goodIn_of _ (by decide +kernel)) ggX6_known_X0_signNow
theorem dX6_known_0 : decode cX6_known 0 = .ok (.aload_n 0, 1) := by decide +kernel
theorem dX6_known_1 : decode cX6_known 1 = .ok (.getfield 20, 3) := by decide +kernel
theorem dX6_known_4 : decode cX6_known 4 = .ok (.iload_n 1, 1) := by decide +kernel
theorem dX6_known_5 : decode cX6_known 5 = .ok (.iload_n 2, 1) := by decide +kernel
theorem dX6_known_6 : decode cX6_known 6 = .ok (.iload_n 3, 1) := by decide +kernel
theorem dX6_known_7 : decode cX6_known 7 = .ok (.invokevirtual 108, 3) := by decide +kernel
theorem dX6_known_10 : decode cX6_known 10 = .ok (.ifCond .ne 6, 3) := by decide +kernel
theorem dX6_known_13 : decode cX6_known 13 = .ok (.bipush (-9), 2) := by decide +kernel
theorem dX6_known_15 : decode cX6_known 15 = .ok (.ireturn, 1) := by decide +kernel
theorem dX6_known_16 : decode cX6_known 16 = .ok (.aload_n 0, 1) := by decide +kernel
theorem dX6_known_17 : decode cX6_known 17 = .ok (.getfield 46, 3) := by decide +kernel
theorem dX6_known_20 : decode cX6_known 20 = .ok (.aload_n 0, 1) := by decide +kernel
theorem dX6_known_21 : decode cX6_known 21 = .ok (.getfield 46, 3) := by decide +kernel
theorem dX6_known_24 : decode cX6_known 24 = .ok (.getfield 85, 3) := by decide +kernel
theorem dX6_known_27 : decode cX6_known 27 = .ok (.invokevirtual 189, 3) := by decide +kernel
theorem dX6_known_30 : decode cX6_known 30 = .ok (.aload_n 0, 1) := by decide +kernel
theorem dX6_known_31 : decode cX6_known 31 = .ok (.getfield 46, 3) := by decide +kernel
theorem dX6_known_34 : decode cX6_known 34 = .ok (.iload_n 1, 1) := by decide +kernel
theorem dX6_known_35 : decode cX6_known 35 = .ok (.iload_n 2, 1) := by decide +kernel
theorem dX6_known_36 : decode cX6_known 36 = .ok (.iload_n 3, 1) := by decide +kernel
theorem dX6_known_37 : decode cX6_known 37 = .ok (.invokevirtual 193, 3) := by decide +kernel
theorem dX6_known_40 : decode cX6_known 40 = .ok (.ireturn, 1) := by decide +kernel
set_option maxRecDepth 20000 in
theorem ggX6_certificate_X0_lastTerm : GoodIn wsX6_certificate wsX0_lastTerm := goodIn_r _ [7, 8, 9, 10, 11, 12, 6, 13, 14, 15, 16, 17, 18, 19, 20, 21, 22, 23, 24, 25, 26, 27, 28, 29, 30, 31, 32, 33, 34, 35, 36, 37, 38, 39, 40, 41, 42, 43, 44, 45, 46, 47, 48, 49, 50, 51, 52, 53, 54, 55, 56, 57, 58, 59, 60, 61, 70, 71, 72, 73, 74, 75, 76, 77, 78, 79, 80, 81, 82, 83, 84, 85] (by decide +kernel) (by decide +kernel)
set_option maxRecDepth 20000 in
theorem gX6_certificate_X0_lastTerm : GoodIn wsX6_certificate (wsV RX6 196 RX0 yX0_lastTerm wsX0_lastTerm) := goodIn_app (goodIn_of _ (by decide +kernel)) ggX6_certificate_X0_lastTerm
theorem dX6_certificate_0 : decode cX6_certificate 0 = .ok (.iload_n 1, 1) := by decide +kernel
theorem dX6_certificate_1 : decode cX6_certificate 1 = .ok (.ifCond .lt 17, 3) := by decide +kernel
theorem dX6_certificate_4 : decode cX6_certificate 4 = .ok (.iload_n 1, 1) := by decide +kernel
theorem dX6_certificate_5 : decode cX6_certificate 5 = .ok (.iconst 2, 1) := by decide +kernel
theorem dX6_certificate_6 : decode cX6_certificate 6 = .ok (.if_icmp .gt 12, 3) := by decide +kernel
theorem dX6_certificate_9 : decode cX6_certificate 9 = .ok (.iload_n 2, 1) := by decide +kernel
theorem dX6_certificate_10 : decode cX6_certificate 10 = .ok (.ifCond .lt 8, 3) := by decide +kernel
theorem dX6_certificate_13 : decode cX6_certificate 13 = .ok (.iload_n 2, 1) := by decide +kernel
theorem dX6_certificate_14 : decode cX6_certificate 14 = .ok (.iconst 2, 1) := by decide +kernel
theorem dX6_certificate_15 : decode cX6_certificate 15 = .ok (.if_icmp .le 6, 3) := by decide +kernel
theorem dX6_certificate_18 : decode cX6_certificate 18 = .ok (.bipush (-9), 2) := by decide +kernel
theorem dX6_certificate_20 : decode cX6_certificate 20 = .ok (.ireturn, 1) := by decide +kernel
theorem dX6_certificate_21 : decode cX6_certificate 21 = .ok (.aload_n 0, 1) := by decide +kernel
theorem dX6_certificate_22 : decode cX6_certificate 22 = .ok (.getfield 46, 3) := by decide +kernel
theorem dX6_certificate_25 : decode cX6_certificate 25 = .ok (.getfield 85, 3) := by decide +kernel
theorem dX6_certificate_28 : decode cX6_certificate 28 = .ok (.ifCond .ne 6, 3) := by decide +kernel
theorem dX6_certificate_31 : decode cX6_certificate 31 = .ok (.bipush (-2), 2) := by decide +kernel
theorem dX6_certificate_33 : decode cX6_certificate 33 = .ok (.ireturn, 1) := by decide +kernel
theorem dX6_certificate_34 : decode cX6_certificate 34 = .ok (.aload_n 0, 1) := by decide +kernel
theorem dX6_certificate_35 : decode cX6_certificate 35 = .ok (.getfield 46, 3) := by decide +kernel
theorem dX6_certificate_38 : decode cX6_certificate 38 = .ok (.iload_n 1, 1) := by decide +kernel
theorem dX6_certificate_39 : decode cX6_certificate 39 = .ok (.iload_n 2, 1) := by decide +kernel
theorem dX6_certificate_40 : decode cX6_certificate 40 = .ok (.invokevirtual 196, 3) := by decide +kernel
theorem dX6_certificate_43 : decode cX6_certificate 43 = .ok (.ireturn, 1) := by decide +kernel
set_option maxRecDepth 20000 in
theorem ggX6_kinds_X1_kindsOf : GoodIn wsX6_kinds wsX1_kindsOf := goodIn_r _ [6, 7, 8, 9, 10, 5, 11, 12, 13, 14, 15, 16, 17, 18, 19, 20, 21, 22, 23, 24, 25, 26, 27, 28, 29, 30, 31, 32, 33, 34, 35, 36, 37, 38, 39, 40, 41, 42, 43, 44, 45, 46, 47, 48, 49, 50, 51, 52, 53, 54, 55, 56, 57, 66, 67, 68, 69, 70, 71, 72, 73, 74] (by decide +kernel) (by decide +kernel)
set_option maxRecDepth 20000 in
theorem gX6_kinds_X1_kindsOf : GoodIn wsX6_kinds (wsV RX6 199 RX1 yX1_kindsOf wsX1_kindsOf) := goodIn_app (goodIn_of _ (by decide +kernel)) ggX6_kinds_X1_kindsOf
theorem dX6_kinds_0 : decode cX6_kinds 0 = .ok (.iload_n 1, 1) := by decide +kernel
theorem dX6_kinds_1 : decode cX6_kinds 1 = .ok (.iconst 3, 1) := by decide +kernel
theorem dX6_kinds_2 : decode cX6_kinds 2 = .ok (.if_icmp .lt 18, 3) := by decide +kernel
theorem dX6_kinds_5 : decode cX6_kinds 5 = .ok (.iload_n 1, 1) := by decide +kernel
theorem dX6_kinds_6 : decode cX6_kinds 6 = .ok (.bipush 6, 2) := by decide +kernel
theorem dX6_kinds_8 : decode cX6_kinds 8 = .ok (.if_icmp .gt 12, 3) := by decide +kernel
theorem dX6_kinds_11 : decode cX6_kinds 11 = .ok (.iload_n 2, 1) := by decide +kernel
theorem dX6_kinds_12 : decode cX6_kinds 12 = .ok (.ifCond .lt 8, 3) := by decide +kernel
theorem dX6_kinds_15 : decode cX6_kinds 15 = .ok (.iload_n 2, 1) := by decide +kernel
theorem dX6_kinds_16 : decode cX6_kinds 16 = .ok (.iconst 4, 1) := by decide +kernel
theorem dX6_kinds_17 : decode cX6_kinds 17 = .ok (.if_icmp .le 6, 3) := by decide +kernel
theorem dX6_kinds_20 : decode cX6_kinds 20 = .ok (.bipush (-9), 2) := by decide +kernel
theorem dX6_kinds_22 : decode cX6_kinds 22 = .ok (.ireturn, 1) := by decide +kernel
theorem dX6_kinds_23 : decode cX6_kinds 23 = .ok (.aload_n 0, 1) := by decide +kernel
theorem dX6_kinds_24 : decode cX6_kinds 24 = .ok (.getfield 53, 3) := by decide +kernel
theorem dX6_kinds_27 : decode cX6_kinds 27 = .ok (.iload_n 1, 1) := by decide +kernel
theorem dX6_kinds_28 : decode cX6_kinds 28 = .ok (.iload_n 2, 1) := by decide +kernel
theorem dX6_kinds_29 : decode cX6_kinds 29 = .ok (.invokevirtual 199, 3) := by decide +kernel
theorem dX6_kinds_32 : decode cX6_kinds 32 = .ok (.ireturn, 1) := by decide +kernel
set_option maxRecDepth 20000 in
theorem ggX6_canonical_X6_renamable : GoodIn wsX6_canonical wsX6_renamable := goodIn_r _ [9, 1, 2, 10, 67, 68, 69, 70, 71, 72, 73, 74, 75, 76, 77, 78, 79, 80, 81, 82] (by decide +kernel) (by decide +kernel)
set_option maxRecDepth 20000 in
theorem gX6_canonical_X6_renamable : GoodIn wsX6_canonical (wsV RX6 202 RX6 yX6_renamable wsX6_renamable) := goodIn_app (goodIn_of _ (by decide +kernel)) ggX6_canonical_X6_renamable
set_option maxRecDepth 20000 in
theorem ggX6_canonical_X1_study : GoodIn wsX6_canonical wsX1_study := goodIn_r _ [15, 16, 17, 18, 19, 20, 21, 22, 23, 24, 25, 26, 27, 28, 29, 30, 31, 32, 33, 14, 34, 35, 36, 37, 38, 39, 40, 41, 42, 43, 44, 45, 46, 47, 48, 49, 50, 51, 52, 53, 54, 55, 56, 57, 58, 59, 60, 61, 62, 63, 64, 65, 66, 83, 84, 85, 86, 87, 88, 89, 90, 91, 75, 76, 77, 78, 79, 80, 81, 82] (by decide +kernel) (by decide +kernel)
set_option maxRecDepth 20000 in
theorem gX6_canonical_X1_study : GoodIn wsX6_canonical (wsV RX6 205 RX1 yX1_study wsX1_study) := goodIn_app (goodIn_of _ (by decide +kernel)) ggX6_canonical_X1_study
theorem dX6_canonical_0 : decode cX6_canonical 0 = .ok (.aload_n 0, 1) := by decide +kernel
theorem dX6_canonical_1 : decode cX6_canonical 1 = .ok (.invokevirtual 202, 3) := by decide +kernel
theorem dX6_canonical_4 : decode cX6_canonical 4 = .ok (.ifCond .ne 6, 3) := by decide +kernel
theorem dX6_canonical_7 : decode cX6_canonical 7 = .ok (.bipush (-2), 2) := by decide +kernel
theorem dX6_canonical_9 : decode cX6_canonical 9 = .ok (.ireturn, 1) := by decide +kernel
theorem dX6_canonical_10 : decode cX6_canonical 10 = .ok (.iload_n 1, 1) := by decide +kernel
theorem dX6_canonical_11 : decode cX6_canonical 11 = .ok (.ifCond .lt 14, 3) := by decide +kernel
theorem dX6_canonical_14 : decode cX6_canonical 14 = .ok (.iload_n 1, 1) := by decide +kernel
theorem dX6_canonical_15 : decode cX6_canonical 15 = .ok (.aload_n 0, 1) := by decide +kernel
theorem dX6_canonical_16 : decode cX6_canonical 16 = .ok (.getfield 20, 3) := by decide +kernel
theorem dX6_canonical_19 : decode cX6_canonical 19 = .ok (.getfield 76, 3) := by decide +kernel
theorem dX6_canonical_22 : decode cX6_canonical 22 = .ok (.if_icmp .lt 6, 3) := by decide +kernel
theorem dX6_canonical_25 : decode cX6_canonical 25 = .ok (.bipush (-4), 2) := by decide +kernel
theorem dX6_canonical_27 : decode cX6_canonical 27 = .ok (.ireturn, 1) := by decide +kernel
theorem dX6_canonical_28 : decode cX6_canonical 28 = .ok (.aload_n 0, 1) := by decide +kernel
theorem dX6_canonical_29 : decode cX6_canonical 29 = .ok (.getfield 53, 3) := by decide +kernel
theorem dX6_canonical_32 : decode cX6_canonical 32 = .ok (.aload_n 0, 1) := by decide +kernel
theorem dX6_canonical_33 : decode cX6_canonical 33 = .ok (.getfield 20, 3) := by decide +kernel
theorem dX6_canonical_36 : decode cX6_canonical 36 = .ok (.invokevirtual 205, 3) := by decide +kernel
theorem dX6_canonical_39 : decode cX6_canonical 39 = .ok (.aload_n 0, 1) := by decide +kernel
theorem dX6_canonical_40 : decode cX6_canonical 40 = .ok (.getfield 53, 3) := by decide +kernel
theorem dX6_canonical_43 : decode cX6_canonical 43 = .ok (.getfield 208, 3) := by decide +kernel
theorem dX6_canonical_46 : decode cX6_canonical 46 = .ok (.iload_n 1, 1) := by decide +kernel
theorem dX6_canonical_47 : decode cX6_canonical 47 = .ok (.iaload, 1) := by decide +kernel
theorem dX6_canonical_48 : decode cX6_canonical 48 = .ok (.ireturn, 1) := by decide +kernel
set_option maxRecDepth 20000 in
theorem ggX6_orbit_X6_renamable : GoodIn wsX6_orbit wsX6_renamable := goodIn_r _ [8, 2, 9, 10, 67, 68, 69, 70, 71, 72, 73, 74, 84, 85, 86, 87, 88, 89, 90, 91] (by decide +kernel) (by decide +kernel)
set_option maxRecDepth 20000 in
theorem gX6_orbit_X6_renamable : GoodIn wsX6_orbit (wsV RX6 202 RX6 yX6_renamable wsX6_renamable) := goodIn_app (goodIn_of _ (by decide +kernel)) ggX6_orbit_X6_renamable
set_option maxRecDepth 20000 in
theorem ggX6_orbit_X1_study : GoodIn wsX6_orbit wsX1_study := goodIn_r _ [15, 16, 17, 18, 19, 20, 21, 22, 23, 24, 25, 26, 27, 28, 29, 30, 31, 32, 33, 14, 34, 35, 36, 37, 38, 39, 40, 41, 42, 43, 44, 45, 46, 47, 48, 49, 50, 51, 52, 53, 54, 55, 56, 57, 58, 59, 60, 61, 62, 63, 64, 65, 66, 75, 76, 77, 78, 79, 80, 81, 82, 83, 84, 85, 86, 87, 88, 89, 90, 91] (by decide +kernel) (by decide +kernel)
set_option maxRecDepth 20000 in
theorem gX6_orbit_X1_study : GoodIn wsX6_orbit (wsV RX6 205 RX1 yX1_study wsX1_study) := goodIn_app (goodIn_of _ (by decide +kernel)) ggX6_orbit_X1_study
theorem dX6_orbit_0 : decode cX6_orbit 0 = .ok (.iload_n 1, 1) := by decide +kernel
theorem dX6_orbit_1 : decode cX6_orbit 1 = .ok (.ifCond .ge 6, 3) := by decide +kernel
theorem dX6_orbit_4 : decode cX6_orbit 4 = .ok (.bipush (-9), 2) := by decide +kernel
theorem dX6_orbit_6 : decode cX6_orbit 6 = .ok (.ireturn, 1) := by decide +kernel
theorem dX6_orbit_7 : decode cX6_orbit 7 = .ok (.aload_n 0, 1) := by decide +kernel
theorem dX6_orbit_8 : decode cX6_orbit 8 = .ok (.invokevirtual 202, 3) := by decide +kernel
theorem dX6_orbit_11 : decode cX6_orbit 11 = .ok (.ifCond .ne 6, 3) := by decide +kernel
theorem dX6_orbit_14 : decode cX6_orbit 14 = .ok (.bipush (-2), 2) := by decide +kernel
theorem dX6_orbit_16 : decode cX6_orbit 16 = .ok (.ireturn, 1) := by decide +kernel
theorem dX6_orbit_17 : decode cX6_orbit 17 = .ok (.iload_n 1, 1) := by decide +kernel
theorem dX6_orbit_18 : decode cX6_orbit 18 = .ok (.bipush 12, 2) := by decide +kernel
theorem dX6_orbit_20 : decode cX6_orbit 20 = .ok (.if_icmp .le 5, 3) := by decide +kernel
theorem dX6_orbit_23 : decode cX6_orbit 23 = .ok (.iconst 0, 1) := by decide +kernel
theorem dX6_orbit_24 : decode cX6_orbit 24 = .ok (.ireturn, 1) := by decide +kernel
theorem dX6_orbit_25 : decode cX6_orbit 25 = .ok (.aload_n 0, 1) := by decide +kernel
theorem dX6_orbit_26 : decode cX6_orbit 26 = .ok (.getfield 53, 3) := by decide +kernel
theorem dX6_orbit_29 : decode cX6_orbit 29 = .ok (.aload_n 0, 1) := by decide +kernel
theorem dX6_orbit_30 : decode cX6_orbit 30 = .ok (.getfield 20, 3) := by decide +kernel
theorem dX6_orbit_33 : decode cX6_orbit 33 = .ok (.invokevirtual 205, 3) := by decide +kernel
theorem dX6_orbit_36 : decode cX6_orbit 36 = .ok (.aload_n 0, 1) := by decide +kernel
theorem dX6_orbit_37 : decode cX6_orbit 37 = .ok (.getfield 53, 3) := by decide +kernel
theorem dX6_orbit_40 : decode cX6_orbit 40 = .ok (.getfield 211, 3) := by decide +kernel
theorem dX6_orbit_43 : decode cX6_orbit 43 = .ok (.iload_n 1, 1) := by decide +kernel
theorem dX6_orbit_44 : decode cX6_orbit 44 = .ok (.iaload, 1) := by decide +kernel
theorem dX6_orbit_45 : decode cX6_orbit 45 = .ok (.ireturn, 1) := by decide +kernel
theorem dX6_renamable_0 : decode cX6_renamable 0 = .ok (.aload_n 0, 1) := by decide +kernel
theorem dX6_renamable_1 : decode cX6_renamable 1 = .ok (.getfield 20, 3) := by decide +kernel
theorem dX6_renamable_4 : decode cX6_renamable 4 = .ok (.getfield 76, 3) := by decide +kernel
theorem dX6_renamable_7 : decode cX6_renamable 7 = .ok (.ifCond .le 19, 3) := by decide +kernel
theorem dX6_renamable_10 : decode cX6_renamable 10 = .ok (.aload_n 0, 1) := by decide +kernel
theorem dX6_renamable_11 : decode cX6_renamable 11 = .ok (.getfield 20, 3) := by decide +kernel
theorem dX6_renamable_14 : decode cX6_renamable 14 = .ok (.getfield 73, 3) := by decide +kernel
theorem dX6_renamable_17 : decode cX6_renamable 17 = .ok (.bipush 7, 2) := by decide +kernel
theorem dX6_renamable_19 : decode cX6_renamable 19 = .ok (.if_icmp .gt 7, 3) := by decide +kernel
theorem dX6_renamable_22 : decode cX6_renamable 22 = .ok (.iconst 1, 1) := by decide +kernel
theorem dX6_renamable_23 : decode cX6_renamable 23 = .ok (.goto 4, 3) := by decide +kernel
theorem dX6_renamable_26 : decode cX6_renamable 26 = .ok (.iconst 0, 1) := by decide +kernel
theorem dX6_renamable_27 : decode cX6_renamable 27 = .ok (.ireturn, 1) := by decide +kernel
set_option maxRecDepth 20000 in
theorem ggX6_placeOfBoth_X4_hasLine : GoodIn wsX6_placeOfBoth wsX4_hasLine := goodIn_r _ [11, 12, 79, 80, 81, 82, 83, 84, 85, 86] (by decide +kernel) (by decide +kernel)
set_option maxRecDepth 20000 in
theorem gX6_placeOfBoth_X4_hasLine : GoodIn wsX6_placeOfBoth (wsV RX6 94 RX4 yX4_hasLine wsX4_hasLine) := goodIn_app (goodIn_of _ (by decide +kernel)) ggX6_placeOfBoth_X4_hasLine
set_option maxRecDepth 20000 in
theorem ggX6_placeOfBoth_X3_placeOnBoth : GoodIn wsX6_placeOfBoth wsX3_placeOnBoth := goodIn_r _ [17, 18, 19, 20, 21, 22, 23, 24, 16, 25, 26, 27, 28, 29, 30, 31, 32, 33, 34, 35, 36, 37, 38, 39, 40, 41, 42, 43, 44, 45, 46, 47, 48, 49, 50, 51, 52, 53, 62, 63, 64, 65, 66, 67, 68, 69, 70, 71, 72, 73, 74, 75, 76, 77, 78] (by decide +kernel) (by decide +kernel)
set_option maxRecDepth 20000 in
theorem gX6_placeOfBoth_X3_placeOnBoth : GoodIn wsX6_placeOfBoth (wsV RX6 221 RX3 yX3_placeOnBoth wsX3_placeOnBoth) := goodIn_app (goodIn_of _ (by decide +kernel)) ggX6_placeOfBoth_X3_placeOnBoth
theorem dX6_placeOfBoth_0 : decode cX6_placeOfBoth 0 = .ok (.aload_n 0, 1) := by decide +kernel
theorem dX6_placeOfBoth_1 : decode cX6_placeOfBoth 1 = .ok (.getfield 20, 3) := by decide +kernel
theorem dX6_placeOfBoth_4 : decode cX6_placeOfBoth 4 = .ok (.iload_n 1, 1) := by decide +kernel
theorem dX6_placeOfBoth_5 : decode cX6_placeOfBoth 5 = .ok (.invokevirtual 94, 3) := by decide +kernel
theorem dX6_placeOfBoth_8 : decode cX6_placeOfBoth 8 = .ok (.ifCond .eq 19, 3) := by decide +kernel
theorem dX6_placeOfBoth_11 : decode cX6_placeOfBoth 11 = .ok (.aload_n 0, 1) := by decide +kernel
theorem dX6_placeOfBoth_12 : decode cX6_placeOfBoth 12 = .ok (.getfield 20, 3) := by decide +kernel
theorem dX6_placeOfBoth_15 : decode cX6_placeOfBoth 15 = .ok (.iload_n 2, 1) := by decide +kernel
theorem dX6_placeOfBoth_16 : decode cX6_placeOfBoth 16 = .ok (.invokevirtual 94, 3) := by decide +kernel
theorem dX6_placeOfBoth_19 : decode cX6_placeOfBoth 19 = .ok (.ifCond .eq 8, 3) := by decide +kernel
theorem dX6_placeOfBoth_22 : decode cX6_placeOfBoth 22 = .ok (.iload_n 1, 1) := by decide +kernel
theorem dX6_placeOfBoth_23 : decode cX6_placeOfBoth 23 = .ok (.iload_n 2, 1) := by decide +kernel
theorem dX6_placeOfBoth_24 : decode cX6_placeOfBoth 24 = .ok (.if_icmp .ne 6, 3) := by decide +kernel
theorem dX6_placeOfBoth_27 : decode cX6_placeOfBoth 27 = .ok (.bipush (-9), 2) := by decide +kernel
theorem dX6_placeOfBoth_29 : decode cX6_placeOfBoth 29 = .ok (.ireturn, 1) := by decide +kernel
theorem dX6_placeOfBoth_30 : decode cX6_placeOfBoth 30 = .ok (.aload_n 0, 1) := by decide +kernel
theorem dX6_placeOfBoth_31 : decode cX6_placeOfBoth 31 = .ok (.getfield 39, 3) := by decide +kernel
theorem dX6_placeOfBoth_34 : decode cX6_placeOfBoth 34 = .ok (.getfield 143, 3) := by decide +kernel
theorem dX6_placeOfBoth_37 : decode cX6_placeOfBoth 37 = .ok (.ifCond .eq 16, 3) := by decide +kernel
theorem dX6_placeOfBoth_40 : decode cX6_placeOfBoth 40 = .ok (.aload_n 0, 1) := by decide +kernel
theorem dX6_placeOfBoth_41 : decode cX6_placeOfBoth 41 = .ok (.getfield 39, 3) := by decide +kernel
theorem dX6_placeOfBoth_44 : decode cX6_placeOfBoth 44 = .ok (.getfield 214, 3) := by decide +kernel
theorem dX6_placeOfBoth_47 : decode cX6_placeOfBoth 47 = .ok (.getfield 218, 3) := by decide +kernel
theorem dX6_placeOfBoth_50 : decode cX6_placeOfBoth 50 = .ok (.ifCond .ne 6, 3) := by decide +kernel
theorem dX6_placeOfBoth_53 : decode cX6_placeOfBoth 53 = .ok (.bipush (-2), 2) := by decide +kernel
theorem dX6_placeOfBoth_55 : decode cX6_placeOfBoth 55 = .ok (.ireturn, 1) := by decide +kernel
theorem dX6_placeOfBoth_56 : decode cX6_placeOfBoth 56 = .ok (.aload_n 0, 1) := by decide +kernel
theorem dX6_placeOfBoth_57 : decode cX6_placeOfBoth 57 = .ok (.getfield 39, 3) := by decide +kernel
theorem dX6_placeOfBoth_60 : decode cX6_placeOfBoth 60 = .ok (.aload_n 0, 1) := by decide +kernel
theorem dX6_placeOfBoth_61 : decode cX6_placeOfBoth 61 = .ok (.getfield 20, 3) := by decide +kernel
theorem dX6_placeOfBoth_64 : decode cX6_placeOfBoth 64 = .ok (.getfield 101, 3) := by decide +kernel
theorem dX6_placeOfBoth_67 : decode cX6_placeOfBoth 67 = .ok (.iload_n 1, 1) := by decide +kernel
theorem dX6_placeOfBoth_68 : decode cX6_placeOfBoth 68 = .ok (.aaload, 1) := by decide +kernel
theorem dX6_placeOfBoth_69 : decode cX6_placeOfBoth 69 = .ok (.aload_n 0, 1) := by decide +kernel
theorem dX6_placeOfBoth_70 : decode cX6_placeOfBoth 70 = .ok (.getfield 20, 3) := by decide +kernel
theorem dX6_placeOfBoth_73 : decode cX6_placeOfBoth 73 = .ok (.getfield 101, 3) := by decide +kernel
theorem dX6_placeOfBoth_76 : decode cX6_placeOfBoth 76 = .ok (.iload_n 2, 1) := by decide +kernel
theorem dX6_placeOfBoth_77 : decode cX6_placeOfBoth 77 = .ok (.aaload, 1) := by decide +kernel
theorem dX6_placeOfBoth_78 : decode cX6_placeOfBoth 78 = .ok (.invokevirtual 221, 3) := by decide +kernel
theorem dX6_placeOfBoth_81 : decode cX6_placeOfBoth 81 = .ok (.ireturn, 1) := by decide +kernel
theorem dX6_isPrime_0 : decode cX6_isPrime 0 = .ok (.getstatic 225, 3) := by decide +kernel
theorem dX6_isPrime_3 : decode cX6_isPrime 3 = .ok (.astore_n 1, 1) := by decide +kernel
theorem dX6_isPrime_4 : decode cX6_isPrime 4 = .ok (.aload_n 1, 1) := by decide +kernel
theorem dX6_isPrime_5 : decode cX6_isPrime 5 = .ok (.arraylength, 1) := by decide +kernel
theorem dX6_isPrime_6 : decode cX6_isPrime 6 = .ok (.istore_n 2, 1) := by decide +kernel
theorem dX6_isPrime_7 : decode cX6_isPrime 7 = .ok (.iconst 0, 1) := by decide +kernel
theorem dX6_isPrime_8 : decode cX6_isPrime 8 = .ok (.istore_n 3, 1) := by decide +kernel
theorem dX6_isPrime_9 : decode cX6_isPrime 9 = .ok (.iload_n 3, 1) := by decide +kernel
theorem dX6_isPrime_10 : decode cX6_isPrime 10 = .ok (.iload_n 2, 1) := by decide +kernel
theorem dX6_isPrime_11 : decode cX6_isPrime 11 = .ok (.if_icmp .ge 22, 3) := by decide +kernel
theorem dX6_isPrime_14 : decode cX6_isPrime 14 = .ok (.aload_n 1, 1) := by decide +kernel
theorem dX6_isPrime_15 : decode cX6_isPrime 15 = .ok (.iload_n 3, 1) := by decide +kernel
theorem dX6_isPrime_16 : decode cX6_isPrime 16 = .ok (.iaload, 1) := by decide +kernel
theorem dX6_isPrime_17 : decode cX6_isPrime 17 = .ok (.istore 4, 2) := by decide +kernel
theorem dX6_isPrime_19 : decode cX6_isPrime 19 = .ok (.iload 4, 2) := by decide +kernel
theorem dX6_isPrime_21 : decode cX6_isPrime 21 = .ok (.iload_n 0, 1) := by decide +kernel
theorem dX6_isPrime_22 : decode cX6_isPrime 22 = .ok (.if_icmp .ne 5, 3) := by decide +kernel
theorem dX6_isPrime_25 : decode cX6_isPrime 25 = .ok (.iconst 1, 1) := by decide +kernel
theorem dX6_isPrime_26 : decode cX6_isPrime 26 = .ok (.ireturn, 1) := by decide +kernel
theorem dX6_isPrime_27 : decode cX6_isPrime 27 = .ok (.iinc 3 1, 3) := by decide +kernel
theorem dX6_isPrime_30 : decode cX6_isPrime 30 = .ok (.goto (-21), 3) := by decide +kernel
theorem dX6_isPrime_33 : decode cX6_isPrime 33 = .ok (.iconst 0, 1) := by decide +kernel
theorem dX6_isPrime_34 : decode cX6_isPrime 34 = .ok (.ireturn, 1) := by decide +kernel
theorem dX7_init_0 : decode cX7_init 0 = .ok (.aload_n 0, 1) := by decide +kernel
theorem dX7_init_1 : decode cX7_init 1 = .ok (.invokespecial 1, 3) := by decide +kernel
theorem dX7_init_4 : decode cX7_init 4 = .ok (.aload_n 0, 1) := by decide +kernel
theorem dX7_init_5 : decode cX7_init 5 = .ok (.bipush 80, 2) := by decide +kernel
theorem dX7_init_7 : decode cX7_init 7 = .ok (.newarray .int, 2) := by decide +kernel
theorem dX7_init_9 : decode cX7_init 9 = .ok (.putfield 7, 3) := by decide +kernel
theorem dX7_init_12 : decode cX7_init 12 = .ok (.aload_n 0, 1) := by decide +kernel
theorem dX7_init_13 : decode cX7_init 13 = .ok (.bipush 10, 2) := by decide +kernel
theorem dX7_init_15 : decode cX7_init 15 = .ok (.newarray .int, 2) := by decide +kernel
theorem dX7_init_17 : decode cX7_init 17 = .ok (.putfield 13, 3) := by decide +kernel
theorem dX7_init_20 : decode cX7_init 20 = .ok (.aload_n 0, 1) := by decide +kernel
theorem dX7_init_21 : decode cX7_init 21 = .ok (.bipush 10, 2) := by decide +kernel
theorem dX7_init_23 : decode cX7_init 23 = .ok (.newarray .int, 2) := by decide +kernel
theorem dX7_init_25 : decode cX7_init 25 = .ok (.putfield 16, 3) := by decide +kernel
theorem dX7_init_28 : decode cX7_init 28 = .ok (.aload_n 0, 1) := by decide +kernel
theorem dX7_init_29 : decode cX7_init 29 = .ok (.bipush 12, 2) := by decide +kernel
theorem dX7_init_31 : decode cX7_init 31 = .ok (.newarray .int, 2) := by decide +kernel
theorem dX7_init_33 : decode cX7_init 33 = .ok (.putfield 19, 3) := by decide +kernel
theorem dX7_init_36 : decode cX7_init 36 = .ok (.aload_n 0, 1) := by decide +kernel
theorem dX7_init_37 : decode cX7_init 37 = .ok (.bipush 60, 2) := by decide +kernel
theorem dX7_init_39 : decode cX7_init 39 = .ok (.newarray .int, 2) := by decide +kernel
theorem dX7_init_41 : decode cX7_init 41 = .ok (.putfield 22, 3) := by decide +kernel
theorem dX7_init_44 : decode cX7_init 44 = .ok (.aload_n 0, 1) := by decide +kernel
theorem dX7_init_45 : decode cX7_init 45 = .ok (.bipush 12, 2) := by decide +kernel
theorem dX7_init_47 : decode cX7_init 47 = .ok (.newarray .int, 2) := by decide +kernel
theorem dX7_init_49 : decode cX7_init 49 = .ok (.putfield 25, 3) := by decide +kernel
theorem dX7_init_52 : decode cX7_init 52 = .ok (.aload_n 0, 1) := by decide +kernel
theorem dX7_init_53 : decode cX7_init 53 = .ok (.bipush 13, 2) := by decide +kernel
theorem dX7_init_55 : decode cX7_init 55 = .ok (.newarray .int, 2) := by decide +kernel
theorem dX7_init_57 : decode cX7_init 57 = .ok (.putfield 28, 3) := by decide +kernel
theorem dX7_init_60 : decode cX7_init 60 = .ok (.aload_n 0, 1) := by decide +kernel
theorem dX7_init_61 : decode cX7_init 61 = .ok (.bipush 65, 2) := by decide +kernel
theorem dX7_init_63 : decode cX7_init 63 = .ok (.newarray .int, 2) := by decide +kernel
theorem dX7_init_65 : decode cX7_init 65 = .ok (.putfield 31, 3) := by decide +kernel
theorem dX7_init_68 : decode cX7_init 68 = .ok (.aload_n 0, 1) := by decide +kernel
theorem dX7_init_69 : decode cX7_init 69 = .ok (.bipush 13, 2) := by decide +kernel
theorem dX7_init_71 : decode cX7_init 71 = .ok (.newarray .int, 2) := by decide +kernel
theorem dX7_init_73 : decode cX7_init 73 = .ok (.putfield 34, 3) := by decide +kernel
theorem dX7_init_76 : decode cX7_init 76 = .ok (.aload_n 0, 1) := by decide +kernel
theorem dX7_init_77 : decode cX7_init 77 = .ok (.bipush 20, 2) := by decide +kernel
theorem dX7_init_79 : decode cX7_init 79 = .ok (.newarray .int, 2) := by decide +kernel
theorem dX7_init_81 : decode cX7_init 81 = .ok (.putfield 37, 3) := by decide +kernel
theorem dX7_init_84 : decode cX7_init 84 = .ok (.aload_n 0, 1) := by decide +kernel
theorem dX7_init_85 : decode cX7_init 85 = .ok (.bipush 20, 2) := by decide +kernel
theorem dX7_init_87 : decode cX7_init 87 = .ok (.newarray .int, 2) := by decide +kernel
theorem dX7_init_89 : decode cX7_init 89 = .ok (.putfield 40, 3) := by decide +kernel
theorem dX7_init_92 : decode cX7_init 92 = .ok (.aload_n 0, 1) := by decide +kernel
theorem dX7_init_93 : decode cX7_init 93 = .ok (.bipush 20, 2) := by decide +kernel
theorem dX7_init_95 : decode cX7_init 95 = .ok (.newarray .int, 2) := by decide +kernel
theorem dX7_init_97 : decode cX7_init 97 = .ok (.putfield 43, 3) := by decide +kernel
theorem dX7_init_100 : decode cX7_init 100 = .ok (.aload_n 0, 1) := by decide +kernel
theorem dX7_init_101 : decode cX7_init 101 = .ok (.bipush 10, 2) := by decide +kernel
theorem dX7_init_103 : decode cX7_init 103 = .ok (.newarray .int, 2) := by decide +kernel
theorem dX7_init_105 : decode cX7_init 105 = .ok (.putfield 46, 3) := by decide +kernel
theorem dX7_init_108 : decode cX7_init 108 = .ok (.aload_n 0, 1) := by decide +kernel
theorem dX7_init_109 : decode cX7_init 109 = .ok (.bipush 10, 2) := by decide +kernel
theorem dX7_init_111 : decode cX7_init 111 = .ok (.newarray .int, 2) := by decide +kernel
theorem dX7_init_113 : decode cX7_init 113 = .ok (.putfield 49, 3) := by decide +kernel
theorem dX7_init_116 : decode cX7_init 116 = .ok (.aload_n 0, 1) := by decide +kernel
theorem dX7_init_117 : decode cX7_init 117 = .ok (.bipush 10, 2) := by decide +kernel
theorem dX7_init_119 : decode cX7_init 119 = .ok (.newarray .int, 2) := by decide +kernel
theorem dX7_init_121 : decode cX7_init 121 = .ok (.putfield 52, 3) := by decide +kernel
theorem dX7_init_124 : decode cX7_init 124 = .ok (.aload_n 0, 1) := by decide +kernel
theorem dX7_init_125 : decode cX7_init 125 = .ok (.bipush (-4), 2) := by decide +kernel
theorem dX7_init_127 : decode cX7_init 127 = .ok (.putfield 55, 3) := by decide +kernel
theorem dX7_init_130 : decode cX7_init 130 = .ok (.aload_n 0, 1) := by decide +kernel
theorem dX7_init_131 : decode cX7_init 131 = .ok (.sipush 183, 3) := by decide +kernel
theorem dX7_init_134 : decode cX7_init 134 = .ok (.newarray .int, 2) := by decide +kernel
theorem dX7_init_136 : decode cX7_init 136 = .ok (.putfield 59, 3) := by decide +kernel
theorem dX7_init_139 : decode cX7_init 139 = .ok (.aload_n 0, 1) := by decide +kernel
theorem dX7_init_140 : decode cX7_init 140 = .ok (.sipush 183, 3) := by decide +kernel
theorem dX7_init_143 : decode cX7_init 143 = .ok (.newarray .int, 2) := by decide +kernel
theorem dX7_init_145 : decode cX7_init 145 = .ok (.putfield 62, 3) := by decide +kernel
theorem dX7_init_148 : decode cX7_init 148 = .ok (.aload_n 0, 1) := by decide +kernel
theorem dX7_init_149 : decode cX7_init 149 = .ok (.sipush 183, 3) := by decide +kernel
theorem dX7_init_152 : decode cX7_init 152 = .ok (.newarray .int, 2) := by decide +kernel
theorem dX7_init_154 : decode cX7_init 154 = .ok (.putfield 65, 3) := by decide +kernel
theorem dX7_init_157 : decode cX7_init 157 = .ok (.aload_n 0, 1) := by decide +kernel
theorem dX7_init_158 : decode cX7_init 158 = .ok (.sipush 1000, 3) := by decide +kernel
theorem dX7_init_161 : decode cX7_init 161 = .ok (.newarray .int, 2) := by decide +kernel
theorem dX7_init_163 : decode cX7_init 163 = .ok (.putfield 68, 3) := by decide +kernel
theorem dX7_init_166 : decode cX7_init 166 = .ok (.aload_n 0, 1) := by decide +kernel
theorem dX7_init_167 : decode cX7_init 167 = .ok (.sipush 1000, 3) := by decide +kernel
theorem dX7_init_170 : decode cX7_init 170 = .ok (.newarray .int, 2) := by decide +kernel
