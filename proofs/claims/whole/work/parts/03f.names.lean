theorem dX7_deduce_75 : decode cX7_deduce 75 = .ok (.aload_n 0, 1) := by decide +kernel
theorem dX7_deduce_76 : decode cX7_deduce 76 = .ok (.getfield 155, 3) := by decide +kernel
theorem dX7_deduce_79 : decode cX7_deduce 79 = .ok (.bipush 60, 2) := by decide +kernel
theorem dX7_deduce_81 : decode cX7_deduce 81 = .ok (.if_icmp .ne (-51), 3) := by decide +kernel
theorem dX7_deduce_84 : decode cX7_deduce 84 = .ok (.aload_n 0, 1) := by decide +kernel
theorem dX7_deduce_85 : decode cX7_deduce 85 = .ok (.iconst 2, 1) := by decide +kernel
theorem dX7_deduce_86 : decode cX7_deduce 86 = .ok (.putfield 119, 3) := by decide +kernel
theorem dX7_deduce_89 : decode cX7_deduce 89 = .ok (.goto (-59), 3) := by decide +kernel
theorem dX7_deduce_92 : decode cX7_deduce 92 = .ok (.aload_n 0, 1) := by decide +kernel
theorem dX7_deduce_93 : decode cX7_deduce 93 = .ok (.getfield 119, 3) := by decide +kernel
theorem dX7_deduce_96 : decode cX7_deduce 96 = .ok (.ireturn, 1) := by decide +kernel
set_option maxRecDepth 20000 in
theorem ggX7_row_X7_isIn : GoodIn wsX7_row wsX7_isIn := goodIn_r _ [10] (by decide +kernel) (by decide +kernel)
set_option maxRecDepth 20000 in
theorem gX7_row_X7_isIn : GoodIn wsX7_row (va_wsS RX7 125 yX7_isIn wsX7_isIn) := goodIn_app (goodIn_of _ (by decide +kernel)) ggX7_row_X7_isIn
theorem dX7_row_0 : decode cX7_row 0 = .ok (.aload_n 0, 1) := by decide +kernel
theorem dX7_row_1 : decode cX7_row 1 = .ok (.iconst 0, 1) := by decide +kernel
theorem dX7_row_2 : decode cX7_row 2 = .ok (.putfield 122, 3) := by decide +kernel
theorem dX7_row_5 : decode cX7_row 5 = .ok (.iload_n 2, 1) := by decide +kernel
theorem dX7_row_6 : decode cX7_row 6 = .ok (.iconst 0, 1) := by decide +kernel
theorem dX7_row_7 : decode cX7_row 7 = .ok (.bipush 9, 2) := by decide +kernel
theorem dX7_row_9 : decode cX7_row 9 = .ok (.invokestatic 125, 3) := by decide +kernel
theorem dX7_row_12 : decode cX7_row 12 = .ok (.ifCond .ne 6, 3) := by decide +kernel
theorem dX7_row_15 : decode cX7_row 15 = .ok (.bipush (-9), 2) := by decide +kernel
theorem dX7_row_17 : decode cX7_row 17 = .ok (.ireturn, 1) := by decide +kernel
theorem dX7_row_18 : decode cX7_row 18 = .ok (.iload_n 1, 1) := by decide +kernel
theorem dX7_row_19 : decode cX7_row 19 = .ok (.iconst 0, 1) := by decide +kernel
theorem dX7_row_20 : decode cX7_row 20 = .ok (.aload_n 0, 1) := by decide +kernel
theorem dX7_row_21 : decode cX7_row 21 = .ok (.getfield 155, 3) := by decide +kernel
theorem dX7_row_24 : decode cX7_row 24 = .ok (.iconst 1, 1) := by decide +kernel
theorem dX7_row_25 : decode cX7_row 25 = .ok (.isub, 1) := by decide +kernel
theorem dX7_row_26 : decode cX7_row 26 = .ok (.invokestatic 125, 3) := by decide +kernel
theorem dX7_row_29 : decode cX7_row 29 = .ok (.ifCond .ne 6, 3) := by decide +kernel
theorem dX7_row_32 : decode cX7_row 32 = .ok (.bipush (-4), 2) := by decide +kernel
theorem dX7_row_34 : decode cX7_row 34 = .ok (.ireturn, 1) := by decide +kernel
theorem dX7_row_35 : decode cX7_row 35 = .ok (.iload_n 2, 1) := by decide +kernel
theorem dX7_row_36 : decode cX7_row 36 = .ok (.ifCond .ne 10, 3) := by decide +kernel
theorem dX7_row_39 : decode cX7_row 39 = .ok (.aload_n 0, 1) := by decide +kernel
theorem dX7_row_40 : decode cX7_row 40 = .ok (.getfield 74, 3) := by decide +kernel
theorem dX7_row_43 : decode cX7_row 43 = .ok (.iload_n 1, 1) := by decide +kernel
theorem dX7_row_44 : decode cX7_row 44 = .ok (.iaload, 1) := by decide +kernel
theorem dX7_row_45 : decode cX7_row 45 = .ok (.ireturn, 1) := by decide +kernel
theorem dX7_row_46 : decode cX7_row 46 = .ok (.iload_n 2, 1) := by decide +kernel
theorem dX7_row_47 : decode cX7_row 47 = .ok (.iconst 5, 1) := by decide +kernel
theorem dX7_row_48 : decode cX7_row 48 = .ok (.if_icmp .gt 16, 3) := by decide +kernel
theorem dX7_row_51 : decode cX7_row 51 = .ok (.aload_n 0, 1) := by decide +kernel
theorem dX7_row_52 : decode cX7_row 52 = .ok (.getfield 77, 3) := by decide +kernel
theorem dX7_row_55 : decode cX7_row 55 = .ok (.iconst 5, 1) := by decide +kernel
theorem dX7_row_56 : decode cX7_row 56 = .ok (.iload_n 1, 1) := by decide +kernel
theorem dX7_row_57 : decode cX7_row 57 = .ok (.imul, 1) := by decide +kernel
theorem dX7_row_58 : decode cX7_row 58 = .ok (.iload_n 2, 1) := by decide +kernel
theorem dX7_row_59 : decode cX7_row 59 = .ok (.iadd, 1) := by decide +kernel
theorem dX7_row_60 : decode cX7_row 60 = .ok (.iconst 1, 1) := by decide +kernel
theorem dX7_row_61 : decode cX7_row 61 = .ok (.isub, 1) := by decide +kernel
theorem dX7_row_62 : decode cX7_row 62 = .ok (.iaload, 1) := by decide +kernel
theorem dX7_row_63 : decode cX7_row 63 = .ok (.ireturn, 1) := by decide +kernel
theorem dX7_row_64 : decode cX7_row 64 = .ok (.iload_n 2, 1) := by decide +kernel
theorem dX7_row_65 : decode cX7_row 65 = .ok (.bipush 9, 2) := by decide +kernel
theorem dX7_row_67 : decode cX7_row 67 = .ok (.if_icmp .ne 10, 3) := by decide +kernel
theorem dX7_row_70 : decode cX7_row 70 = .ok (.aload_n 0, 1) := by decide +kernel
theorem dX7_row_71 : decode cX7_row 71 = .ok (.getfield 83, 3) := by decide +kernel
theorem dX7_row_74 : decode cX7_row 74 = .ok (.iload_n 1, 1) := by decide +kernel
theorem dX7_row_75 : decode cX7_row 75 = .ok (.iaload, 1) := by decide +kernel
theorem dX7_row_76 : decode cX7_row 76 = .ok (.ireturn, 1) := by decide +kernel
theorem dX7_row_77 : decode cX7_row 77 = .ok (.aload_n 0, 1) := by decide +kernel
theorem dX7_row_78 : decode cX7_row 78 = .ok (.getfield 80, 3) := by decide +kernel
theorem dX7_row_81 : decode cX7_row 81 = .ok (.iload_n 1, 1) := by decide +kernel
theorem dX7_row_82 : decode cX7_row 82 = .ok (.iaload, 1) := by decide +kernel
theorem dX7_row_83 : decode cX7_row 83 = .ok (.istore_n 3, 1) := by decide +kernel
theorem dX7_row_84 : decode cX7_row 84 = .ok (.aload_n 0, 1) := by decide +kernel
theorem dX7_row_85 : decode cX7_row 85 = .ok (.getfield 74, 3) := by decide +kernel
theorem dX7_row_88 : decode cX7_row 88 = .ok (.iload_n 1, 1) := by decide +kernel
theorem dX7_row_89 : decode cX7_row 89 = .ok (.iaload, 1) := by decide +kernel
theorem dX7_row_90 : decode cX7_row 90 = .ok (.iconst 1, 1) := by decide +kernel
theorem dX7_row_91 : decode cX7_row 91 = .ok (.if_icmp .ne 8, 3) := by decide +kernel
theorem dX7_row_94 : decode cX7_row 94 = .ok (.bipush (-4), 2) := by decide +kernel
theorem dX7_row_96 : decode cX7_row 96 = .ok (.goto 36, 3) := by decide +kernel
theorem dX7_row_99 : decode cX7_row 99 = .ok (.iload_n 2, 1) := by decide +kernel
theorem dX7_row_100 : decode cX7_row 100 = .ok (.bipush 6, 2) := by decide +kernel
theorem dX7_row_102 : decode cX7_row 102 = .ok (.if_icmp .ne 10, 3) := by decide +kernel
theorem dX7_row_105 : decode cX7_row 105 = .ok (.iload_n 3, 1) := by decide +kernel
theorem dX7_row_106 : decode cX7_row 106 = .ok (.bipush 100, 2) := by decide +kernel
theorem dX7_row_108 : decode cX7_row 108 = .ok (.idiv, 1) := by decide +kernel
theorem dX7_row_109 : decode cX7_row 109 = .ok (.goto 23, 3) := by decide +kernel
theorem dX7_row_112 : decode cX7_row 112 = .ok (.iload_n 2, 1) := by decide +kernel
theorem dX7_row_113 : decode cX7_row 113 = .ok (.bipush 7, 2) := by decide +kernel
theorem dX7_row_115 : decode cX7_row 115 = .ok (.if_icmp .ne 13, 3) := by decide +kernel
theorem dX7_row_118 : decode cX7_row 118 = .ok (.iload_n 3, 1) := by decide +kernel
theorem dX7_row_119 : decode cX7_row 119 = .ok (.bipush 10, 2) := by decide +kernel
theorem dX7_row_121 : decode cX7_row 121 = .ok (.idiv, 1) := by decide +kernel
theorem dX7_row_122 : decode cX7_row 122 = .ok (.bipush 10, 2) := by decide +kernel
theorem dX7_row_124 : decode cX7_row 124 = .ok (.irem, 1) := by decide +kernel
theorem dX7_row_125 : decode cX7_row 125 = .ok (.goto 7, 3) := by decide +kernel
theorem dX7_row_128 : decode cX7_row 128 = .ok (.iload_n 3, 1) := by decide +kernel
theorem dX7_row_129 : decode cX7_row 129 = .ok (.bipush 10, 2) := by decide +kernel
theorem dX7_row_131 : decode cX7_row 131 = .ok (.irem, 1) := by decide +kernel
theorem dX7_row_132 : decode cX7_row 132 = .ok (.ireturn, 1) := by decide +kernel
set_option maxRecDepth 20000 in
theorem ggX7_plant_X7_isIn : GoodIn wsX7_plant wsX7_isIn := goodIn_r _ [8] (by decide +kernel) (by decide +kernel)
set_option maxRecDepth 20000 in
theorem gX7_plant_X7_isIn : GoodIn wsX7_plant (va_wsS RX7 125 yX7_isIn wsX7_isIn) := goodIn_app (goodIn_of _ (by decide +kernel)) ggX7_plant_X7_isIn
theorem dX7_plant_0 : decode cX7_plant 0 = .ok (.aload_n 0, 1) := by decide +kernel
theorem dX7_plant_1 : decode cX7_plant 1 = .ok (.iconst 0, 1) := by decide +kernel
theorem dX7_plant_2 : decode cX7_plant 2 = .ok (.putfield 122, 3) := by decide +kernel
theorem dX7_plant_5 : decode cX7_plant 5 = .ok (.iload_n 2, 1) := by decide +kernel
theorem dX7_plant_6 : decode cX7_plant 6 = .ok (.iconst (-1), 1) := by decide +kernel
theorem dX7_plant_7 : decode cX7_plant 7 = .ok (.iconst 1, 1) := by decide +kernel
theorem dX7_plant_8 : decode cX7_plant 8 = .ok (.invokestatic 125, 3) := by decide +kernel
theorem dX7_plant_11 : decode cX7_plant 11 = .ok (.ifCond .ne 6, 3) := by decide +kernel
theorem dX7_plant_14 : decode cX7_plant 14 = .ok (.bipush (-9), 2) := by decide +kernel
theorem dX7_plant_16 : decode cX7_plant 16 = .ok (.ireturn, 1) := by decide +kernel
theorem dX7_plant_17 : decode cX7_plant 17 = .ok (.iload_n 1, 1) := by decide +kernel
theorem dX7_plant_18 : decode cX7_plant 18 = .ok (.iconst 0, 1) := by decide +kernel
theorem dX7_plant_19 : decode cX7_plant 19 = .ok (.aload_n 0, 1) := by decide +kernel
theorem dX7_plant_20 : decode cX7_plant 20 = .ok (.getfield 155, 3) := by decide +kernel
theorem dX7_plant_23 : decode cX7_plant 23 = .ok (.iconst 1, 1) := by decide +kernel
theorem dX7_plant_24 : decode cX7_plant 24 = .ok (.isub, 1) := by decide +kernel
theorem dX7_plant_25 : decode cX7_plant 25 = .ok (.invokestatic 125, 3) := by decide +kernel
theorem dX7_plant_28 : decode cX7_plant 28 = .ok (.ifCond .eq 13, 3) := by decide +kernel
theorem dX7_plant_31 : decode cX7_plant 31 = .ok (.aload_n 0, 1) := by decide +kernel
theorem dX7_plant_32 : decode cX7_plant 32 = .ok (.getfield 74, 3) := by decide +kernel
theorem dX7_plant_35 : decode cX7_plant 35 = .ok (.iload_n 1, 1) := by decide +kernel
theorem dX7_plant_36 : decode cX7_plant 36 = .ok (.iaload, 1) := by decide +kernel
theorem dX7_plant_37 : decode cX7_plant 37 = .ok (.iconst 1, 1) := by decide +kernel
theorem dX7_plant_38 : decode cX7_plant 38 = .ok (.if_icmp .ne 6, 3) := by decide +kernel
theorem dX7_plant_41 : decode cX7_plant 41 = .ok (.bipush (-4), 2) := by decide +kernel
theorem dX7_plant_43 : decode cX7_plant 43 = .ok (.ireturn, 1) := by decide +kernel
theorem dX7_plant_44 : decode cX7_plant 44 = .ok (.aload_n 0, 1) := by decide +kernel
theorem dX7_plant_45 : decode cX7_plant 45 = .ok (.getfield 83, 3) := by decide +kernel
theorem dX7_plant_48 : decode cX7_plant 48 = .ok (.iload_n 1, 1) := by decide +kernel
theorem dX7_plant_49 : decode cX7_plant 49 = .ok (.iaload, 1) := by decide +kernel
theorem dX7_plant_50 : decode cX7_plant 50 = .ok (.istore_n 3, 1) := by decide +kernel
theorem dX7_plant_51 : decode cX7_plant 51 = .ok (.aload_n 0, 1) := by decide +kernel
theorem dX7_plant_52 : decode cX7_plant 52 = .ok (.getfield 83, 3) := by decide +kernel
theorem dX7_plant_55 : decode cX7_plant 55 = .ok (.iload_n 1, 1) := by decide +kernel
theorem dX7_plant_56 : decode cX7_plant 56 = .ok (.iload_n 2, 1) := by decide +kernel
theorem dX7_plant_57 : decode cX7_plant 57 = .ok (.iastore, 1) := by decide +kernel
theorem dX7_plant_58 : decode cX7_plant 58 = .ok (.iload_n 3, 1) := by decide +kernel
theorem dX7_plant_59 : decode cX7_plant 59 = .ok (.ireturn, 1) := by decide +kernel
set_option maxRecDepth 20000 in
theorem ggX7_proof_X7_layTable : GoodIn wsX7_proof wsX7_layTable := goodIn_r _ [14, 15, 16, 17, 18, 19, 13, 20, 21, 22, 23, 24, 25, 26, 27, 28, 29, 30, 31, 32, 33, 34, 35, 36, 5, 7, 9, 77, 78, 79, 80, 81, 82, 83, 84, 85, 86, 87, 88, 89, 90, 91, 92, 93, 94, 95, 96, 97, 98, 99, 100, 101, 102, 103, 104, 105, 106, 107, 108, 109, 110, 111, 112, 113, 114, 115, 116, 117, 118, 119, 120, 121, 122, 123, 124, 125, 126, 127, 128, 129] (by decide +kernel) (by decide +kernel)
set_option maxRecDepth 20000 in
theorem gX7_proof_X7_layTable : GoodIn wsX7_proof (wsV RX7 270 RX7 yX7_layTable wsX7_layTable) := goodIn_app (goodIn_of _ (by decide +kernel)) ggX7_proof_X7_layTable
set_option maxRecDepth 20000 in
theorem ggX7_proof_X7_work : GoodIn wsX7_proof wsX7_work := goodIn_r _ [40, 4, 41, 42, 43, 44, 13, 45, 46, 47, 48, 49, 16, 50, 51, 52, 53, 54, 55, 56, 57, 58, 59, 60, 61, 62, 63, 6, 8, 77, 78, 79, 80, 81, 82, 83, 84, 85, 86, 87, 88, 89, 90, 91, 92, 93, 94, 95, 96, 97, 98, 99, 100, 101, 102, 103, 104, 105, 106, 107, 108, 109, 110, 111, 112, 113, 114, 115, 116, 117, 118, 119, 120, 121, 122, 123, 124, 125, 126, 127, 128, 129] (by decide +kernel) (by decide +kernel)
set_option maxRecDepth 20000 in
theorem gX7_proof_X7_work : GoodIn wsX7_proof (wsV RX7 264 RX7 yX7_work wsX7_work) := goodIn_app (goodIn_of _ (by decide +kernel)) ggX7_proof_X7_work
set_option maxRecDepth 20000 in
theorem ggX7_proof_X7_kindThen : GoodIn wsX7_proof wsX7_kindThen := goodIn_r _ [67, 4, 8, 6, 68, 69, 13, 70, 18, 19, 20, 71, 72, 73, 74, 75, 76, 77, 78, 79, 80, 81, 82, 83, 84, 85, 86, 87, 88, 89, 90, 91, 92, 93, 94, 95, 96, 97, 98, 99, 100, 101, 102, 103, 104, 105, 106, 107, 108, 109, 110, 111, 112, 113, 114, 115, 116, 117, 118, 119, 120, 121, 122, 123, 124, 125, 126, 127, 128, 129] (by decide +kernel) (by decide +kernel)
set_option maxRecDepth 20000 in
theorem gX7_proof_X7_kindThen : GoodIn wsX7_proof (wsV RX7 261 RX7 yX7_kindThen wsX7_kindThen) := goodIn_app (goodIn_of _ (by decide +kernel)) ggX7_proof_X7_kindThen
set_option maxRecDepth 20000 in
theorem ggX7_proof_X7_layRow : GoodIn wsX7_proof wsX7_layRow := goodIn_r _ [36, 5, 16, 7, 9, 77, 78, 79, 80, 81, 82, 83, 84, 85, 86, 87, 88, 89, 90, 91, 92, 93, 94, 95, 96, 97, 98, 99, 100, 101, 102, 103, 104, 105, 106, 107, 108, 109, 110, 111, 112, 113, 114, 115, 116, 117, 118, 119, 120, 121, 122, 123, 124, 125, 126, 127, 128, 129] (by decide +kernel) (by decide +kernel)
set_option maxRecDepth 20000 in
theorem gX7_proof_X7_layRow : GoodIn wsX7_proof (wsV RX7 229 RX7 yX7_layRow wsX7_layRow) := goodIn_app (goodIn_of _ (by decide +kernel)) ggX7_proof_X7_layRow
theorem dX7_proof_0 : decode cX7_proof 0 = .ok (.aload_n 0, 1) := by decide +kernel
theorem dX7_proof_1 : decode cX7_proof 1 = .ok (.iconst 0, 1) := by decide +kernel
theorem dX7_proof_2 : decode cX7_proof 2 = .ok (.putfield 122, 3) := by decide +kernel
theorem dX7_proof_5 : decode cX7_proof 5 = .ok (.aload_n 0, 1) := by decide +kernel
theorem dX7_proof_6 : decode cX7_proof 6 = .ok (.iconst 0, 1) := by decide +kernel
theorem dX7_proof_7 : decode cX7_proof 7 = .ok (.invokevirtual 270, 3) := by decide +kernel
theorem dX7_proof_10 : decode cX7_proof 10 = .ok (.iconst 1, 1) := by decide +kernel
theorem dX7_proof_11 : decode cX7_proof 11 = .ok (.istore_n 1, 1) := by decide +kernel
theorem dX7_proof_12 : decode cX7_proof 12 = .ok (.iconst 0, 1) := by decide +kernel
theorem dX7_proof_13 : decode cX7_proof 13 = .ok (.istore_n 2, 1) := by decide +kernel
theorem dX7_proof_14 : decode cX7_proof 14 = .ok (.iload_n 2, 1) := by decide +kernel
theorem dX7_proof_15 : decode cX7_proof 15 = .ok (.aload_n 0, 1) := by decide +kernel
theorem dX7_proof_16 : decode cX7_proof 16 = .ok (.getfield 155, 3) := by decide +kernel
theorem dX7_proof_19 : decode cX7_proof 19 = .ok (.if_icmp .ge 130, 3) := by decide +kernel
theorem dX7_proof_22 : decode cX7_proof 22 = .ok (.iload_n 1, 1) := by decide +kernel
theorem dX7_proof_23 : decode cX7_proof 23 = .ok (.ifCond .eq 126, 3) := by decide +kernel
theorem dX7_proof_26 : decode cX7_proof 26 = .ok (.aload_n 0, 1) := by decide +kernel
theorem dX7_proof_27 : decode cX7_proof 27 = .ok (.aload_n 0, 1) := by decide +kernel
theorem dX7_proof_28 : decode cX7_proof 28 = .ok (.getfield 77, 3) := by decide +kernel
theorem dX7_proof_31 : decode cX7_proof 31 = .ok (.iconst 5, 1) := by decide +kernel
theorem dX7_proof_32 : decode cX7_proof 32 = .ok (.iload_n 2, 1) := by decide +kernel
theorem dX7_proof_33 : decode cX7_proof 33 = .ok (.imul, 1) := by decide +kernel
theorem dX7_proof_34 : decode cX7_proof 34 = .ok (.iaload, 1) := by decide +kernel
theorem dX7_proof_35 : decode cX7_proof 35 = .ok (.aload_n 0, 1) := by decide +kernel
theorem dX7_proof_36 : decode cX7_proof 36 = .ok (.getfield 77, 3) := by decide +kernel
theorem dX7_proof_39 : decode cX7_proof 39 = .ok (.iconst 5, 1) := by decide +kernel
theorem dX7_proof_40 : decode cX7_proof 40 = .ok (.iload_n 2, 1) := by decide +kernel
theorem dX7_proof_41 : decode cX7_proof 41 = .ok (.imul, 1) := by decide +kernel
theorem dX7_proof_42 : decode cX7_proof 42 = .ok (.iconst 1, 1) := by decide +kernel
theorem dX7_proof_43 : decode cX7_proof 43 = .ok (.iadd, 1) := by decide +kernel
theorem dX7_proof_44 : decode cX7_proof 44 = .ok (.iaload, 1) := by decide +kernel
theorem dX7_proof_45 : decode cX7_proof 45 = .ok (.aload_n 0, 1) := by decide +kernel
theorem dX7_proof_46 : decode cX7_proof 46 = .ok (.getfield 77, 3) := by decide +kernel
theorem dX7_proof_49 : decode cX7_proof 49 = .ok (.iconst 5, 1) := by decide +kernel
theorem dX7_proof_50 : decode cX7_proof 50 = .ok (.iload_n 2, 1) := by decide +kernel
theorem dX7_proof_51 : decode cX7_proof 51 = .ok (.imul, 1) := by decide +kernel
theorem dX7_proof_52 : decode cX7_proof 52 = .ok (.iconst 2, 1) := by decide +kernel
theorem dX7_proof_53 : decode cX7_proof 53 = .ok (.iadd, 1) := by decide +kernel
theorem dX7_proof_54 : decode cX7_proof 54 = .ok (.iaload, 1) := by decide +kernel
theorem dX7_proof_55 : decode cX7_proof 55 = .ok (.aload_n 0, 1) := by decide +kernel
theorem dX7_proof_56 : decode cX7_proof 56 = .ok (.getfield 77, 3) := by decide +kernel
theorem dX7_proof_59 : decode cX7_proof 59 = .ok (.iconst 5, 1) := by decide +kernel
theorem dX7_proof_60 : decode cX7_proof 60 = .ok (.iload_n 2, 1) := by decide +kernel
theorem dX7_proof_61 : decode cX7_proof 61 = .ok (.imul, 1) := by decide +kernel
theorem dX7_proof_62 : decode cX7_proof 62 = .ok (.iconst 3, 1) := by decide +kernel
theorem dX7_proof_63 : decode cX7_proof 63 = .ok (.iadd, 1) := by decide +kernel
theorem dX7_proof_64 : decode cX7_proof 64 = .ok (.iaload, 1) := by decide +kernel
theorem dX7_proof_65 : decode cX7_proof 65 = .ok (.aload_n 0, 1) := by decide +kernel
theorem dX7_proof_66 : decode cX7_proof 66 = .ok (.getfield 77, 3) := by decide +kernel
theorem dX7_proof_69 : decode cX7_proof 69 = .ok (.iconst 5, 1) := by decide +kernel
theorem dX7_proof_70 : decode cX7_proof 70 = .ok (.iload_n 2, 1) := by decide +kernel
theorem dX7_proof_71 : decode cX7_proof 71 = .ok (.imul, 1) := by decide +kernel
theorem dX7_proof_72 : decode cX7_proof 72 = .ok (.iconst 4, 1) := by decide +kernel
theorem dX7_proof_73 : decode cX7_proof 73 = .ok (.iadd, 1) := by decide +kernel
theorem dX7_proof_74 : decode cX7_proof 74 = .ok (.iaload, 1) := by decide +kernel
theorem dX7_proof_75 : decode cX7_proof 75 = .ok (.invokevirtual 264, 3) := by decide +kernel
theorem dX7_proof_78 : decode cX7_proof 78 = .ok (.aload_n 0, 1) := by decide +kernel
theorem dX7_proof_79 : decode cX7_proof 79 = .ok (.getfield 238, 3) := by decide +kernel
theorem dX7_proof_82 : decode cX7_proof 82 = .ok (.ifCond .eq 54, 3) := by decide +kernel
theorem dX7_proof_85 : decode cX7_proof 85 = .ok (.aload_n 0, 1) := by decide +kernel
theorem dX7_proof_86 : decode cX7_proof 86 = .ok (.invokevirtual 261, 3) := by decide +kernel
theorem dX7_proof_89 : decode cX7_proof 89 = .ok (.aload_n 0, 1) := by decide +kernel
theorem dX7_proof_90 : decode cX7_proof 90 = .ok (.getfield 74, 3) := by decide +kernel
theorem dX7_proof_93 : decode cX7_proof 93 = .ok (.iload_n 2, 1) := by decide +kernel
theorem dX7_proof_94 : decode cX7_proof 94 = .ok (.iaload, 1) := by decide +kernel
theorem dX7_proof_95 : decode cX7_proof 95 = .ok (.if_icmp .ne 41, 3) := by decide +kernel
theorem dX7_proof_98 : decode cX7_proof 98 = .ok (.aload_n 0, 1) := by decide +kernel
theorem dX7_proof_99 : decode cX7_proof 99 = .ok (.getfield 238, 3) := by decide +kernel
theorem dX7_proof_102 : decode cX7_proof 102 = .ok (.iconst 1, 1) := by decide +kernel
theorem dX7_proof_103 : decode cX7_proof 103 = .ok (.if_icmp .eq 29, 3) := by decide +kernel
theorem dX7_proof_106 : decode cX7_proof 106 = .ok (.aload_n 0, 1) := by decide +kernel
theorem dX7_proof_107 : decode cX7_proof 107 = .ok (.getfield 252, 3) := by decide +kernel
theorem dX7_proof_110 : decode cX7_proof 110 = .ok (.aload_n 0, 1) := by decide +kernel
theorem dX7_proof_111 : decode cX7_proof 111 = .ok (.getfield 80, 3) := by decide +kernel
theorem dX7_proof_114 : decode cX7_proof 114 = .ok (.iload_n 2, 1) := by decide +kernel
theorem dX7_proof_115 : decode cX7_proof 115 = .ok (.iaload, 1) := by decide +kernel
theorem dX7_proof_116 : decode cX7_proof 116 = .ok (.if_icmp .ne 20, 3) := by decide +kernel
theorem dX7_proof_119 : decode cX7_proof 119 = .ok (.aload_n 0, 1) := by decide +kernel
theorem dX7_proof_120 : decode cX7_proof 120 = .ok (.getfield 255, 3) := by decide +kernel
theorem dX7_proof_123 : decode cX7_proof 123 = .ok (.aload_n 0, 1) := by decide +kernel
theorem dX7_proof_124 : decode cX7_proof 124 = .ok (.getfield 83, 3) := by decide +kernel
theorem dX7_proof_127 : decode cX7_proof 127 = .ok (.iload_n 2, 1) := by decide +kernel
theorem dX7_proof_128 : decode cX7_proof 128 = .ok (.iaload, 1) := by decide +kernel
theorem dX7_proof_129 : decode cX7_proof 129 = .ok (.if_icmp .ne 7, 3) := by decide +kernel
theorem dX7_proof_132 : decode cX7_proof 132 = .ok (.iconst 1, 1) := by decide +kernel
theorem dX7_proof_133 : decode cX7_proof 133 = .ok (.goto 4, 3) := by decide +kernel
theorem dX7_proof_136 : decode cX7_proof 136 = .ok (.iconst 0, 1) := by decide +kernel
theorem dX7_proof_137 : decode cX7_proof 137 = .ok (.istore_n 1, 1) := by decide +kernel
theorem dX7_proof_138 : decode cX7_proof 138 = .ok (.aload_n 0, 1) := by decide +kernel
theorem dX7_proof_139 : decode cX7_proof 139 = .ok (.iload_n 2, 1) := by decide +kernel
theorem dX7_proof_140 : decode cX7_proof 140 = .ok (.invokevirtual 229, 3) := by decide +kernel
theorem dX7_proof_143 : decode cX7_proof 143 = .ok (.iinc 2 1, 3) := by decide +kernel
theorem dX7_proof_146 : decode cX7_proof 146 = .ok (.goto (-132), 3) := by decide +kernel
theorem dX7_proof_149 : decode cX7_proof 149 = .ok (.iload_n 1, 1) := by decide +kernel
theorem dX7_proof_150 : decode cX7_proof 150 = .ok (.ifCond .eq 7, 3) := by decide +kernel
theorem dX7_proof_153 : decode cX7_proof 153 = .ok (.iconst 1, 1) := by decide +kernel
theorem dX7_proof_154 : decode cX7_proof 154 = .ok (.goto 4, 3) := by decide +kernel
theorem dX7_proof_157 : decode cX7_proof 157 = .ok (.iconst 0, 1) := by decide +kernel
theorem dX7_proof_158 : decode cX7_proof 158 = .ok (.ireturn, 1) := by decide +kernel
set_option maxRecDepth 20000 in
theorem ggX7_known_X7_isTriple : GoodIn wsX7_known wsX7_isTriple := goodIn_r _ [7, 8, 9, 10, 6, 11, 50, 51, 52, 53, 54, 55, 56, 57, 58, 59, 60, 61, 62, 63, 64, 65, 66, 67, 68, 69, 70, 71, 72, 73, 74, 75, 76, 77, 78, 79, 80, 81, 82, 83, 84, 85, 86, 87, 88, 89, 90, 91, 92, 93, 94, 95, 96, 97, 98, 99, 100, 101, 102] (by decide +kernel) (by decide +kernel)
set_option maxRecDepth 20000 in
theorem gX7_known_X7_isTriple : GoodIn wsX7_known (wsV RX7 168 RX7 yX7_isTriple wsX7_isTriple) := goodIn_app (goodIn_of _ (by decide +kernel)) ggX7_known_X7_isTriple
set_option maxRecDepth 20000 in
theorem ggX7_known_X7_layTable : GoodIn wsX7_known wsX7_layTable := goodIn_r _ [15, 8, 16, 17, 18, 19, 6, 20, 21, 22, 23, 24, 25, 26, 27, 28, 29, 30, 31, 32, 33, 34, 35, 36, 37, 38, 39, 50, 51, 52, 53, 54, 55, 56, 57, 58, 59, 60, 61, 62, 63, 64, 65, 66, 67, 68, 69, 70, 71, 72, 73, 74, 75, 76, 77, 78, 79, 80, 81, 82, 83, 84, 85, 86, 87, 88, 89, 90, 91, 92, 93, 94, 95, 96, 97, 98, 99, 100, 101, 102] (by decide +kernel) (by decide +kernel)
set_option maxRecDepth 20000 in
theorem gX7_known_X7_layTable : GoodIn wsX7_known (wsV RX7 270 RX7 yX7_layTable wsX7_layTable) := goodIn_app (goodIn_of _ (by decide +kernel)) ggX7_known_X7_layTable
set_option maxRecDepth 20000 in
theorem ggX7_known_X7_signOf : GoodIn wsX7_known wsX7_signOf := goodIn_r _ [43, 16, 44, 45, 6, 46, 47, 48, 49, 50, 51, 52, 53, 54, 55, 56, 57, 58, 59, 60, 61, 62, 63, 64, 65, 66, 67, 68, 69, 70, 71, 72, 73, 74, 75, 76, 77, 78, 79, 80, 81, 82, 83, 84, 85, 86, 87, 88, 89, 90, 91, 92, 93, 94, 95, 96, 97, 98, 99, 100, 101, 102] (by decide +kernel) (by decide +kernel)
set_option maxRecDepth 20000 in
theorem gX7_known_X7_signOf : GoodIn wsX7_known (wsV RX7 235 RX7 yX7_signOf wsX7_signOf) := goodIn_app (goodIn_of _ (by decide +kernel)) ggX7_known_X7_signOf
theorem dX7_known_0 : decode cX7_known 0 = .ok (.aload_n 0, 1) := by decide +kernel
theorem dX7_known_1 : decode cX7_known 1 = .ok (.iconst 0, 1) := by decide +kernel
theorem dX7_known_2 : decode cX7_known 2 = .ok (.putfield 122, 3) := by decide +kernel
theorem dX7_known_5 : decode cX7_known 5 = .ok (.aload_n 0, 1) := by decide +kernel
theorem dX7_known_6 : decode cX7_known 6 = .ok (.iload_n 1, 1) := by decide +kernel
theorem dX7_known_7 : decode cX7_known 7 = .ok (.iload_n 2, 1) := by decide +kernel
theorem dX7_known_8 : decode cX7_known 8 = .ok (.iload_n 3, 1) := by decide +kernel
theorem dX7_known_9 : decode cX7_known 9 = .ok (.invokevirtual 168, 3) := by decide +kernel
theorem dX7_known_12 : decode cX7_known 12 = .ok (.ifCond .ne 6, 3) := by decide +kernel
theorem dX7_known_15 : decode cX7_known 15 = .ok (.bipush (-9), 2) := by decide +kernel
theorem dX7_known_17 : decode cX7_known 17 = .ok (.ireturn, 1) := by decide +kernel
theorem dX7_known_18 : decode cX7_known 18 = .ok (.aload_n 0, 1) := by decide +kernel
theorem dX7_known_19 : decode cX7_known 19 = .ok (.aload_n 0, 1) := by decide +kernel
theorem dX7_known_20 : decode cX7_known 20 = .ok (.getfield 155, 3) := by decide +kernel
theorem dX7_known_23 : decode cX7_known 23 = .ok (.invokevirtual 270, 3) := by decide +kernel
theorem dX7_known_26 : decode cX7_known 26 = .ok (.aload_n 0, 1) := by decide +kernel
theorem dX7_known_27 : decode cX7_known 27 = .ok (.iload_n 1, 1) := by decide +kernel
theorem dX7_known_28 : decode cX7_known 28 = .ok (.iload_n 2, 1) := by decide +kernel
theorem dX7_known_29 : decode cX7_known 29 = .ok (.iload_n 3, 1) := by decide +kernel
theorem dX7_known_30 : decode cX7_known 30 = .ok (.invokevirtual 235, 3) := by decide +kernel
theorem dX7_known_33 : decode cX7_known 33 = .ok (.istore 4, 2) := by decide +kernel
theorem dX7_known_35 : decode cX7_known 35 = .ok (.iload 4, 2) := by decide +kernel
theorem dX7_known_37 : decode cX7_known 37 = .ok (.bipush 9, 2) := by decide +kernel
theorem dX7_known_39 : decode cX7_known 39 = .ok (.if_icmp .ne 8, 3) := by decide +kernel
theorem dX7_known_42 : decode cX7_known 42 = .ok (.bipush (-4), 2) := by decide +kernel
theorem dX7_known_44 : decode cX7_known 44 = .ok (.goto 5, 3) := by decide +kernel
theorem dX7_known_47 : decode cX7_known 47 = .ok (.iload 4, 2) := by decide +kernel
theorem dX7_known_49 : decode cX7_known 49 = .ok (.ireturn, 1) := by decide +kernel
set_option maxRecDepth 20000 in
theorem ggX7_certificate_X7_isIn : GoodIn wsX7_certificate wsX7_isIn := goodIn_r _ [8] (by decide +kernel) (by decide +kernel)
set_option maxRecDepth 20000 in
theorem gX7_certificate_X7_isIn : GoodIn wsX7_certificate (va_wsS RX7 125 yX7_isIn wsX7_isIn) := goodIn_app (goodIn_of _ (by decide +kernel)) ggX7_certificate_X7_isIn
set_option maxRecDepth 20000 in
theorem ggX7_certificate_X7_layTable : GoodIn wsX7_certificate wsX7_layTable := goodIn_r _ [12, 13, 14, 15, 16, 17, 7, 18, 19, 20, 21, 22, 23, 24, 25, 26, 27, 28, 29, 30, 31, 32, 33, 34, 35, 36, 37, 56, 57, 58, 59, 60, 61, 62, 63, 64, 65, 66, 67, 68, 69, 70, 71, 72, 73, 74, 75, 76, 77, 78, 79, 80, 81, 82, 83, 84, 85, 86, 87, 88, 89, 90, 91, 92, 93, 94, 95, 96, 97, 98, 99, 100, 101, 102, 103, 104, 105, 106, 107, 108] (by decide +kernel) (by decide +kernel)
set_option maxRecDepth 20000 in
theorem gX7_certificate_X7_layTable : GoodIn wsX7_certificate (wsV RX7 270 RX7 yX7_layTable wsX7_layTable) := goodIn_app (goodIn_of _ (by decide +kernel)) ggX7_certificate_X7_layTable
set_option maxRecDepth 20000 in
theorem ggX7_certificate_X7_laySix : GoodIn wsX7_certificate wsX7_laySix := goodIn_r _ [41, 4, 42, 43, 44, 7, 45, 14, 46, 47, 48, 49, 50, 51, 56, 57, 58, 59, 60, 61, 62, 63, 64, 65, 66, 67, 68, 69, 70, 71, 72, 73, 74, 75, 76, 77, 78, 79, 80, 81, 82, 83, 84, 85, 86, 87, 88, 89, 90, 91, 92, 93, 94, 95, 96, 97, 98, 99, 100, 101, 102, 103, 104, 105, 106, 107, 108] (by decide +kernel) (by decide +kernel)
set_option maxRecDepth 20000 in
theorem gX7_certificate_X7_laySix : GoodIn wsX7_certificate (wsV RX7 241 RX7 yX7_laySix wsX7_laySix) := goodIn_app (goodIn_of _ (by decide +kernel)) ggX7_certificate_X7_laySix
set_option maxRecDepth 20000 in
theorem ggX7_certificate_X7_term : GoodIn wsX7_certificate wsX7_term := goodIn_r _ [55, 4, 56, 57, 58, 59, 60, 61, 62, 63, 64, 65, 66, 67, 68, 69, 70, 71, 72, 73, 74, 75, 76, 77, 78, 79, 80, 81, 82, 83, 84, 85, 86, 87, 88, 89, 90, 91, 92, 93, 94, 95, 96, 97, 98, 99, 100, 101, 102, 103, 104, 105, 106, 107, 108] (by decide +kernel) (by decide +kernel)
set_option maxRecDepth 20000 in
theorem gX7_certificate_X7_term : GoodIn wsX7_certificate (wsV RX7 245 RX7 yX7_term wsX7_term) := goodIn_app (goodIn_of _ (by decide +kernel)) ggX7_certificate_X7_term
theorem dX7_certificate_0 : decode cX7_certificate 0 = .ok (.aload_n 0, 1) := by decide +kernel
theorem dX7_certificate_1 : decode cX7_certificate 1 = .ok (.iconst 0, 1) := by decide +kernel
theorem dX7_certificate_2 : decode cX7_certificate 2 = .ok (.putfield 122, 3) := by decide +kernel
theorem dX7_certificate_5 : decode cX7_certificate 5 = .ok (.iload_n 1, 1) := by decide +kernel
theorem dX7_certificate_6 : decode cX7_certificate 6 = .ok (.iconst 0, 1) := by decide +kernel
theorem dX7_certificate_7 : decode cX7_certificate 7 = .ok (.iconst 2, 1) := by decide +kernel
theorem dX7_certificate_8 : decode cX7_certificate 8 = .ok (.invokestatic 125, 3) := by decide +kernel
theorem dX7_certificate_11 : decode cX7_certificate 11 = .ok (.ifCond .eq 12, 3) := by decide +kernel
theorem dX7_certificate_14 : decode cX7_certificate 14 = .ok (.iload_n 2, 1) := by decide +kernel
theorem dX7_certificate_15 : decode cX7_certificate 15 = .ok (.iconst 0, 1) := by decide +kernel
theorem dX7_certificate_16 : decode cX7_certificate 16 = .ok (.iconst 2, 1) := by decide +kernel
theorem dX7_certificate_17 : decode cX7_certificate 17 = .ok (.invokestatic 125, 3) := by decide +kernel
theorem dX7_certificate_20 : decode cX7_certificate 20 = .ok (.ifCond .ne 6, 3) := by decide +kernel
theorem dX7_certificate_23 : decode cX7_certificate 23 = .ok (.bipush (-9), 2) := by decide +kernel
theorem dX7_certificate_25 : decode cX7_certificate 25 = .ok (.ireturn, 1) := by decide +kernel
theorem dX7_certificate_26 : decode cX7_certificate 26 = .ok (.aload_n 0, 1) := by decide +kernel
theorem dX7_certificate_27 : decode cX7_certificate 27 = .ok (.getfield 155, 3) := by decide +kernel
theorem dX7_certificate_30 : decode cX7_certificate 30 = .ok (.ifCond .ne 6, 3) := by decide +kernel
theorem dX7_certificate_33 : decode cX7_certificate 33 = .ok (.bipush (-2), 2) := by decide +kernel
theorem dX7_certificate_35 : decode cX7_certificate 35 = .ok (.ireturn, 1) := by decide +kernel
theorem dX7_certificate_36 : decode cX7_certificate 36 = .ok (.aload_n 0, 1) := by decide +kernel
theorem dX7_certificate_37 : decode cX7_certificate 37 = .ok (.aload_n 0, 1) := by decide +kernel
theorem dX7_certificate_38 : decode cX7_certificate 38 = .ok (.getfield 155, 3) := by decide +kernel
theorem dX7_certificate_41 : decode cX7_certificate 41 = .ok (.invokevirtual 270, 3) := by decide +kernel
theorem dX7_certificate_44 : decode cX7_certificate 44 = .ok (.iconst 5, 1) := by decide +kernel
theorem dX7_certificate_45 : decode cX7_certificate 45 = .ok (.aload_n 0, 1) := by decide +kernel
theorem dX7_certificate_46 : decode cX7_certificate 46 = .ok (.getfield 155, 3) := by decide +kernel
theorem dX7_certificate_49 : decode cX7_certificate 49 = .ok (.iconst 1, 1) := by decide +kernel
theorem dX7_certificate_50 : decode cX7_certificate 50 = .ok (.isub, 1) := by decide +kernel
theorem dX7_certificate_51 : decode cX7_certificate 51 = .ok (.imul, 1) := by decide +kernel
theorem dX7_certificate_52 : decode cX7_certificate 52 = .ok (.istore_n 3, 1) := by decide +kernel
theorem dX7_certificate_53 : decode cX7_certificate 53 = .ok (.aload_n 0, 1) := by decide +kernel
theorem dX7_certificate_54 : decode cX7_certificate 54 = .ok (.aload_n 0, 1) := by decide +kernel
theorem dX7_certificate_55 : decode cX7_certificate 55 = .ok (.getfield 77, 3) := by decide +kernel
theorem dX7_certificate_58 : decode cX7_certificate 58 = .ok (.iload_n 3, 1) := by decide +kernel
theorem dX7_certificate_59 : decode cX7_certificate 59 = .ok (.iaload, 1) := by decide +kernel
theorem dX7_certificate_60 : decode cX7_certificate 60 = .ok (.aload_n 0, 1) := by decide +kernel
theorem dX7_certificate_61 : decode cX7_certificate 61 = .ok (.getfield 77, 3) := by decide +kernel
theorem dX7_certificate_64 : decode cX7_certificate 64 = .ok (.iload_n 3, 1) := by decide +kernel
theorem dX7_certificate_65 : decode cX7_certificate 65 = .ok (.iconst 1, 1) := by decide +kernel
theorem dX7_certificate_66 : decode cX7_certificate 66 = .ok (.iadd, 1) := by decide +kernel
theorem dX7_certificate_67 : decode cX7_certificate 67 = .ok (.iaload, 1) := by decide +kernel
theorem dX7_certificate_68 : decode cX7_certificate 68 = .ok (.aload_n 0, 1) := by decide +kernel
theorem dX7_certificate_69 : decode cX7_certificate 69 = .ok (.getfield 77, 3) := by decide +kernel
theorem dX7_certificate_72 : decode cX7_certificate 72 = .ok (.iload_n 3, 1) := by decide +kernel
theorem dX7_certificate_73 : decode cX7_certificate 73 = .ok (.iconst 2, 1) := by decide +kernel
theorem dX7_certificate_74 : decode cX7_certificate 74 = .ok (.iadd, 1) := by decide +kernel
theorem dX7_certificate_75 : decode cX7_certificate 75 = .ok (.iaload, 1) := by decide +kernel
theorem dX7_certificate_76 : decode cX7_certificate 76 = .ok (.aload_n 0, 1) := by decide +kernel
theorem dX7_certificate_77 : decode cX7_certificate 77 = .ok (.getfield 77, 3) := by decide +kernel
theorem dX7_certificate_80 : decode cX7_certificate 80 = .ok (.iload_n 3, 1) := by decide +kernel
theorem dX7_certificate_81 : decode cX7_certificate 81 = .ok (.iconst 3, 1) := by decide +kernel
theorem dX7_certificate_82 : decode cX7_certificate 82 = .ok (.iadd, 1) := by decide +kernel
theorem dX7_certificate_83 : decode cX7_certificate 83 = .ok (.iaload, 1) := by decide +kernel
theorem dX7_certificate_84 : decode cX7_certificate 84 = .ok (.aload_n 0, 1) := by decide +kernel
theorem dX7_certificate_85 : decode cX7_certificate 85 = .ok (.getfield 77, 3) := by decide +kernel
theorem dX7_certificate_88 : decode cX7_certificate 88 = .ok (.iload_n 3, 1) := by decide +kernel
theorem dX7_certificate_89 : decode cX7_certificate 89 = .ok (.iconst 4, 1) := by decide +kernel
theorem dX7_certificate_90 : decode cX7_certificate 90 = .ok (.iadd, 1) := by decide +kernel
theorem dX7_certificate_91 : decode cX7_certificate 91 = .ok (.iaload, 1) := by decide +kernel
theorem dX7_certificate_92 : decode cX7_certificate 92 = .ok (.invokevirtual 241, 3) := by decide +kernel
theorem dX7_certificate_95 : decode cX7_certificate 95 = .ok (.iload_n 2, 1) := by decide +kernel
theorem dX7_certificate_96 : decode cX7_certificate 96 = .ok (.iconst 2, 1) := by decide +kernel
theorem dX7_certificate_97 : decode cX7_certificate 97 = .ok (.if_icmp .ge 34, 3) := by decide +kernel
theorem dX7_certificate_100 : decode cX7_certificate 100 = .ok (.aload_n 0, 1) := by decide +kernel
theorem dX7_certificate_101 : decode cX7_certificate 101 = .ok (.getfield 86, 3) := by decide +kernel
theorem dX7_certificate_104 : decode cX7_certificate 104 = .ok (.iconst 2, 1) := by decide +kernel
theorem dX7_certificate_105 : decode cX7_certificate 105 = .ok (.iload_n 1, 1) := by decide +kernel
theorem dX7_certificate_106 : decode cX7_certificate 106 = .ok (.imul, 1) := by decide +kernel
theorem dX7_certificate_107 : decode cX7_certificate 107 = .ok (.iload_n 2, 1) := by decide +kernel
theorem dX7_certificate_108 : decode cX7_certificate 108 = .ok (.iadd, 1) := by decide +kernel
theorem dX7_certificate_109 : decode cX7_certificate 109 = .ok (.iaload, 1) := by decide +kernel
theorem dX7_certificate_110 : decode cX7_certificate 110 = .ok (.bipush 9, 2) := by decide +kernel
theorem dX7_certificate_112 : decode cX7_certificate 112 = .ok (.if_icmp .ne 8, 3) := by decide +kernel
theorem dX7_certificate_115 : decode cX7_certificate 115 = .ok (.bipush (-4), 2) := by decide +kernel
theorem dX7_certificate_117 : decode cX7_certificate 117 = .ok (.goto 13, 3) := by decide +kernel
theorem dX7_certificate_120 : decode cX7_certificate 120 = .ok (.aload_n 0, 1) := by decide +kernel
theorem dX7_certificate_121 : decode cX7_certificate 121 = .ok (.getfield 86, 3) := by decide +kernel
theorem dX7_certificate_124 : decode cX7_certificate 124 = .ok (.iconst 2, 1) := by decide +kernel
theorem dX7_certificate_125 : decode cX7_certificate 125 = .ok (.iload_n 1, 1) := by decide +kernel
theorem dX7_certificate_126 : decode cX7_certificate 126 = .ok (.imul, 1) := by decide +kernel
theorem dX7_certificate_127 : decode cX7_certificate 127 = .ok (.iload_n 2, 1) := by decide +kernel
theorem dX7_certificate_128 : decode cX7_certificate 128 = .ok (.iadd, 1) := by decide +kernel
theorem dX7_certificate_129 : decode cX7_certificate 129 = .ok (.iaload, 1) := by decide +kernel
theorem dX7_certificate_130 : decode cX7_certificate 130 = .ok (.ireturn, 1) := by decide +kernel
theorem dX7_certificate_131 : decode cX7_certificate 131 = .ok (.aload_n 0, 1) := by decide +kernel
theorem dX7_certificate_132 : decode cX7_certificate 132 = .ok (.getfield 86, 3) := by decide +kernel
theorem dX7_certificate_135 : decode cX7_certificate 135 = .ok (.iconst 2, 1) := by decide +kernel
theorem dX7_certificate_136 : decode cX7_certificate 136 = .ok (.iload_n 1, 1) := by decide +kernel
theorem dX7_certificate_137 : decode cX7_certificate 137 = .ok (.imul, 1) := by decide +kernel
theorem dX7_certificate_138 : decode cX7_certificate 138 = .ok (.iaload, 1) := by decide +kernel
theorem dX7_certificate_139 : decode cX7_certificate 139 = .ok (.bipush 9, 2) := by decide +kernel
theorem dX7_certificate_141 : decode cX7_certificate 141 = .ok (.if_icmp .eq 18, 3) := by decide +kernel
theorem dX7_certificate_144 : decode cX7_certificate 144 = .ok (.aload_n 0, 1) := by decide +kernel
theorem dX7_certificate_145 : decode cX7_certificate 145 = .ok (.getfield 86, 3) := by decide +kernel
theorem dX7_certificate_148 : decode cX7_certificate 148 = .ok (.iconst 2, 1) := by decide +kernel
theorem dX7_certificate_149 : decode cX7_certificate 149 = .ok (.iload_n 1, 1) := by decide +kernel
theorem dX7_certificate_150 : decode cX7_certificate 150 = .ok (.imul, 1) := by decide +kernel
theorem dX7_certificate_151 : decode cX7_certificate 151 = .ok (.iconst 1, 1) := by decide +kernel
theorem dX7_certificate_152 : decode cX7_certificate 152 = .ok (.iadd, 1) := by decide +kernel
theorem dX7_certificate_153 : decode cX7_certificate 153 = .ok (.iaload, 1) := by decide +kernel
theorem dX7_certificate_154 : decode cX7_certificate 154 = .ok (.bipush 9, 2) := by decide +kernel
theorem dX7_certificate_156 : decode cX7_certificate 156 = .ok (.if_icmp .ne 8, 3) := by decide +kernel
theorem dX7_certificate_159 : decode cX7_certificate 159 = .ok (.bipush (-4), 2) := by decide +kernel
theorem dX7_certificate_161 : decode cX7_certificate 161 = .ok (.goto 8, 3) := by decide +kernel
theorem dX7_certificate_164 : decode cX7_certificate 164 = .ok (.aload_n 0, 1) := by decide +kernel
theorem dX7_certificate_165 : decode cX7_certificate 165 = .ok (.iload_n 1, 1) := by decide +kernel
theorem dX7_certificate_166 : decode cX7_certificate 166 = .ok (.invokevirtual 245, 3) := by decide +kernel
theorem dX7_certificate_169 : decode cX7_certificate 169 = .ok (.ireturn, 1) := by decide +kernel
theorem dX7_factorial_0 : decode cX7_factorial 0 = .ok (.iconst 1, 1) := by decide +kernel
theorem dX7_factorial_1 : decode cX7_factorial 1 = .ok (.istore_n 1, 1) := by decide +kernel
theorem dX7_factorial_2 : decode cX7_factorial 2 = .ok (.iconst 2, 1) := by decide +kernel
theorem dX7_factorial_3 : decode cX7_factorial 3 = .ok (.istore_n 2, 1) := by decide +kernel
theorem dX7_factorial_4 : decode cX7_factorial 4 = .ok (.iload_n 2, 1) := by decide +kernel
theorem dX7_factorial_5 : decode cX7_factorial 5 = .ok (.iload_n 0, 1) := by decide +kernel
theorem dX7_factorial_6 : decode cX7_factorial 6 = .ok (.if_icmp .gt 13, 3) := by decide +kernel
theorem dX7_factorial_9 : decode cX7_factorial 9 = .ok (.iload_n 1, 1) := by decide +kernel
theorem dX7_factorial_10 : decode cX7_factorial 10 = .ok (.iload_n 2, 1) := by decide +kernel
theorem dX7_factorial_11 : decode cX7_factorial 11 = .ok (.imul, 1) := by decide +kernel
theorem dX7_factorial_12 : decode cX7_factorial 12 = .ok (.istore_n 1, 1) := by decide +kernel
theorem dX7_factorial_13 : decode cX7_factorial 13 = .ok (.iinc 2 1, 3) := by decide +kernel
theorem dX7_factorial_16 : decode cX7_factorial 16 = .ok (.goto (-12), 3) := by decide +kernel
theorem dX7_factorial_19 : decode cX7_factorial 19 = .ok (.iload_n 1, 1) := by decide +kernel
theorem dX7_factorial_20 : decode cX7_factorial 20 = .ok (.ireturn, 1) := by decide +kernel
set_option maxRecDepth 20000 in
theorem ggX7_layNames_X7_factorial : GoodIn wsX7_layNames wsX7_factorial := goodIn_r _ [6] (by decide +kernel) (by decide +kernel)
set_option maxRecDepth 20000 in
theorem gX7_layNames_X7_factorial : GoodIn wsX7_layNames (va_wsS RX7 277 yX7_factorial wsX7_factorial) := goodIn_app (goodIn_of _ (by decide +kernel)) ggX7_layNames_X7_factorial
theorem dX7_layNames_0 : decode cX7_layNames 0 = .ok (.iload_n 2, 1) := by decide +kernel
theorem dX7_layNames_1 : decode cX7_layNames 1 = .ok (.istore_n 3, 1) := by decide +kernel
theorem dX7_layNames_2 : decode cX7_layNames 2 = .ok (.iconst 0, 1) := by decide +kernel
theorem dX7_layNames_3 : decode cX7_layNames 3 = .ok (.istore 4, 2) := by decide +kernel
theorem dX7_layNames_5 : decode cX7_layNames 5 = .ok (.iload 4, 2) := by decide +kernel
theorem dX7_layNames_7 : decode cX7_layNames 7 = .ok (.iload_n 1, 1) := by decide +kernel
theorem dX7_layNames_8 : decode cX7_layNames 8 = .ok (.if_icmp .ge 18, 3) := by decide +kernel
theorem dX7_layNames_11 : decode cX7_layNames 11 = .ok (.aload_n 0, 1) := by decide +kernel
theorem dX7_layNames_12 : decode cX7_layNames 12 = .ok (.getfield 95, 3) := by decide +kernel
theorem dX7_layNames_15 : decode cX7_layNames 15 = .ok (.iload 4, 2) := by decide +kernel
theorem dX7_layNames_17 : decode cX7_layNames 17 = .ok (.iload 4, 2) := by decide +kernel
theorem dX7_layNames_19 : decode cX7_layNames 19 = .ok (.iastore, 1) := by decide +kernel
theorem dX7_layNames_20 : decode cX7_layNames 20 = .ok (.iinc 4 1, 3) := by decide +kernel
theorem dX7_layNames_23 : decode cX7_layNames 23 = .ok (.goto (-18), 3) := by decide +kernel
theorem dX7_layNames_26 : decode cX7_layNames 26 = .ok (.iconst 0, 1) := by decide +kernel
theorem dX7_layNames_27 : decode cX7_layNames 27 = .ok (.istore 4, 2) := by decide +kernel
theorem dX7_layNames_29 : decode cX7_layNames 29 = .ok (.iload 4, 2) := by decide +kernel
theorem dX7_layNames_31 : decode cX7_layNames 31 = .ok (.iload_n 1, 1) := by decide +kernel
theorem dX7_layNames_32 : decode cX7_layNames 32 = .ok (.if_icmp .ge 82, 3) := by decide +kernel
theorem dX7_layNames_35 : decode cX7_layNames 35 = .ok (.iload_n 1, 1) := by decide +kernel
theorem dX7_layNames_36 : decode cX7_layNames 36 = .ok (.iconst 1, 1) := by decide +kernel
theorem dX7_layNames_37 : decode cX7_layNames 37 = .ok (.isub, 1) := by decide +kernel
theorem dX7_layNames_38 : decode cX7_layNames 38 = .ok (.iload 4, 2) := by decide +kernel
theorem dX7_layNames_40 : decode cX7_layNames 40 = .ok (.isub, 1) := by decide +kernel
theorem dX7_layNames_41 : decode cX7_layNames 41 = .ok (.invokestatic 277, 3) := by decide +kernel
theorem dX7_layNames_44 : decode cX7_layNames 44 = .ok (.istore 5, 2) := by decide +kernel
theorem dX7_layNames_46 : decode cX7_layNames 46 = .ok (.iload_n 3, 1) := by decide +kernel
theorem dX7_layNames_47 : decode cX7_layNames 47 = .ok (.iload 5, 2) := by decide +kernel
theorem dX7_layNames_49 : decode cX7_layNames 49 = .ok (.idiv, 1) := by decide +kernel
theorem dX7_layNames_50 : decode cX7_layNames 50 = .ok (.istore 6, 2) := by decide +kernel
theorem dX7_layNames_52 : decode cX7_layNames 52 = .ok (.iload_n 3, 1) := by decide +kernel
theorem dX7_layNames_53 : decode cX7_layNames 53 = .ok (.iload 5, 2) := by decide +kernel
theorem dX7_layNames_55 : decode cX7_layNames 55 = .ok (.irem, 1) := by decide +kernel
theorem dX7_layNames_56 : decode cX7_layNames 56 = .ok (.istore_n 3, 1) := by decide +kernel
theorem dX7_layNames_57 : decode cX7_layNames 57 = .ok (.aload_n 0, 1) := by decide +kernel
theorem dX7_layNames_58 : decode cX7_layNames 58 = .ok (.getfield 89, 3) := by decide +kernel
theorem dX7_layNames_61 : decode cX7_layNames 61 = .ok (.iload 4, 2) := by decide +kernel
theorem dX7_layNames_63 : decode cX7_layNames 63 = .ok (.aload_n 0, 1) := by decide +kernel
theorem dX7_layNames_64 : decode cX7_layNames 64 = .ok (.getfield 95, 3) := by decide +kernel
theorem dX7_layNames_67 : decode cX7_layNames 67 = .ok (.iload 6, 2) := by decide +kernel
theorem dX7_layNames_69 : decode cX7_layNames 69 = .ok (.iaload, 1) := by decide +kernel
theorem dX7_layNames_70 : decode cX7_layNames 70 = .ok (.iastore, 1) := by decide +kernel
theorem dX7_layNames_71 : decode cX7_layNames 71 = .ok (.iload 6, 2) := by decide +kernel
theorem dX7_layNames_73 : decode cX7_layNames 73 = .ok (.iconst 1, 1) := by decide +kernel
theorem dX7_layNames_74 : decode cX7_layNames 74 = .ok (.iadd, 1) := by decide +kernel
theorem dX7_layNames_75 : decode cX7_layNames 75 = .ok (.istore 7, 2) := by decide +kernel
theorem dX7_layNames_77 : decode cX7_layNames 77 = .ok (.iload 7, 2) := by decide +kernel
theorem dX7_layNames_79 : decode cX7_layNames 79 = .ok (.iload_n 1, 1) := by decide +kernel
theorem dX7_layNames_80 : decode cX7_layNames 80 = .ok (.iload 4, 2) := by decide +kernel
theorem dX7_layNames_82 : decode cX7_layNames 82 = .ok (.isub, 1) := by decide +kernel
theorem dX7_layNames_83 : decode cX7_layNames 83 = .ok (.if_icmp .ge 25, 3) := by decide +kernel
theorem dX7_layNames_86 : decode cX7_layNames 86 = .ok (.aload_n 0, 1) := by decide +kernel
theorem dX7_layNames_87 : decode cX7_layNames 87 = .ok (.getfield 95, 3) := by decide +kernel
theorem dX7_layNames_90 : decode cX7_layNames 90 = .ok (.iload 7, 2) := by decide +kernel
theorem dX7_layNames_92 : decode cX7_layNames 92 = .ok (.iconst 1, 1) := by decide +kernel
theorem dX7_layNames_93 : decode cX7_layNames 93 = .ok (.isub, 1) := by decide +kernel
theorem dX7_layNames_94 : decode cX7_layNames 94 = .ok (.aload_n 0, 1) := by decide +kernel
theorem dX7_layNames_95 : decode cX7_layNames 95 = .ok (.getfield 95, 3) := by decide +kernel
theorem dX7_layNames_98 : decode cX7_layNames 98 = .ok (.iload 7, 2) := by decide +kernel
theorem dX7_layNames_100 : decode cX7_layNames 100 = .ok (.iaload, 1) := by decide +kernel
theorem dX7_layNames_101 : decode cX7_layNames 101 = .ok (.iastore, 1) := by decide +kernel
theorem dX7_layNames_102 : decode cX7_layNames 102 = .ok (.iinc 7 1, 3) := by decide +kernel
theorem dX7_layNames_105 : decode cX7_layNames 105 = .ok (.goto (-28), 3) := by decide +kernel
theorem dX7_layNames_108 : decode cX7_layNames 108 = .ok (.iinc 4 1, 3) := by decide +kernel
theorem dX7_layNames_111 : decode cX7_layNames 111 = .ok (.goto (-82), 3) := by decide +kernel
theorem dX7_layNames_114 : decode cX7_layNames 114 = .ok (.return_, 1) := by decide +kernel
theorem dX7_renamed_0 : decode cX7_renamed 0 = .ok (.iconst 0, 1) := by decide +kernel
theorem dX7_renamed_1 : decode cX7_renamed 1 = .ok (.istore_n 3, 1) := by decide +kernel
theorem dX7_renamed_2 : decode cX7_renamed 2 = .ok (.iconst 0, 1) := by decide +kernel
theorem dX7_renamed_3 : decode cX7_renamed 3 = .ok (.istore 4, 2) := by decide +kernel
theorem dX7_renamed_5 : decode cX7_renamed 5 = .ok (.iload 4, 2) := by decide +kernel
theorem dX7_renamed_7 : decode cX7_renamed 7 = .ok (.iload_n 2, 1) := by decide +kernel
theorem dX7_renamed_8 : decode cX7_renamed 8 = .ok (.if_icmp .ge 26, 3) := by decide +kernel
theorem dX7_renamed_11 : decode cX7_renamed 11 = .ok (.iload_n 3, 1) := by decide +kernel
theorem dX7_renamed_12 : decode cX7_renamed 12 = .ok (.iload_n 1, 1) := by decide +kernel
theorem dX7_renamed_13 : decode cX7_renamed 13 = .ok (.iload 4, 2) := by decide +kernel
theorem dX7_renamed_15 : decode cX7_renamed 15 = .ok (.ishr, 1) := by decide +kernel
theorem dX7_renamed_16 : decode cX7_renamed 16 = .ok (.iconst 1, 1) := by decide +kernel
theorem dX7_renamed_17 : decode cX7_renamed 17 = .ok (.iand, 1) := by decide +kernel
theorem dX7_renamed_18 : decode cX7_renamed 18 = .ok (.aload_n 0, 1) := by decide +kernel
theorem dX7_renamed_19 : decode cX7_renamed 19 = .ok (.getfield 89, 3) := by decide +kernel
theorem dX7_renamed_22 : decode cX7_renamed 22 = .ok (.iload 4, 2) := by decide +kernel
theorem dX7_renamed_24 : decode cX7_renamed 24 = .ok (.iaload, 1) := by decide +kernel
theorem dX7_renamed_25 : decode cX7_renamed 25 = .ok (.ishl, 1) := by decide +kernel
theorem dX7_renamed_26 : decode cX7_renamed 26 = .ok (.ior, 1) := by decide +kernel
theorem dX7_renamed_27 : decode cX7_renamed 27 = .ok (.istore_n 3, 1) := by decide +kernel
theorem dX7_renamed_28 : decode cX7_renamed 28 = .ok (.iinc 4 1, 3) := by decide +kernel
theorem dX7_renamed_31 : decode cX7_renamed 31 = .ok (.goto (-26), 3) := by decide +kernel
theorem dX7_renamed_34 : decode cX7_renamed 34 = .ok (.iload_n 3, 1) := by decide +kernel
theorem dX7_renamed_35 : decode cX7_renamed 35 = .ok (.ireturn, 1) := by decide +kernel
theorem dX7_sortForm_0 : decode cX7_sortForm 0 = .ok (.iconst 1, 1) := by decide +kernel
theorem dX7_sortForm_1 : decode cX7_sortForm 1 = .ok (.istore_n 2, 1) := by decide +kernel
theorem dX7_sortForm_2 : decode cX7_sortForm 2 = .ok (.iload_n 2, 1) := by decide +kernel
theorem dX7_sortForm_3 : decode cX7_sortForm 3 = .ok (.iload_n 1, 1) := by decide +kernel
theorem dX7_sortForm_4 : decode cX7_sortForm 4 = .ok (.if_icmp .ge 67, 3) := by decide +kernel
theorem dX7_sortForm_7 : decode cX7_sortForm 7 = .ok (.aload_n 0, 1) := by decide +kernel
theorem dX7_sortForm_8 : decode cX7_sortForm 8 = .ok (.getfield 98, 3) := by decide +kernel
theorem dX7_sortForm_11 : decode cX7_sortForm 11 = .ok (.iload_n 2, 1) := by decide +kernel
theorem dX7_sortForm_12 : decode cX7_sortForm 12 = .ok (.iaload, 1) := by decide +kernel
theorem dX7_sortForm_13 : decode cX7_sortForm 13 = .ok (.istore_n 3, 1) := by decide +kernel
theorem dX7_sortForm_14 : decode cX7_sortForm 14 = .ok (.iload_n 2, 1) := by decide +kernel
theorem dX7_sortForm_15 : decode cX7_sortForm 15 = .ok (.istore 4, 2) := by decide +kernel
theorem dX7_sortForm_17 : decode cX7_sortForm 17 = .ok (.iload 4, 2) := by decide +kernel
theorem dX7_sortForm_19 : decode cX7_sortForm 19 = .ok (.ifCond .le 38, 3) := by decide +kernel
theorem dX7_sortForm_22 : decode cX7_sortForm 22 = .ok (.aload_n 0, 1) := by decide +kernel
theorem dX7_sortForm_23 : decode cX7_sortForm 23 = .ok (.getfield 98, 3) := by decide +kernel
theorem dX7_sortForm_26 : decode cX7_sortForm 26 = .ok (.iload 4, 2) := by decide +kernel
theorem dX7_sortForm_28 : decode cX7_sortForm 28 = .ok (.iconst 1, 1) := by decide +kernel
theorem dX7_sortForm_29 : decode cX7_sortForm 29 = .ok (.isub, 1) := by decide +kernel
theorem dX7_sortForm_30 : decode cX7_sortForm 30 = .ok (.iaload, 1) := by decide +kernel
theorem dX7_sortForm_31 : decode cX7_sortForm 31 = .ok (.iload_n 3, 1) := by decide +kernel
theorem dX7_sortForm_32 : decode cX7_sortForm 32 = .ok (.if_icmp .le 25, 3) := by decide +kernel
theorem dX7_sortForm_35 : decode cX7_sortForm 35 = .ok (.aload_n 0, 1) := by decide +kernel
theorem dX7_sortForm_36 : decode cX7_sortForm 36 = .ok (.getfield 98, 3) := by decide +kernel
theorem dX7_sortForm_39 : decode cX7_sortForm 39 = .ok (.iload 4, 2) := by decide +kernel
theorem dX7_sortForm_41 : decode cX7_sortForm 41 = .ok (.aload_n 0, 1) := by decide +kernel
theorem dX7_sortForm_42 : decode cX7_sortForm 42 = .ok (.getfield 98, 3) := by decide +kernel
theorem dX7_sortForm_45 : decode cX7_sortForm 45 = .ok (.iload 4, 2) := by decide +kernel
theorem dX7_sortForm_47 : decode cX7_sortForm 47 = .ok (.iconst 1, 1) := by decide +kernel
theorem dX7_sortForm_48 : decode cX7_sortForm 48 = .ok (.isub, 1) := by decide +kernel
theorem dX7_sortForm_49 : decode cX7_sortForm 49 = .ok (.iaload, 1) := by decide +kernel
theorem dX7_sortForm_50 : decode cX7_sortForm 50 = .ok (.iastore, 1) := by decide +kernel
theorem dX7_sortForm_51 : decode cX7_sortForm 51 = .ok (.iinc 4 (-1), 3) := by decide +kernel
theorem dX7_sortForm_54 : decode cX7_sortForm 54 = .ok (.goto (-37), 3) := by decide +kernel
theorem dX7_sortForm_57 : decode cX7_sortForm 57 = .ok (.aload_n 0, 1) := by decide +kernel
theorem dX7_sortForm_58 : decode cX7_sortForm 58 = .ok (.getfield 98, 3) := by decide +kernel
theorem dX7_sortForm_61 : decode cX7_sortForm 61 = .ok (.iload 4, 2) := by decide +kernel
theorem dX7_sortForm_63 : decode cX7_sortForm 63 = .ok (.iload_n 3, 1) := by decide +kernel
theorem dX7_sortForm_64 : decode cX7_sortForm 64 = .ok (.iastore, 1) := by decide +kernel
theorem dX7_sortForm_65 : decode cX7_sortForm 65 = .ok (.iinc 2 1, 3) := by decide +kernel
theorem dX7_sortForm_68 : decode cX7_sortForm 68 = .ok (.goto (-66), 3) := by decide +kernel
theorem dX7_sortForm_71 : decode cX7_sortForm 71 = .ok (.return_, 1) := by decide +kernel
theorem dX7_compareForm_0 : decode cX7_compareForm 0 = .ok (.iconst 0, 1) := by decide +kernel
theorem dX7_compareForm_1 : decode cX7_compareForm 1 = .ok (.istore_n 3, 1) := by decide +kernel
theorem dX7_compareForm_2 : decode cX7_compareForm 2 = .ok (.iconst 0, 1) := by decide +kernel
theorem dX7_compareForm_3 : decode cX7_compareForm 3 = .ok (.istore 4, 2) := by decide +kernel
theorem dX7_compareForm_5 : decode cX7_compareForm 5 = .ok (.iload 4, 2) := by decide +kernel
theorem dX7_compareForm_7 : decode cX7_compareForm 7 = .ok (.iload_n 2, 1) := by decide +kernel
theorem dX7_compareForm_8 : decode cX7_compareForm 8 = .ok (.if_icmp .ge 51, 3) := by decide +kernel
theorem dX7_compareForm_11 : decode cX7_compareForm 11 = .ok (.iload_n 3, 1) := by decide +kernel
theorem dX7_compareForm_12 : decode cX7_compareForm 12 = .ok (.ifCond .ne 47, 3) := by decide +kernel
theorem dX7_compareForm_15 : decode cX7_compareForm 15 = .ok (.aload_n 0, 1) := by decide +kernel
theorem dX7_compareForm_16 : decode cX7_compareForm 16 = .ok (.getfield 98, 3) := by decide +kernel
theorem dX7_compareForm_19 : decode cX7_compareForm 19 = .ok (.iload 4, 2) := by decide +kernel
theorem dX7_compareForm_21 : decode cX7_compareForm 21 = .ok (.iaload, 1) := by decide +kernel
theorem dX7_compareForm_22 : decode cX7_compareForm 22 = .ok (.aload_n 1, 1) := by decide +kernel
theorem dX7_compareForm_23 : decode cX7_compareForm 23 = .ok (.iload 4, 2) := by decide +kernel
theorem dX7_compareForm_25 : decode cX7_compareForm 25 = .ok (.iaload, 1) := by decide +kernel
theorem dX7_compareForm_26 : decode cX7_compareForm 26 = .ok (.if_icmp .ge 7, 3) := by decide +kernel
theorem dX7_compareForm_29 : decode cX7_compareForm 29 = .ok (.iconst (-1), 1) := by decide +kernel
theorem dX7_compareForm_30 : decode cX7_compareForm 30 = .ok (.goto 22, 3) := by decide +kernel
theorem dX7_compareForm_33 : decode cX7_compareForm 33 = .ok (.aload_n 0, 1) := by decide +kernel
theorem dX7_compareForm_34 : decode cX7_compareForm 34 = .ok (.getfield 98, 3) := by decide +kernel
theorem dX7_compareForm_37 : decode cX7_compareForm 37 = .ok (.iload 4, 2) := by decide +kernel
theorem dX7_compareForm_39 : decode cX7_compareForm 39 = .ok (.iaload, 1) := by decide +kernel
theorem dX7_compareForm_40 : decode cX7_compareForm 40 = .ok (.aload_n 1, 1) := by decide +kernel
theorem dX7_compareForm_41 : decode cX7_compareForm 41 = .ok (.iload 4, 2) := by decide +kernel
theorem dX7_compareForm_43 : decode cX7_compareForm 43 = .ok (.iaload, 1) := by decide +kernel
theorem dX7_compareForm_44 : decode cX7_compareForm 44 = .ok (.if_icmp .le 7, 3) := by decide +kernel
theorem dX7_compareForm_47 : decode cX7_compareForm 47 = .ok (.iconst 1, 1) := by decide +kernel
theorem dX7_compareForm_48 : decode cX7_compareForm 48 = .ok (.goto 4, 3) := by decide +kernel
theorem dX7_compareForm_51 : decode cX7_compareForm 51 = .ok (.iconst 0, 1) := by decide +kernel
theorem dX7_compareForm_52 : decode cX7_compareForm 52 = .ok (.istore_n 3, 1) := by decide +kernel
theorem dX7_compareForm_53 : decode cX7_compareForm 53 = .ok (.iinc 4 1, 3) := by decide +kernel
theorem dX7_compareForm_56 : decode cX7_compareForm 56 = .ok (.goto (-51), 3) := by decide +kernel
theorem dX7_compareForm_59 : decode cX7_compareForm 59 = .ok (.iload_n 3, 1) := by decide +kernel
theorem dX7_compareForm_60 : decode cX7_compareForm 60 = .ok (.ireturn, 1) := by decide +kernel
theorem dX7_orderOf_0 : decode cX7_orderOf 0 = .ok (.iconst 0, 1) := by decide +kernel
theorem dX7_orderOf_1 : decode cX7_orderOf 1 = .ok (.istore_n 2, 1) := by decide +kernel
theorem dX7_orderOf_2 : decode cX7_orderOf 2 = .ok (.iload_n 2, 1) := by decide +kernel
theorem dX7_orderOf_3 : decode cX7_orderOf 3 = .ok (.iload_n 1, 1) := by decide +kernel
theorem dX7_orderOf_4 : decode cX7_orderOf 4 = .ok (.if_icmp .ge 21, 3) := by decide +kernel
theorem dX7_orderOf_7 : decode cX7_orderOf 7 = .ok (.aload_n 0, 1) := by decide +kernel
theorem dX7_orderOf_8 : decode cX7_orderOf 8 = .ok (.getfield 92, 3) := by decide +kernel
theorem dX7_orderOf_11 : decode cX7_orderOf 11 = .ok (.iload_n 2, 1) := by decide +kernel
theorem dX7_orderOf_12 : decode cX7_orderOf 12 = .ok (.aload_n 0, 1) := by decide +kernel
theorem dX7_orderOf_13 : decode cX7_orderOf 13 = .ok (.getfield 89, 3) := by decide +kernel
theorem dX7_orderOf_16 : decode cX7_orderOf 16 = .ok (.iload_n 2, 1) := by decide +kernel
theorem dX7_orderOf_17 : decode cX7_orderOf 17 = .ok (.iaload, 1) := by decide +kernel
theorem dX7_orderOf_18 : decode cX7_orderOf 18 = .ok (.iastore, 1) := by decide +kernel
theorem dX7_orderOf_19 : decode cX7_orderOf 19 = .ok (.iinc 2 1, 3) := by decide +kernel
theorem dX7_orderOf_22 : decode cX7_orderOf 22 = .ok (.goto (-20), 3) := by decide +kernel
theorem dX7_orderOf_25 : decode cX7_orderOf 25 = .ok (.iconst 1, 1) := by decide +kernel
theorem dX7_orderOf_26 : decode cX7_orderOf 26 = .ok (.istore_n 2, 1) := by decide +kernel
theorem dX7_orderOf_27 : decode cX7_orderOf 27 = .ok (.iconst 0, 1) := by decide +kernel
theorem dX7_orderOf_28 : decode cX7_orderOf 28 = .ok (.istore_n 3, 1) := by decide +kernel
theorem dX7_orderOf_29 : decode cX7_orderOf 29 = .ok (.iload_n 3, 1) := by decide +kernel
theorem dX7_orderOf_30 : decode cX7_orderOf 30 = .ok (.ifCond .ne 84, 3) := by decide +kernel
theorem dX7_orderOf_33 : decode cX7_orderOf 33 = .ok (.iconst 1, 1) := by decide +kernel
theorem dX7_orderOf_34 : decode cX7_orderOf 34 = .ok (.istore_n 3, 1) := by decide +kernel
theorem dX7_orderOf_35 : decode cX7_orderOf 35 = .ok (.iconst 0, 1) := by decide +kernel
theorem dX7_orderOf_36 : decode cX7_orderOf 36 = .ok (.istore 4, 2) := by decide +kernel
theorem dX7_orderOf_38 : decode cX7_orderOf 38 = .ok (.iload 4, 2) := by decide +kernel
theorem dX7_orderOf_40 : decode cX7_orderOf 40 = .ok (.iload_n 1, 1) := by decide +kernel
theorem dX7_orderOf_41 : decode cX7_orderOf 41 = .ok (.if_icmp .ge 29, 3) := by decide +kernel
theorem dX7_orderOf_44 : decode cX7_orderOf 44 = .ok (.iload_n 3, 1) := by decide +kernel
theorem dX7_orderOf_45 : decode cX7_orderOf 45 = .ok (.aload_n 0, 1) := by decide +kernel
theorem dX7_orderOf_46 : decode cX7_orderOf 46 = .ok (.getfield 92, 3) := by decide +kernel
theorem dX7_orderOf_49 : decode cX7_orderOf 49 = .ok (.iload 4, 2) := by decide +kernel
theorem dX7_orderOf_51 : decode cX7_orderOf 51 = .ok (.iaload, 1) := by decide +kernel
theorem dX7_orderOf_52 : decode cX7_orderOf 52 = .ok (.iload 4, 2) := by decide +kernel
theorem dX7_orderOf_54 : decode cX7_orderOf 54 = .ok (.if_icmp .ne 7, 3) := by decide +kernel
theorem dX7_orderOf_57 : decode cX7_orderOf 57 = .ok (.iconst 1, 1) := by decide +kernel
theorem dX7_orderOf_58 : decode cX7_orderOf 58 = .ok (.goto 4, 3) := by decide +kernel
theorem dX7_orderOf_61 : decode cX7_orderOf 61 = .ok (.iconst 0, 1) := by decide +kernel
theorem dX7_orderOf_62 : decode cX7_orderOf 62 = .ok (.iand, 1) := by decide +kernel
theorem dX7_orderOf_63 : decode cX7_orderOf 63 = .ok (.istore_n 3, 1) := by decide +kernel
theorem dX7_orderOf_64 : decode cX7_orderOf 64 = .ok (.iinc 4 1, 3) := by decide +kernel
theorem dX7_orderOf_67 : decode cX7_orderOf 67 = .ok (.goto (-29), 3) := by decide +kernel
theorem dX7_orderOf_70 : decode cX7_orderOf 70 = .ok (.iload_n 3, 1) := by decide +kernel
theorem dX7_orderOf_71 : decode cX7_orderOf 71 = .ok (.ifCond .ne (-42), 3) := by decide +kernel
theorem dX7_orderOf_74 : decode cX7_orderOf 74 = .ok (.iinc 2 1, 3) := by decide +kernel
theorem dX7_orderOf_77 : decode cX7_orderOf 77 = .ok (.iconst 0, 1) := by decide +kernel
theorem dX7_orderOf_78 : decode cX7_orderOf 78 = .ok (.istore 4, 2) := by decide +kernel
theorem dX7_orderOf_80 : decode cX7_orderOf 80 = .ok (.iload 4, 2) := by decide +kernel
theorem dX7_orderOf_82 : decode cX7_orderOf 82 = .ok (.iload_n 1, 1) := by decide +kernel
theorem dX7_orderOf_83 : decode cX7_orderOf 83 = .ok (.if_icmp .ge 28, 3) := by decide +kernel
theorem dX7_orderOf_86 : decode cX7_orderOf 86 = .ok (.aload_n 0, 1) := by decide +kernel
theorem dX7_orderOf_87 : decode cX7_orderOf 87 = .ok (.getfield 92, 3) := by decide +kernel
theorem dX7_orderOf_90 : decode cX7_orderOf 90 = .ok (.iload 4, 2) := by decide +kernel
theorem dX7_orderOf_92 : decode cX7_orderOf 92 = .ok (.aload_n 0, 1) := by decide +kernel
theorem dX7_orderOf_93 : decode cX7_orderOf 93 = .ok (.getfield 89, 3) := by decide +kernel
theorem dX7_orderOf_96 : decode cX7_orderOf 96 = .ok (.aload_n 0, 1) := by decide +kernel
theorem dX7_orderOf_97 : decode cX7_orderOf 97 = .ok (.getfield 92, 3) := by decide +kernel
theorem dX7_orderOf_100 : decode cX7_orderOf 100 = .ok (.iload 4, 2) := by decide +kernel
theorem dX7_orderOf_102 : decode cX7_orderOf 102 = .ok (.iaload, 1) := by decide +kernel
theorem dX7_orderOf_103 : decode cX7_orderOf 103 = .ok (.iaload, 1) := by decide +kernel
theorem dX7_orderOf_104 : decode cX7_orderOf 104 = .ok (.iastore, 1) := by decide +kernel
theorem dX7_orderOf_105 : decode cX7_orderOf 105 = .ok (.iinc 4 1, 3) := by decide +kernel
theorem dX7_orderOf_108 : decode cX7_orderOf 108 = .ok (.goto (-28), 3) := by decide +kernel
theorem dX7_orderOf_111 : decode cX7_orderOf 111 = .ok (.goto (-82), 3) := by decide +kernel
theorem dX7_orderOf_114 : decode cX7_orderOf 114 = .ok (.iload_n 2, 1) := by decide +kernel
theorem dX7_orderOf_115 : decode cX7_orderOf 115 = .ok (.ireturn, 1) := by decide +kernel
set_option maxRecDepth 20000 in
theorem ggX7_nameAll_X7_sortForm : GoodIn wsX7_nameAll wsX7_sortForm := goodIn_r _ [13, 3, 36, 37, 38, 39, 40, 41, 42, 43, 44, 45, 46, 47, 48, 49, 50, 51, 52, 53, 54, 55, 56, 57, 58, 59, 60, 61, 62, 63, 64, 65, 66, 67, 68, 69, 70, 71, 72, 73, 74, 75, 76, 77, 78, 79, 80, 81, 82, 83, 84, 85, 86, 87, 88] (by decide +kernel) (by decide +kernel)
set_option maxRecDepth 20000 in
theorem gX7_nameAll_X7_sortForm : GoodIn wsX7_nameAll (wsV RX7 280 RX7 yX7_sortForm wsX7_sortForm) := goodIn_app (goodIn_of _ (by decide +kernel)) ggX7_nameAll_X7_sortForm
set_option maxRecDepth 20000 in
theorem ggX7_nameAll_X7_factorial : GoodIn wsX7_nameAll wsX7_factorial := goodIn_r _ [16] (by decide +kernel) (by decide +kernel)
set_option maxRecDepth 20000 in
theorem gX7_nameAll_X7_factorial : GoodIn wsX7_nameAll (va_wsS RX7 277 yX7_factorial wsX7_factorial) := goodIn_app (goodIn_of _ (by decide +kernel)) ggX7_nameAll_X7_factorial
set_option maxRecDepth 20000 in
theorem ggX7_nameAll_X7_layNames : GoodIn wsX7_nameAll wsX7_layNames := goodIn_r _ [20, 21, 22, 14, 15, 12, 16, 36, 37, 38, 39, 40, 41, 42, 43, 44, 45, 46, 47, 48, 49, 50, 51, 52, 53, 54, 55, 56, 57, 58, 59, 60, 61, 62, 63, 64, 65, 66, 67, 68, 69, 70, 71, 72, 73, 74, 75, 76, 77, 78, 79, 80, 81, 82, 83, 84, 85, 86, 87, 88] (by decide +kernel) (by decide +kernel)
set_option maxRecDepth 20000 in
theorem gX7_nameAll_X7_layNames : GoodIn wsX7_nameAll (wsV RX7 283 RX7 yX7_layNames wsX7_layNames) := goodIn_app (goodIn_of _ (by decide +kernel)) ggX7_nameAll_X7_layNames
set_option maxRecDepth 20000 in
theorem ggX7_nameAll_X7_renamed : GoodIn wsX7_nameAll wsX7_renamed := goodIn_r _ [26, 22, 36, 37, 38, 39, 40, 41, 42, 43, 44, 45, 46, 47, 48, 49, 50, 51, 52, 53, 54, 55, 56, 57, 58, 59, 60, 61, 62, 63, 64, 65, 66, 67, 68, 69, 70, 71, 72, 73, 74, 75, 76, 77, 78, 79, 80, 81, 82, 83, 84, 85, 86, 87, 88] (by decide +kernel) (by decide +kernel)
set_option maxRecDepth 20000 in
theorem gX7_nameAll_X7_renamed : GoodIn wsX7_nameAll (wsV RX7 287 RX7 yX7_renamed wsX7_renamed) := goodIn_app (goodIn_of _ (by decide +kernel)) ggX7_nameAll_X7_renamed
set_option maxRecDepth 20000 in
theorem ggX7_nameAll_X7_compareForm : GoodIn wsX7_nameAll wsX7_compareForm := goodIn_r _ [30, 3, 36, 37, 38, 39, 40, 41, 42, 43, 44, 45, 46, 47, 48, 49, 50, 51, 52, 53, 54, 55, 56, 57, 58, 59, 60, 61, 62, 63, 64, 65, 66, 67, 68, 69, 70, 71, 72, 73, 74, 75, 76, 77, 78, 79, 80, 81, 82, 83, 84, 85, 86, 87, 88] (by decide +kernel) (by decide +kernel)
set_option maxRecDepth 20000 in
theorem gX7_nameAll_X7_compareForm : GoodIn wsX7_nameAll (wsV RX7 290 RX7 yX7_compareForm wsX7_compareForm) := goodIn_app (goodIn_of _ (by decide +kernel)) ggX7_nameAll_X7_compareForm
set_option maxRecDepth 20000 in
theorem ggX7_nameAll_X7_orderOf : GoodIn wsX7_nameAll wsX7_orderOf := goodIn_r _ [34, 35, 22, 36, 37, 38, 39, 40, 41, 42, 43, 44, 45, 46, 47, 48, 49, 50, 51, 52, 53, 54, 55, 56, 57, 58, 59, 60, 61, 62, 63, 64, 65, 66, 67, 68, 69, 70, 71, 72, 73, 74, 75, 76, 77, 78, 79, 80, 81, 82, 83, 84, 85, 86, 87, 88] (by decide +kernel) (by decide +kernel)
set_option maxRecDepth 20000 in
theorem gX7_nameAll_X7_orderOf : GoodIn wsX7_nameAll (wsV RX7 294 RX7 yX7_orderOf wsX7_orderOf) := goodIn_app (goodIn_of _ (by decide +kernel)) ggX7_nameAll_X7_orderOf
theorem dX7_nameAll_0 : decode cX7_nameAll 0 = .ok (.iconst 0, 1) := by decide +kernel
theorem dX7_nameAll_1 : decode cX7_nameAll 1 = .ok (.istore_n 1, 1) := by decide +kernel
theorem dX7_nameAll_2 : decode cX7_nameAll 2 = .ok (.iload_n 1, 1) := by decide +kernel
theorem dX7_nameAll_3 : decode cX7_nameAll 3 = .ok (.bipush 13, 2) := by decide +kernel
theorem dX7_nameAll_5 : decode cX7_nameAll 5 = .ok (.if_icmp .ge 16, 3) := by decide +kernel
theorem dX7_nameAll_8 : decode cX7_nameAll 8 = .ok (.aload_n 0, 1) := by decide +kernel
theorem dX7_nameAll_9 : decode cX7_nameAll 9 = .ok (.getfield 107, 3) := by decide +kernel
theorem dX7_nameAll_12 : decode cX7_nameAll 12 = .ok (.iload_n 1, 1) := by decide +kernel
theorem dX7_nameAll_13 : decode cX7_nameAll 13 = .ok (.iconst 0, 1) := by decide +kernel
theorem dX7_nameAll_14 : decode cX7_nameAll 14 = .ok (.iastore, 1) := by decide +kernel
theorem dX7_nameAll_15 : decode cX7_nameAll 15 = .ok (.iinc 1 1, 3) := by decide +kernel
theorem dX7_nameAll_18 : decode cX7_nameAll 18 = .ok (.goto (-16), 3) := by decide +kernel
theorem dX7_nameAll_21 : decode cX7_nameAll 21 = .ok (.iconst 0, 1) := by decide +kernel
theorem dX7_nameAll_22 : decode cX7_nameAll 22 = .ok (.istore_n 1, 1) := by decide +kernel
theorem dX7_nameAll_23 : decode cX7_nameAll 23 = .ok (.iload_n 1, 1) := by decide +kernel
theorem dX7_nameAll_24 : decode cX7_nameAll 24 = .ok (.aload_n 0, 1) := by decide +kernel
theorem dX7_nameAll_25 : decode cX7_nameAll 25 = .ok (.getfield 146, 3) := by decide +kernel
theorem dX7_nameAll_28 : decode cX7_nameAll 28 = .ok (.if_icmp .ge 21, 3) := by decide +kernel
theorem dX7_nameAll_31 : decode cX7_nameAll 31 = .ok (.aload_n 0, 1) := by decide +kernel
theorem dX7_nameAll_32 : decode cX7_nameAll 32 = .ok (.getfield 98, 3) := by decide +kernel
theorem dX7_nameAll_35 : decode cX7_nameAll 35 = .ok (.iload_n 1, 1) := by decide +kernel
theorem dX7_nameAll_36 : decode cX7_nameAll 36 = .ok (.aload_n 0, 1) := by decide +kernel
theorem dX7_nameAll_37 : decode cX7_nameAll 37 = .ok (.getfield 25, 3) := by decide +kernel
theorem dX7_nameAll_40 : decode cX7_nameAll 40 = .ok (.iload_n 1, 1) := by decide +kernel
theorem dX7_nameAll_41 : decode cX7_nameAll 41 = .ok (.iaload, 1) := by decide +kernel
theorem dX7_nameAll_42 : decode cX7_nameAll 42 = .ok (.iastore, 1) := by decide +kernel
theorem dX7_nameAll_43 : decode cX7_nameAll 43 = .ok (.iinc 1 1, 3) := by decide +kernel
theorem dX7_nameAll_46 : decode cX7_nameAll 46 = .ok (.goto (-23), 3) := by decide +kernel
theorem dX7_nameAll_49 : decode cX7_nameAll 49 = .ok (.aload_n 0, 1) := by decide +kernel
theorem dX7_nameAll_50 : decode cX7_nameAll 50 = .ok (.aload_n 0, 1) := by decide +kernel
theorem dX7_nameAll_51 : decode cX7_nameAll 51 = .ok (.getfield 146, 3) := by decide +kernel
theorem dX7_nameAll_54 : decode cX7_nameAll 54 = .ok (.invokevirtual 280, 3) := by decide +kernel
theorem dX7_nameAll_57 : decode cX7_nameAll 57 = .ok (.iconst 0, 1) := by decide +kernel
theorem dX7_nameAll_58 : decode cX7_nameAll 58 = .ok (.istore_n 1, 1) := by decide +kernel
theorem dX7_nameAll_59 : decode cX7_nameAll 59 = .ok (.iload_n 1, 1) := by decide +kernel
theorem dX7_nameAll_60 : decode cX7_nameAll 60 = .ok (.aload_n 0, 1) := by decide +kernel
theorem dX7_nameAll_61 : decode cX7_nameAll 61 = .ok (.getfield 146, 3) := by decide +kernel
theorem dX7_nameAll_64 : decode cX7_nameAll 64 = .ok (.if_icmp .ge 33, 3) := by decide +kernel
theorem dX7_nameAll_67 : decode cX7_nameAll 67 = .ok (.aload_n 0, 1) := by decide +kernel
theorem dX7_nameAll_68 : decode cX7_nameAll 68 = .ok (.getfield 104, 3) := by decide +kernel
theorem dX7_nameAll_71 : decode cX7_nameAll 71 = .ok (.iload_n 1, 1) := by decide +kernel
theorem dX7_nameAll_72 : decode cX7_nameAll 72 = .ok (.aload_n 0, 1) := by decide +kernel
theorem dX7_nameAll_73 : decode cX7_nameAll 73 = .ok (.getfield 98, 3) := by decide +kernel
theorem dX7_nameAll_76 : decode cX7_nameAll 76 = .ok (.iload_n 1, 1) := by decide +kernel
theorem dX7_nameAll_77 : decode cX7_nameAll 77 = .ok (.iaload, 1) := by decide +kernel
theorem dX7_nameAll_78 : decode cX7_nameAll 78 = .ok (.iastore, 1) := by decide +kernel
theorem dX7_nameAll_79 : decode cX7_nameAll 79 = .ok (.aload_n 0, 1) := by decide +kernel
theorem dX7_nameAll_80 : decode cX7_nameAll 80 = .ok (.getfield 101, 3) := by decide +kernel
theorem dX7_nameAll_83 : decode cX7_nameAll 83 = .ok (.iload_n 1, 1) := by decide +kernel
theorem dX7_nameAll_84 : decode cX7_nameAll 84 = .ok (.aload_n 0, 1) := by decide +kernel
theorem dX7_nameAll_85 : decode cX7_nameAll 85 = .ok (.getfield 98, 3) := by decide +kernel
theorem dX7_nameAll_88 : decode cX7_nameAll 88 = .ok (.iload_n 1, 1) := by decide +kernel
theorem dX7_nameAll_89 : decode cX7_nameAll 89 = .ok (.iaload, 1) := by decide +kernel
theorem dX7_nameAll_90 : decode cX7_nameAll 90 = .ok (.iastore, 1) := by decide +kernel
theorem dX7_nameAll_91 : decode cX7_nameAll 91 = .ok (.iinc 1 1, 3) := by decide +kernel
theorem dX7_nameAll_94 : decode cX7_nameAll 94 = .ok (.goto (-35), 3) := by decide +kernel
theorem dX7_nameAll_97 : decode cX7_nameAll 97 = .ok (.iconst 0, 1) := by decide +kernel
theorem dX7_nameAll_98 : decode cX7_nameAll 98 = .ok (.istore_n 1, 1) := by decide +kernel
theorem dX7_nameAll_99 : decode cX7_nameAll 99 = .ok (.iload_n 1, 1) := by decide +kernel
theorem dX7_nameAll_100 : decode cX7_nameAll 100 = .ok (.aload_n 0, 1) := by decide +kernel
theorem dX7_nameAll_101 : decode cX7_nameAll 101 = .ok (.getfield 143, 3) := by decide +kernel
theorem dX7_nameAll_104 : decode cX7_nameAll 104 = .ok (.invokestatic 277, 3) := by decide +kernel
theorem dX7_nameAll_107 : decode cX7_nameAll 107 = .ok (.if_icmp .ge 147, 3) := by decide +kernel
theorem dX7_nameAll_110 : decode cX7_nameAll 110 = .ok (.aload_n 0, 1) := by decide +kernel
theorem dX7_nameAll_111 : decode cX7_nameAll 111 = .ok (.aload_n 0, 1) := by decide +kernel
theorem dX7_nameAll_112 : decode cX7_nameAll 112 = .ok (.getfield 143, 3) := by decide +kernel
theorem dX7_nameAll_115 : decode cX7_nameAll 115 = .ok (.iload_n 1, 1) := by decide +kernel
theorem dX7_nameAll_116 : decode cX7_nameAll 116 = .ok (.invokevirtual 283, 3) := by decide +kernel
theorem dX7_nameAll_119 : decode cX7_nameAll 119 = .ok (.iconst 0, 1) := by decide +kernel
theorem dX7_nameAll_120 : decode cX7_nameAll 120 = .ok (.istore_n 2, 1) := by decide +kernel
theorem dX7_nameAll_121 : decode cX7_nameAll 121 = .ok (.iload_n 2, 1) := by decide +kernel
theorem dX7_nameAll_122 : decode cX7_nameAll 122 = .ok (.aload_n 0, 1) := by decide +kernel
theorem dX7_nameAll_123 : decode cX7_nameAll 123 = .ok (.getfield 146, 3) := by decide +kernel
theorem dX7_nameAll_126 : decode cX7_nameAll 126 = .ok (.if_icmp .ge 29, 3) := by decide +kernel
theorem dX7_nameAll_129 : decode cX7_nameAll 129 = .ok (.aload_n 0, 1) := by decide +kernel
theorem dX7_nameAll_130 : decode cX7_nameAll 130 = .ok (.getfield 98, 3) := by decide +kernel
theorem dX7_nameAll_133 : decode cX7_nameAll 133 = .ok (.iload_n 2, 1) := by decide +kernel
theorem dX7_nameAll_134 : decode cX7_nameAll 134 = .ok (.aload_n 0, 1) := by decide +kernel
theorem dX7_nameAll_135 : decode cX7_nameAll 135 = .ok (.aload_n 0, 1) := by decide +kernel
theorem dX7_nameAll_136 : decode cX7_nameAll 136 = .ok (.getfield 25, 3) := by decide +kernel
theorem dX7_nameAll_139 : decode cX7_nameAll 139 = .ok (.iload_n 2, 1) := by decide +kernel
theorem dX7_nameAll_140 : decode cX7_nameAll 140 = .ok (.iaload, 1) := by decide +kernel
theorem dX7_nameAll_141 : decode cX7_nameAll 141 = .ok (.aload_n 0, 1) := by decide +kernel
theorem dX7_nameAll_142 : decode cX7_nameAll 142 = .ok (.getfield 143, 3) := by decide +kernel
theorem dX7_nameAll_145 : decode cX7_nameAll 145 = .ok (.invokevirtual 287, 3) := by decide +kernel
theorem dX7_nameAll_148 : decode cX7_nameAll 148 = .ok (.iastore, 1) := by decide +kernel
theorem dX7_nameAll_149 : decode cX7_nameAll 149 = .ok (.iinc 2 1, 3) := by decide +kernel
theorem dX7_nameAll_152 : decode cX7_nameAll 152 = .ok (.goto (-31), 3) := by decide +kernel
theorem dX7_nameAll_155 : decode cX7_nameAll 155 = .ok (.aload_n 0, 1) := by decide +kernel
theorem dX7_nameAll_156 : decode cX7_nameAll 156 = .ok (.aload_n 0, 1) := by decide +kernel
theorem dX7_nameAll_157 : decode cX7_nameAll 157 = .ok (.getfield 146, 3) := by decide +kernel
theorem dX7_nameAll_160 : decode cX7_nameAll 160 = .ok (.invokevirtual 280, 3) := by decide +kernel
theorem dX7_nameAll_163 : decode cX7_nameAll 163 = .ok (.aload_n 0, 1) := by decide +kernel
theorem dX7_nameAll_164 : decode cX7_nameAll 164 = .ok (.aload_n 0, 1) := by decide +kernel
theorem dX7_nameAll_165 : decode cX7_nameAll 165 = .ok (.getfield 104, 3) := by decide +kernel
theorem dX7_nameAll_168 : decode cX7_nameAll 168 = .ok (.aload_n 0, 1) := by decide +kernel
theorem dX7_nameAll_169 : decode cX7_nameAll 169 = .ok (.getfield 146, 3) := by decide +kernel
theorem dX7_nameAll_172 : decode cX7_nameAll 172 = .ok (.invokevirtual 290, 3) := by decide +kernel
theorem dX7_nameAll_175 : decode cX7_nameAll 175 = .ok (.ifCond .ne 30, 3) := by decide +kernel
theorem dX7_nameAll_178 : decode cX7_nameAll 178 = .ok (.aload_n 0, 1) := by decide +kernel
theorem dX7_nameAll_179 : decode cX7_nameAll 179 = .ok (.getfield 107, 3) := by decide +kernel
theorem dX7_nameAll_182 : decode cX7_nameAll 182 = .ok (.aload_n 0, 1) := by decide +kernel
theorem dX7_nameAll_183 : decode cX7_nameAll 183 = .ok (.aload_n 0, 1) := by decide +kernel
theorem dX7_nameAll_184 : decode cX7_nameAll 184 = .ok (.getfield 143, 3) := by decide +kernel
theorem dX7_nameAll_187 : decode cX7_nameAll 187 = .ok (.invokevirtual 294, 3) := by decide +kernel
theorem dX7_nameAll_190 : decode cX7_nameAll 190 = .ok (.dup2, 1) := by decide +kernel
theorem dX7_nameAll_191 : decode cX7_nameAll 191 = .ok (.iaload, 1) := by decide +kernel
theorem dX7_nameAll_192 : decode cX7_nameAll 192 = .ok (.iconst 1, 1) := by decide +kernel
theorem dX7_nameAll_193 : decode cX7_nameAll 193 = .ok (.iadd, 1) := by decide +kernel
theorem dX7_nameAll_194 : decode cX7_nameAll 194 = .ok (.iastore, 1) := by decide +kernel
theorem dX7_nameAll_195 : decode cX7_nameAll 195 = .ok (.aload_n 0, 1) := by decide +kernel
theorem dX7_nameAll_196 : decode cX7_nameAll 196 = .ok (.getfield 107, 3) := by decide +kernel
theorem dX7_nameAll_199 : decode cX7_nameAll 199 = .ok (.iconst 0, 1) := by decide +kernel
theorem dX7_nameAll_200 : decode cX7_nameAll 200 = .ok (.dup2, 1) := by decide +kernel
theorem dX7_nameAll_201 : decode cX7_nameAll 201 = .ok (.iaload, 1) := by decide +kernel
theorem dX7_nameAll_202 : decode cX7_nameAll 202 = .ok (.iconst 1, 1) := by decide +kernel
theorem dX7_nameAll_203 : decode cX7_nameAll 203 = .ok (.iadd, 1) := by decide +kernel
theorem dX7_nameAll_204 : decode cX7_nameAll 204 = .ok (.iastore, 1) := by decide +kernel
theorem dX7_nameAll_205 : decode cX7_nameAll 205 = .ok (.aload_n 0, 1) := by decide +kernel
theorem dX7_nameAll_206 : decode cX7_nameAll 206 = .ok (.aload_n 0, 1) := by decide +kernel
theorem dX7_nameAll_207 : decode cX7_nameAll 207 = .ok (.getfield 101, 3) := by decide +kernel
theorem dX7_nameAll_210 : decode cX7_nameAll 210 = .ok (.aload_n 0, 1) := by decide +kernel
theorem dX7_nameAll_211 : decode cX7_nameAll 211 = .ok (.getfield 146, 3) := by decide +kernel
theorem dX7_nameAll_214 : decode cX7_nameAll 214 = .ok (.invokevirtual 290, 3) := by decide +kernel
theorem dX7_nameAll_217 : decode cX7_nameAll 217 = .ok (.ifCond .ge 31, 3) := by decide +kernel
theorem dX7_nameAll_220 : decode cX7_nameAll 220 = .ok (.iconst 0, 1) := by decide +kernel
theorem dX7_nameAll_221 : decode cX7_nameAll 221 = .ok (.istore_n 2, 1) := by decide +kernel
theorem dX7_nameAll_222 : decode cX7_nameAll 222 = .ok (.iload_n 2, 1) := by decide +kernel
theorem dX7_nameAll_223 : decode cX7_nameAll 223 = .ok (.aload_n 0, 1) := by decide +kernel
theorem dX7_nameAll_224 : decode cX7_nameAll 224 = .ok (.getfield 146, 3) := by decide +kernel
theorem dX7_nameAll_227 : decode cX7_nameAll 227 = .ok (.if_icmp .ge 21, 3) := by decide +kernel
theorem dX7_nameAll_230 : decode cX7_nameAll 230 = .ok (.aload_n 0, 1) := by decide +kernel
theorem dX7_nameAll_231 : decode cX7_nameAll 231 = .ok (.getfield 101, 3) := by decide +kernel
theorem dX7_nameAll_234 : decode cX7_nameAll 234 = .ok (.iload_n 2, 1) := by decide +kernel
theorem dX7_nameAll_235 : decode cX7_nameAll 235 = .ok (.aload_n 0, 1) := by decide +kernel
theorem dX7_nameAll_236 : decode cX7_nameAll 236 = .ok (.getfield 98, 3) := by decide +kernel
theorem dX7_nameAll_239 : decode cX7_nameAll 239 = .ok (.iload_n 2, 1) := by decide +kernel
theorem dX7_nameAll_240 : decode cX7_nameAll 240 = .ok (.iaload, 1) := by decide +kernel
theorem dX7_nameAll_241 : decode cX7_nameAll 241 = .ok (.iastore, 1) := by decide +kernel
theorem dX7_nameAll_242 : decode cX7_nameAll 242 = .ok (.iinc 2 1, 3) := by decide +kernel
theorem dX7_nameAll_245 : decode cX7_nameAll 245 = .ok (.goto (-23), 3) := by decide +kernel
theorem dX7_nameAll_248 : decode cX7_nameAll 248 = .ok (.iinc 1 1, 3) := by decide +kernel
theorem dX7_nameAll_251 : decode cX7_nameAll 251 = .ok (.goto (-152), 3) := by decide +kernel
theorem dX7_nameAll_254 : decode cX7_nameAll 254 = .ok (.aload_n 0, 1) := by decide +kernel
theorem dX7_nameAll_255 : decode cX7_nameAll 255 = .ok (.iconst 1, 1) := by decide +kernel
theorem dX7_nameAll_256 : decode cX7_nameAll 256 = .ok (.putfield 162, 3) := by decide +kernel
theorem dX7_nameAll_259 : decode cX7_nameAll 259 = .ok (.return_, 1) := by decide +kernel
set_option maxRecDepth 20000 in
theorem ggX7_mayName_X7_nameAll : GoodIn wsX7_mayName wsX7_nameAll := goodIn_r _ [8, 9, 1, 10, 11, 12, 13, 2, 3, 14, 15, 16, 7, 17, 18, 19, 20, 21, 22, 23, 24, 25, 26, 27, 28, 29, 30, 31, 32, 33, 34, 35, 36, 37, 38, 39, 40, 41, 42, 43, 44, 45, 46, 47, 48, 49, 50, 51, 52, 53, 54, 55, 56, 57, 58, 59, 60, 61, 62, 63, 64, 65, 66, 67, 68, 69, 70, 71, 72, 73, 74, 75, 76, 77, 78, 79, 80, 81, 82, 83, 84, 85, 86, 87, 88, 89, 90, 91, 92] (by decide +kernel) (by decide +kernel)
set_option maxRecDepth 20000 in
theorem gX7_mayName_X7_nameAll : GoodIn wsX7_mayName (wsV RX7 297 RX7 yX7_nameAll wsX7_nameAll) := goodIn_app (goodIn_of _ (by decide +kernel)) ggX7_mayName_X7_nameAll
theorem dX7_mayName_0 : decode cX7_mayName 0 = .ok (.aload_n 0, 1) := by decide +kernel
theorem dX7_mayName_1 : decode cX7_mayName 1 = .ok (.getfield 146, 3) := by decide +kernel
theorem dX7_mayName_4 : decode cX7_mayName 4 = .ok (.ifCond .eq 12, 3) := by decide +kernel
theorem dX7_mayName_7 : decode cX7_mayName 7 = .ok (.aload_n 0, 1) := by decide +kernel
theorem dX7_mayName_8 : decode cX7_mayName 8 = .ok (.getfield 143, 3) := by decide +kernel
theorem dX7_mayName_11 : decode cX7_mayName 11 = .ok (.bipush 7, 2) := by decide +kernel
theorem dX7_mayName_13 : decode cX7_mayName 13 = .ok (.if_icmp .le 5, 3) := by decide +kernel
theorem dX7_mayName_16 : decode cX7_mayName 16 = .ok (.iconst 0, 1) := by decide +kernel
theorem dX7_mayName_17 : decode cX7_mayName 17 = .ok (.ireturn, 1) := by decide +kernel
theorem dX7_mayName_18 : decode cX7_mayName 18 = .ok (.aload_n 0, 1) := by decide +kernel
theorem dX7_mayName_19 : decode cX7_mayName 19 = .ok (.getfield 162, 3) := by decide +kernel
theorem dX7_mayName_22 : decode cX7_mayName 22 = .ok (.ifCond .ne 7, 3) := by decide +kernel
theorem dX7_mayName_25 : decode cX7_mayName 25 = .ok (.aload_n 0, 1) := by decide +kernel
theorem dX7_mayName_26 : decode cX7_mayName 26 = .ok (.invokevirtual 297, 3) := by decide +kernel
theorem dX7_mayName_29 : decode cX7_mayName 29 = .ok (.iconst 1, 1) := by decide +kernel
theorem dX7_mayName_30 : decode cX7_mayName 30 = .ok (.ireturn, 1) := by decide +kernel
set_option maxRecDepth 20000 in
theorem ggX7_canonical_X7_mayName : GoodIn wsX7_canonical wsX7_mayName := goodIn_r _ [8, 2, 9, 10, 11, 12, 13, 7, 14, 15, 16, 17, 18, 3, 19, 20, 21, 22, 23, 24, 25, 26, 27, 28, 29, 30, 31, 32, 33, 34, 35, 36, 37, 38, 39, 40, 41, 42, 43, 44, 48, 49, 50, 51, 52, 53, 54, 55, 56, 57, 58, 59, 60, 61, 62, 63, 64, 65, 66, 67, 68, 69, 70, 71, 72, 73, 74, 75, 76, 77, 78, 79, 80, 81, 82, 83, 84, 85, 86, 87, 88, 89, 90, 91, 92, 93, 94, 95, 96, 97, 98, 99, 100] (by decide +kernel) (by decide +kernel)
set_option maxRecDepth 20000 in
theorem gX7_canonical_X7_mayName : GoodIn wsX7_canonical (wsV RX7 300 RX7 yX7_mayName wsX7_mayName) := goodIn_app (goodIn_of _ (by decide +kernel)) ggX7_canonical_X7_mayName
set_option maxRecDepth 20000 in
theorem ggX7_canonical_X7_isIn : GoodIn wsX7_canonical wsX7_isIn := goodIn_r _ [47] (by decide +kernel) (by decide +kernel)
set_option maxRecDepth 20000 in
theorem gX7_canonical_X7_isIn : GoodIn wsX7_canonical (va_wsS RX7 125 yX7_isIn wsX7_isIn) := goodIn_app (goodIn_of _ (by decide +kernel)) ggX7_canonical_X7_isIn
theorem dX7_canonical_0 : decode cX7_canonical 0 = .ok (.aload_n 0, 1) := by decide +kernel
theorem dX7_canonical_1 : decode cX7_canonical 1 = .ok (.iconst 0, 1) := by decide +kernel
theorem dX7_canonical_2 : decode cX7_canonical 2 = .ok (.putfield 122, 3) := by decide +kernel
theorem dX7_canonical_5 : decode cX7_canonical 5 = .ok (.aload_n 0, 1) := by decide +kernel
theorem dX7_canonical_6 : decode cX7_canonical 6 = .ok (.invokevirtual 300, 3) := by decide +kernel
theorem dX7_canonical_9 : decode cX7_canonical 9 = .ok (.ifCond .ne 6, 3) := by decide +kernel
theorem dX7_canonical_12 : decode cX7_canonical 12 = .ok (.bipush (-2), 2) := by decide +kernel
theorem dX7_canonical_14 : decode cX7_canonical 14 = .ok (.ireturn, 1) := by decide +kernel
theorem dX7_canonical_15 : decode cX7_canonical 15 = .ok (.iload_n 1, 1) := by decide +kernel
theorem dX7_canonical_16 : decode cX7_canonical 16 = .ok (.iconst 0, 1) := by decide +kernel
theorem dX7_canonical_17 : decode cX7_canonical 17 = .ok (.aload_n 0, 1) := by decide +kernel
theorem dX7_canonical_18 : decode cX7_canonical 18 = .ok (.getfield 146, 3) := by decide +kernel
theorem dX7_canonical_21 : decode cX7_canonical 21 = .ok (.iconst 1, 1) := by decide +kernel
theorem dX7_canonical_22 : decode cX7_canonical 22 = .ok (.isub, 1) := by decide +kernel
theorem dX7_canonical_23 : decode cX7_canonical 23 = .ok (.invokestatic 125, 3) := by decide +kernel
theorem dX7_canonical_26 : decode cX7_canonical 26 = .ok (.ifCond .eq 12, 3) := by decide +kernel
theorem dX7_canonical_29 : decode cX7_canonical 29 = .ok (.aload_n 0, 1) := by decide +kernel
theorem dX7_canonical_30 : decode cX7_canonical 30 = .ok (.getfield 101, 3) := by decide +kernel
theorem dX7_canonical_33 : decode cX7_canonical 33 = .ok (.iload_n 1, 1) := by decide +kernel
theorem dX7_canonical_34 : decode cX7_canonical 34 = .ok (.iaload, 1) := by decide +kernel
theorem dX7_canonical_35 : decode cX7_canonical 35 = .ok (.goto 5, 3) := by decide +kernel
theorem dX7_canonical_38 : decode cX7_canonical 38 = .ok (.bipush (-4), 2) := by decide +kernel
theorem dX7_canonical_40 : decode cX7_canonical 40 = .ok (.ireturn, 1) := by decide +kernel
set_option maxRecDepth 20000 in
theorem ggX7_orbit_X7_mayName : GoodIn wsX7_orbit wsX7_mayName := goodIn_r _ [7, 8, 9, 10, 11, 12, 13, 6, 14, 2, 15, 16, 17, 18, 19, 20, 21, 22, 23, 24, 25, 26, 27, 28, 29, 30, 31, 32, 33, 34, 35, 36, 37, 38, 39, 40, 41, 42, 43, 44, 45, 46, 47, 48, 49, 50, 51, 52, 53, 54, 55, 56, 57, 58, 59, 60, 61, 62, 63, 64, 65, 66, 67, 68, 69, 70, 71, 72, 73, 74, 75, 76, 77, 78, 79, 80, 81, 82, 83, 84, 85, 86, 87, 88, 89, 90, 91, 92, 93, 94, 95, 96, 97] (by decide +kernel) (by decide +kernel)
set_option maxRecDepth 20000 in
theorem gX7_orbit_X7_mayName : GoodIn wsX7_orbit (wsV RX7 300 RX7 yX7_mayName wsX7_mayName) := goodIn_app (goodIn_of _ (by decide +kernel)) ggX7_orbit_X7_mayName
theorem dX7_orbit_0 : decode cX7_orbit 0 = .ok (.aload_n 0, 1) := by decide +kernel
theorem dX7_orbit_1 : decode cX7_orbit 1 = .ok (.iconst 0, 1) := by decide +kernel
theorem dX7_orbit_2 : decode cX7_orbit 2 = .ok (.putfield 122, 3) := by decide +kernel
theorem dX7_orbit_5 : decode cX7_orbit 5 = .ok (.iload_n 1, 1) := by decide +kernel
theorem dX7_orbit_6 : decode cX7_orbit 6 = .ok (.ifCond .ge 6, 3) := by decide +kernel
theorem dX7_orbit_9 : decode cX7_orbit 9 = .ok (.bipush (-9), 2) := by decide +kernel
theorem dX7_orbit_11 : decode cX7_orbit 11 = .ok (.ireturn, 1) := by decide +kernel
theorem dX7_orbit_12 : decode cX7_orbit 12 = .ok (.aload_n 0, 1) := by decide +kernel
theorem dX7_orbit_13 : decode cX7_orbit 13 = .ok (.invokevirtual 300, 3) := by decide +kernel
theorem dX7_orbit_16 : decode cX7_orbit 16 = .ok (.ifCond .ne 6, 3) := by decide +kernel
theorem dX7_orbit_19 : decode cX7_orbit 19 = .ok (.bipush (-2), 2) := by decide +kernel
theorem dX7_orbit_21 : decode cX7_orbit 21 = .ok (.ireturn, 1) := by decide +kernel
theorem dX7_orbit_22 : decode cX7_orbit 22 = .ok (.iload_n 1, 1) := by decide +kernel
theorem dX7_orbit_23 : decode cX7_orbit 23 = .ok (.bipush 13, 2) := by decide +kernel
theorem dX7_orbit_25 : decode cX7_orbit 25 = .ok (.if_icmp .ge 12, 3) := by decide +kernel
theorem dX7_orbit_28 : decode cX7_orbit 28 = .ok (.aload_n 0, 1) := by decide +kernel
theorem dX7_orbit_29 : decode cX7_orbit 29 = .ok (.getfield 107, 3) := by decide +kernel
theorem dX7_orbit_32 : decode cX7_orbit 32 = .ok (.iload_n 1, 1) := by decide +kernel
theorem dX7_orbit_33 : decode cX7_orbit 33 = .ok (.iaload, 1) := by decide +kernel
theorem dX7_orbit_34 : decode cX7_orbit 34 = .ok (.goto 4, 3) := by decide +kernel
theorem dX7_orbit_37 : decode cX7_orbit 37 = .ok (.iconst 0, 1) := by decide +kernel
theorem dX7_orbit_38 : decode cX7_orbit 38 = .ok (.ireturn, 1) := by decide +kernel
set_option maxRecDepth 20000 in
theorem ggX7_layTriples_X7_maskOf : GoodIn wsX7_layTriples wsX7_maskOf := goodIn_r _ [6] (by decide +kernel) (by decide +kernel)
set_option maxRecDepth 20000 in
theorem gX7_layTriples_X7_maskOf : GoodIn wsX7_layTriples (va_wsS RX7 171 yX7_maskOf wsX7_maskOf) := goodIn_app (goodIn_of _ (by decide +kernel)) ggX7_layTriples_X7_maskOf
theorem dX7_layTriples_0 : decode cX7_layTriples 0 = .ok (.aload_n 0, 1) := by decide +kernel
theorem dX7_layTriples_1 : decode cX7_layTriples 1 = .ok (.iconst 0, 1) := by decide +kernel
theorem dX7_layTriples_2 : decode cX7_layTriples 2 = .ok (.putfield 303, 3) := by decide +kernel
theorem dX7_layTriples_5 : decode cX7_layTriples 5 = .ok (.iconst 0, 1) := by decide +kernel
theorem dX7_layTriples_6 : decode cX7_layTriples 6 = .ok (.istore_n 2, 1) := by decide +kernel
theorem dX7_layTriples_7 : decode cX7_layTriples 7 = .ok (.iload_n 2, 1) := by decide +kernel
theorem dX7_layTriples_8 : decode cX7_layTriples 8 = .ok (.iload_n 1, 1) := by decide +kernel
theorem dX7_layTriples_9 : decode cX7_layTriples 9 = .ok (.if_icmp .ge 67, 3) := by decide +kernel
theorem dX7_layTriples_12 : decode cX7_layTriples 12 = .ok (.iload_n 2, 1) := by decide +kernel
theorem dX7_layTriples_13 : decode cX7_layTriples 13 = .ok (.iconst 1, 1) := by decide +kernel
theorem dX7_layTriples_14 : decode cX7_layTriples 14 = .ok (.iadd, 1) := by decide +kernel
theorem dX7_layTriples_15 : decode cX7_layTriples 15 = .ok (.istore_n 3, 1) := by decide +kernel
theorem dX7_layTriples_16 : decode cX7_layTriples 16 = .ok (.iload_n 3, 1) := by decide +kernel
theorem dX7_layTriples_17 : decode cX7_layTriples 17 = .ok (.iload_n 1, 1) := by decide +kernel
theorem dX7_layTriples_18 : decode cX7_layTriples 18 = .ok (.if_icmp .ge 52, 3) := by decide +kernel
theorem dX7_layTriples_21 : decode cX7_layTriples 21 = .ok (.iload_n 3, 1) := by decide +kernel
theorem dX7_layTriples_22 : decode cX7_layTriples 22 = .ok (.iconst 1, 1) := by decide +kernel
theorem dX7_layTriples_23 : decode cX7_layTriples 23 = .ok (.iadd, 1) := by decide +kernel
theorem dX7_layTriples_24 : decode cX7_layTriples 24 = .ok (.istore 4, 2) := by decide +kernel
theorem dX7_layTriples_26 : decode cX7_layTriples 26 = .ok (.iload 4, 2) := by decide +kernel
theorem dX7_layTriples_28 : decode cX7_layTriples 28 = .ok (.iload_n 1, 1) := by decide +kernel
theorem dX7_layTriples_29 : decode cX7_layTriples 29 = .ok (.if_icmp .ge 35, 3) := by decide +kernel
theorem dX7_layTriples_32 : decode cX7_layTriples 32 = .ok (.aload_n 0, 1) := by decide +kernel
theorem dX7_layTriples_33 : decode cX7_layTriples 33 = .ok (.getfield 113, 3) := by decide +kernel
theorem dX7_layTriples_36 : decode cX7_layTriples 36 = .ok (.aload_n 0, 1) := by decide +kernel
theorem dX7_layTriples_37 : decode cX7_layTriples 37 = .ok (.getfield 303, 3) := by decide +kernel
theorem dX7_layTriples_40 : decode cX7_layTriples 40 = .ok (.iload_n 2, 1) := by decide +kernel
theorem dX7_layTriples_41 : decode cX7_layTriples 41 = .ok (.iload_n 3, 1) := by decide +kernel
theorem dX7_layTriples_42 : decode cX7_layTriples 42 = .ok (.iload 4, 2) := by decide +kernel
theorem dX7_layTriples_44 : decode cX7_layTriples 44 = .ok (.invokestatic 171, 3) := by decide +kernel
theorem dX7_layTriples_47 : decode cX7_layTriples 47 = .ok (.iastore, 1) := by decide +kernel
theorem dX7_layTriples_48 : decode cX7_layTriples 48 = .ok (.aload_n 0, 1) := by decide +kernel
theorem dX7_layTriples_49 : decode cX7_layTriples 49 = .ok (.dup, 1) := by decide +kernel
theorem dX7_layTriples_50 : decode cX7_layTriples 50 = .ok (.getfield 303, 3) := by decide +kernel
theorem dX7_layTriples_53 : decode cX7_layTriples 53 = .ok (.iconst 1, 1) := by decide +kernel
theorem dX7_layTriples_54 : decode cX7_layTriples 54 = .ok (.iadd, 1) := by decide +kernel
theorem dX7_layTriples_55 : decode cX7_layTriples 55 = .ok (.putfield 303, 3) := by decide +kernel
theorem dX7_layTriples_58 : decode cX7_layTriples 58 = .ok (.iinc 4 1, 3) := by decide +kernel
theorem dX7_layTriples_61 : decode cX7_layTriples 61 = .ok (.goto (-35), 3) := by decide +kernel
theorem dX7_layTriples_64 : decode cX7_layTriples 64 = .ok (.iinc 3 1, 3) := by decide +kernel
theorem dX7_layTriples_67 : decode cX7_layTriples 67 = .ok (.goto (-51), 3) := by decide +kernel
theorem dX7_layTriples_70 : decode cX7_layTriples 70 = .ok (.iinc 2 1, 3) := by decide +kernel
theorem dX7_layTriples_73 : decode cX7_layTriples 73 = .ok (.goto (-66), 3) := by decide +kernel
theorem dX7_layTriples_76 : decode cX7_layTriples 76 = .ok (.return_, 1) := by decide +kernel
theorem dX7_isApart_0 : decode cX7_isApart 0 = .ok (.iload_n 0, 1) := by decide +kernel
theorem dX7_isApart_1 : decode cX7_isApart 1 = .ok (.iload_n 1, 1) := by decide +kernel
theorem dX7_isApart_2 : decode cX7_isApart 2 = .ok (.iand, 1) := by decide +kernel
theorem dX7_isApart_3 : decode cX7_isApart 3 = .ok (.istore_n 2, 1) := by decide +kernel
theorem dX7_isApart_4 : decode cX7_isApart 4 = .ok (.iload_n 2, 1) := by decide +kernel
theorem dX7_isApart_5 : decode cX7_isApart 5 = .ok (.iload_n 2, 1) := by decide +kernel
theorem dX7_isApart_6 : decode cX7_isApart 6 = .ok (.iconst 1, 1) := by decide +kernel
theorem dX7_isApart_7 : decode cX7_isApart 7 = .ok (.isub, 1) := by decide +kernel
theorem dX7_isApart_8 : decode cX7_isApart 8 = .ok (.iand, 1) := by decide +kernel
theorem dX7_isApart_9 : decode cX7_isApart 9 = .ok (.ifCond .ne 7, 3) := by decide +kernel
theorem dX7_isApart_12 : decode cX7_isApart 12 = .ok (.iconst 1, 1) := by decide +kernel
theorem dX7_isApart_13 : decode cX7_isApart 13 = .ok (.goto 4, 3) := by decide +kernel
theorem dX7_isApart_16 : decode cX7_isApart 16 = .ok (.iconst 0, 1) := by decide +kernel
theorem dX7_isApart_17 : decode cX7_isApart 17 = .ok (.ireturn, 1) := by decide +kernel
set_option maxRecDepth 20000 in
theorem ggX7_isGoodSet_X7_isApart : GoodIn wsX7_isGoodSet wsX7_isApart := goodIn_r _ [6] (by decide +kernel) (by decide +kernel)
set_option maxRecDepth 20000 in
theorem gX7_isGoodSet_X7_isApart : GoodIn wsX7_isGoodSet (va_wsS RX7 306 yX7_isApart wsX7_isApart) := goodIn_app (goodIn_of _ (by decide +kernel)) ggX7_isGoodSet_X7_isApart
theorem dX7_isGoodSet_0 : decode cX7_isGoodSet 0 = .ok (.iconst 1, 1) := by decide +kernel
theorem dX7_isGoodSet_1 : decode cX7_isGoodSet 1 = .ok (.istore_n 2, 1) := by decide +kernel
theorem dX7_isGoodSet_2 : decode cX7_isGoodSet 2 = .ok (.iconst 0, 1) := by decide +kernel
theorem dX7_isGoodSet_3 : decode cX7_isGoodSet 3 = .ok (.istore_n 3, 1) := by decide +kernel
theorem dX7_isGoodSet_4 : decode cX7_isGoodSet 4 = .ok (.iload_n 3, 1) := by decide +kernel
theorem dX7_isGoodSet_5 : decode cX7_isGoodSet 5 = .ok (.iload_n 1, 1) := by decide +kernel
theorem dX7_isGoodSet_6 : decode cX7_isGoodSet 6 = .ok (.if_icmp .ge 57, 3) := by decide +kernel
theorem dX7_isGoodSet_9 : decode cX7_isGoodSet 9 = .ok (.iload_n 3, 1) := by decide +kernel
theorem dX7_isGoodSet_10 : decode cX7_isGoodSet 10 = .ok (.iconst 1, 1) := by decide +kernel
theorem dX7_isGoodSet_11 : decode cX7_isGoodSet 11 = .ok (.iadd, 1) := by decide +kernel
theorem dX7_isGoodSet_12 : decode cX7_isGoodSet 12 = .ok (.istore 4, 2) := by decide +kernel
theorem dX7_isGoodSet_14 : decode cX7_isGoodSet 14 = .ok (.iload 4, 2) := by decide +kernel
theorem dX7_isGoodSet_16 : decode cX7_isGoodSet 16 = .ok (.iload_n 1, 1) := by decide +kernel
theorem dX7_isGoodSet_17 : decode cX7_isGoodSet 17 = .ok (.if_icmp .ge 40, 3) := by decide +kernel
theorem dX7_isGoodSet_20 : decode cX7_isGoodSet 20 = .ok (.iload_n 2, 1) := by decide +kernel
theorem dX7_isGoodSet_21 : decode cX7_isGoodSet 21 = .ok (.ifCond .eq 36, 3) := by decide +kernel
theorem dX7_isGoodSet_24 : decode cX7_isGoodSet 24 = .ok (.aload_n 0, 1) := by decide +kernel
theorem dX7_isGoodSet_25 : decode cX7_isGoodSet 25 = .ok (.getfield 113, 3) := by decide +kernel
theorem dX7_isGoodSet_28 : decode cX7_isGoodSet 28 = .ok (.aload_n 0, 1) := by decide +kernel
theorem dX7_isGoodSet_29 : decode cX7_isGoodSet 29 = .ok (.getfield 116, 3) := by decide +kernel
theorem dX7_isGoodSet_32 : decode cX7_isGoodSet 32 = .ok (.iload_n 3, 1) := by decide +kernel
theorem dX7_isGoodSet_33 : decode cX7_isGoodSet 33 = .ok (.iaload, 1) := by decide +kernel
theorem dX7_isGoodSet_34 : decode cX7_isGoodSet 34 = .ok (.iaload, 1) := by decide +kernel
theorem dX7_isGoodSet_35 : decode cX7_isGoodSet 35 = .ok (.aload_n 0, 1) := by decide +kernel
theorem dX7_isGoodSet_36 : decode cX7_isGoodSet 36 = .ok (.getfield 113, 3) := by decide +kernel
theorem dX7_isGoodSet_39 : decode cX7_isGoodSet 39 = .ok (.aload_n 0, 1) := by decide +kernel
theorem dX7_isGoodSet_40 : decode cX7_isGoodSet 40 = .ok (.getfield 116, 3) := by decide +kernel
theorem dX7_isGoodSet_43 : decode cX7_isGoodSet 43 = .ok (.iload 4, 2) := by decide +kernel
theorem dX7_isGoodSet_45 : decode cX7_isGoodSet 45 = .ok (.iaload, 1) := by decide +kernel
theorem dX7_isGoodSet_46 : decode cX7_isGoodSet 46 = .ok (.iaload, 1) := by decide +kernel
theorem dX7_isGoodSet_47 : decode cX7_isGoodSet 47 = .ok (.invokestatic 306, 3) := by decide +kernel
theorem dX7_isGoodSet_50 : decode cX7_isGoodSet 50 = .ok (.istore_n 2, 1) := by decide +kernel
theorem dX7_isGoodSet_51 : decode cX7_isGoodSet 51 = .ok (.iinc 4 1, 3) := by decide +kernel
theorem dX7_isGoodSet_54 : decode cX7_isGoodSet 54 = .ok (.goto (-40), 3) := by decide +kernel
theorem dX7_isGoodSet_57 : decode cX7_isGoodSet 57 = .ok (.iinc 3 1, 3) := by decide +kernel
theorem dX7_isGoodSet_60 : decode cX7_isGoodSet 60 = .ok (.goto (-56), 3) := by decide +kernel
theorem dX7_isGoodSet_63 : decode cX7_isGoodSet 63 = .ok (.iload_n 2, 1) := by decide +kernel
theorem dX7_isGoodSet_64 : decode cX7_isGoodSet 64 = .ok (.ireturn, 1) := by decide +kernel
set_option maxRecDepth 20000 in
theorem ggX7_isLeastSet_X7_sortForm : GoodIn wsX7_isLeastSet wsX7_sortForm := goodIn_r _ [9, 1, 27, 28, 29, 30, 31, 32, 33, 34, 35, 36, 37, 38, 39, 40, 41, 42, 43, 44, 45, 46, 47, 48, 49, 50, 51, 52, 53, 54, 55, 56, 57, 58, 59, 60, 61, 62, 63, 64, 65, 66, 67, 68, 69, 70, 71, 72, 73, 74, 75, 76, 77, 78, 79] (by decide +kernel) (by decide +kernel)
set_option maxRecDepth 20000 in
theorem gX7_isLeastSet_X7_sortForm : GoodIn wsX7_isLeastSet (wsV RX7 280 RX7 yX7_sortForm wsX7_sortForm) := goodIn_app (goodIn_of _ (by decide +kernel)) ggX7_isLeastSet_X7_sortForm
set_option maxRecDepth 20000 in
theorem ggX7_isLeastSet_X7_factorial : GoodIn wsX7_isLeastSet wsX7_factorial := goodIn_r _ [12] (by decide +kernel) (by decide +kernel)
set_option maxRecDepth 20000 in
theorem gX7_isLeastSet_X7_factorial : GoodIn wsX7_isLeastSet (va_wsS RX7 277 yX7_factorial wsX7_factorial) := goodIn_app (goodIn_of _ (by decide +kernel)) ggX7_isLeastSet_X7_factorial
set_option maxRecDepth 20000 in
theorem ggX7_isLeastSet_X7_layNames : GoodIn wsX7_isLeastSet wsX7_layNames := goodIn_r _ [16, 17, 18, 10, 11, 8, 12, 27, 28, 29, 30, 31, 32, 33, 34, 35, 36, 37, 38, 39, 40, 41, 42, 43, 44, 45, 46, 47, 48, 49, 50, 51, 52, 53, 54, 55, 56, 57, 58, 59, 60, 61, 62, 63, 64, 65, 66, 67, 68, 69, 70, 71, 72, 73, 74, 75, 76, 77, 78, 79] (by decide +kernel) (by decide +kernel)
set_option maxRecDepth 20000 in
theorem gX7_isLeastSet_X7_layNames : GoodIn wsX7_isLeastSet (wsV RX7 283 RX7 yX7_layNames wsX7_layNames) := goodIn_app (goodIn_of _ (by decide +kernel)) ggX7_isLeastSet_X7_layNames
set_option maxRecDepth 20000 in
theorem ggX7_isLeastSet_X7_renamed : GoodIn wsX7_isLeastSet wsX7_renamed := goodIn_r _ [22, 18, 27, 28, 29, 30, 31, 32, 33, 34, 35, 36, 37, 38, 39, 40, 41, 42, 43, 44, 45, 46, 47, 48, 49, 50, 51, 52, 53, 54, 55, 56, 57, 58, 59, 60, 61, 62, 63, 64, 65, 66, 67, 68, 69, 70, 71, 72, 73, 74, 75, 76, 77, 78, 79] (by decide +kernel) (by decide +kernel)
set_option maxRecDepth 20000 in
theorem gX7_isLeastSet_X7_renamed : GoodIn wsX7_isLeastSet (wsV RX7 287 RX7 yX7_renamed wsX7_renamed) := goodIn_app (goodIn_of _ (by decide +kernel)) ggX7_isLeastSet_X7_renamed
set_option maxRecDepth 20000 in
theorem ggX7_isLeastSet_X7_compareForm : GoodIn wsX7_isLeastSet wsX7_compareForm := goodIn_r _ [26, 1, 27, 28, 29, 30, 31, 32, 33, 34, 35, 36, 37, 38, 39, 40, 41, 42, 43, 44, 45, 46, 47, 48, 49, 50, 51, 52, 53, 54, 55, 56, 57, 58, 59, 60, 61, 62, 63, 64, 65, 66, 67, 68, 69, 70, 71, 72, 73, 74, 75, 76, 77, 78, 79] (by decide +kernel) (by decide +kernel)
set_option maxRecDepth 20000 in
theorem gX7_isLeastSet_X7_compareForm : GoodIn wsX7_isLeastSet (wsV RX7 290 RX7 yX7_compareForm wsX7_compareForm) := goodIn_app (goodIn_of _ (by decide +kernel)) ggX7_isLeastSet_X7_compareForm
theorem dX7_isLeastSet_0 : decode cX7_isLeastSet 0 = .ok (.iconst 0, 1) := by decide +kernel
theorem dX7_isLeastSet_1 : decode cX7_isLeastSet 1 = .ok (.istore_n 3, 1) := by decide +kernel
theorem dX7_isLeastSet_2 : decode cX7_isLeastSet 2 = .ok (.iload_n 3, 1) := by decide +kernel
theorem dX7_isLeastSet_3 : decode cX7_isLeastSet 3 = .ok (.iload_n 2, 1) := by decide +kernel
theorem dX7_isLeastSet_4 : decode cX7_isLeastSet 4 = .ok (.if_icmp .ge 26, 3) := by decide +kernel
theorem dX7_isLeastSet_7 : decode cX7_isLeastSet 7 = .ok (.aload_n 0, 1) := by decide +kernel
theorem dX7_isLeastSet_8 : decode cX7_isLeastSet 8 = .ok (.getfield 98, 3) := by decide +kernel
theorem dX7_isLeastSet_11 : decode cX7_isLeastSet 11 = .ok (.iload_n 3, 1) := by decide +kernel
theorem dX7_isLeastSet_12 : decode cX7_isLeastSet 12 = .ok (.aload_n 0, 1) := by decide +kernel
theorem dX7_isLeastSet_13 : decode cX7_isLeastSet 13 = .ok (.getfield 113, 3) := by decide +kernel
theorem dX7_isLeastSet_16 : decode cX7_isLeastSet 16 = .ok (.aload_n 0, 1) := by decide +kernel
theorem dX7_isLeastSet_17 : decode cX7_isLeastSet 17 = .ok (.getfield 116, 3) := by decide +kernel
theorem dX7_isLeastSet_20 : decode cX7_isLeastSet 20 = .ok (.iload_n 3, 1) := by decide +kernel
theorem dX7_isLeastSet_21 : decode cX7_isLeastSet 21 = .ok (.iaload, 1) := by decide +kernel
theorem dX7_isLeastSet_22 : decode cX7_isLeastSet 22 = .ok (.iaload, 1) := by decide +kernel
theorem dX7_isLeastSet_23 : decode cX7_isLeastSet 23 = .ok (.iastore, 1) := by decide +kernel
theorem dX7_isLeastSet_24 : decode cX7_isLeastSet 24 = .ok (.iinc 3 1, 3) := by decide +kernel
theorem dX7_isLeastSet_27 : decode cX7_isLeastSet 27 = .ok (.goto (-25), 3) := by decide +kernel
theorem dX7_isLeastSet_30 : decode cX7_isLeastSet 30 = .ok (.aload_n 0, 1) := by decide +kernel
theorem dX7_isLeastSet_31 : decode cX7_isLeastSet 31 = .ok (.iload_n 2, 1) := by decide +kernel
theorem dX7_isLeastSet_32 : decode cX7_isLeastSet 32 = .ok (.invokevirtual 280, 3) := by decide +kernel
theorem dX7_isLeastSet_35 : decode cX7_isLeastSet 35 = .ok (.iconst 0, 1) := by decide +kernel
theorem dX7_isLeastSet_36 : decode cX7_isLeastSet 36 = .ok (.istore_n 3, 1) := by decide +kernel
theorem dX7_isLeastSet_37 : decode cX7_isLeastSet 37 = .ok (.iload_n 3, 1) := by decide +kernel
theorem dX7_isLeastSet_38 : decode cX7_isLeastSet 38 = .ok (.iload_n 2, 1) := by decide +kernel
theorem dX7_isLeastSet_39 : decode cX7_isLeastSet 39 = .ok (.if_icmp .ge 21, 3) := by decide +kernel
theorem dX7_isLeastSet_42 : decode cX7_isLeastSet 42 = .ok (.aload_n 0, 1) := by decide +kernel
theorem dX7_isLeastSet_43 : decode cX7_isLeastSet 43 = .ok (.getfield 104, 3) := by decide +kernel
theorem dX7_isLeastSet_46 : decode cX7_isLeastSet 46 = .ok (.iload_n 3, 1) := by decide +kernel
theorem dX7_isLeastSet_47 : decode cX7_isLeastSet 47 = .ok (.aload_n 0, 1) := by decide +kernel
theorem dX7_isLeastSet_48 : decode cX7_isLeastSet 48 = .ok (.getfield 98, 3) := by decide +kernel
theorem dX7_isLeastSet_51 : decode cX7_isLeastSet 51 = .ok (.iload_n 3, 1) := by decide +kernel
theorem dX7_isLeastSet_52 : decode cX7_isLeastSet 52 = .ok (.iaload, 1) := by decide +kernel
theorem dX7_isLeastSet_53 : decode cX7_isLeastSet 53 = .ok (.iastore, 1) := by decide +kernel
theorem dX7_isLeastSet_54 : decode cX7_isLeastSet 54 = .ok (.iinc 3 1, 3) := by decide +kernel
theorem dX7_isLeastSet_57 : decode cX7_isLeastSet 57 = .ok (.goto (-20), 3) := by decide +kernel
theorem dX7_isLeastSet_60 : decode cX7_isLeastSet 60 = .ok (.iconst 1, 1) := by decide +kernel
theorem dX7_isLeastSet_61 : decode cX7_isLeastSet 61 = .ok (.istore_n 3, 1) := by decide +kernel
theorem dX7_isLeastSet_62 : decode cX7_isLeastSet 62 = .ok (.iconst 0, 1) := by decide +kernel
theorem dX7_isLeastSet_63 : decode cX7_isLeastSet 63 = .ok (.istore 4, 2) := by decide +kernel
theorem dX7_isLeastSet_65 : decode cX7_isLeastSet 65 = .ok (.iload 4, 2) := by decide +kernel
theorem dX7_isLeastSet_67 : decode cX7_isLeastSet 67 = .ok (.iload_n 1, 1) := by decide +kernel
theorem dX7_isLeastSet_68 : decode cX7_isLeastSet 68 = .ok (.invokestatic 277, 3) := by decide +kernel
theorem dX7_isLeastSet_71 : decode cX7_isLeastSet 71 = .ok (.if_icmp .ge 77, 3) := by decide +kernel
theorem dX7_isLeastSet_74 : decode cX7_isLeastSet 74 = .ok (.iload_n 3, 1) := by decide +kernel
theorem dX7_isLeastSet_75 : decode cX7_isLeastSet 75 = .ok (.ifCond .eq 73, 3) := by decide +kernel
theorem dX7_isLeastSet_78 : decode cX7_isLeastSet 78 = .ok (.aload_n 0, 1) := by decide +kernel
theorem dX7_isLeastSet_79 : decode cX7_isLeastSet 79 = .ok (.iload_n 1, 1) := by decide +kernel
theorem dX7_isLeastSet_80 : decode cX7_isLeastSet 80 = .ok (.iload 4, 2) := by decide +kernel
theorem dX7_isLeastSet_82 : decode cX7_isLeastSet 82 = .ok (.invokevirtual 283, 3) := by decide +kernel
theorem dX7_isLeastSet_85 : decode cX7_isLeastSet 85 = .ok (.iconst 0, 1) := by decide +kernel
theorem dX7_isLeastSet_86 : decode cX7_isLeastSet 86 = .ok (.istore 5, 2) := by decide +kernel
theorem dX7_isLeastSet_88 : decode cX7_isLeastSet 88 = .ok (.iload 5, 2) := by decide +kernel
theorem dX7_isLeastSet_90 : decode cX7_isLeastSet 90 = .ok (.iload_n 2, 1) := by decide +kernel
theorem dX7_isLeastSet_91 : decode cX7_isLeastSet 91 = .ok (.if_icmp .ge 28, 3) := by decide +kernel
theorem dX7_isLeastSet_94 : decode cX7_isLeastSet 94 = .ok (.aload_n 0, 1) := by decide +kernel
theorem dX7_isLeastSet_95 : decode cX7_isLeastSet 95 = .ok (.getfield 98, 3) := by decide +kernel
theorem dX7_isLeastSet_98 : decode cX7_isLeastSet 98 = .ok (.iload 5, 2) := by decide +kernel
theorem dX7_isLeastSet_100 : decode cX7_isLeastSet 100 = .ok (.aload_n 0, 1) := by decide +kernel
theorem dX7_isLeastSet_101 : decode cX7_isLeastSet 101 = .ok (.aload_n 0, 1) := by decide +kernel
theorem dX7_isLeastSet_102 : decode cX7_isLeastSet 102 = .ok (.getfield 104, 3) := by decide +kernel
theorem dX7_isLeastSet_105 : decode cX7_isLeastSet 105 = .ok (.iload 5, 2) := by decide +kernel
theorem dX7_isLeastSet_107 : decode cX7_isLeastSet 107 = .ok (.iaload, 1) := by decide +kernel
theorem dX7_isLeastSet_108 : decode cX7_isLeastSet 108 = .ok (.iload_n 1, 1) := by decide +kernel
theorem dX7_isLeastSet_109 : decode cX7_isLeastSet 109 = .ok (.invokevirtual 287, 3) := by decide +kernel
theorem dX7_isLeastSet_112 : decode cX7_isLeastSet 112 = .ok (.iastore, 1) := by decide +kernel
theorem dX7_isLeastSet_113 : decode cX7_isLeastSet 113 = .ok (.iinc 5 1, 3) := by decide +kernel
theorem dX7_isLeastSet_116 : decode cX7_isLeastSet 116 = .ok (.goto (-28), 3) := by decide +kernel
theorem dX7_isLeastSet_119 : decode cX7_isLeastSet 119 = .ok (.aload_n 0, 1) := by decide +kernel
theorem dX7_isLeastSet_120 : decode cX7_isLeastSet 120 = .ok (.iload_n 2, 1) := by decide +kernel
theorem dX7_isLeastSet_121 : decode cX7_isLeastSet 121 = .ok (.invokevirtual 280, 3) := by decide +kernel
theorem dX7_isLeastSet_124 : decode cX7_isLeastSet 124 = .ok (.aload_n 0, 1) := by decide +kernel
theorem dX7_isLeastSet_125 : decode cX7_isLeastSet 125 = .ok (.aload_n 0, 1) := by decide +kernel
theorem dX7_isLeastSet_126 : decode cX7_isLeastSet 126 = .ok (.getfield 104, 3) := by decide +kernel
theorem dX7_isLeastSet_129 : decode cX7_isLeastSet 129 = .ok (.iload_n 2, 1) := by decide +kernel
theorem dX7_isLeastSet_130 : decode cX7_isLeastSet 130 = .ok (.invokevirtual 290, 3) := by decide +kernel
theorem dX7_isLeastSet_133 : decode cX7_isLeastSet 133 = .ok (.ifCond .lt 7, 3) := by decide +kernel
theorem dX7_isLeastSet_136 : decode cX7_isLeastSet 136 = .ok (.iconst 1, 1) := by decide +kernel
theorem dX7_isLeastSet_137 : decode cX7_isLeastSet 137 = .ok (.goto 4, 3) := by decide +kernel
theorem dX7_isLeastSet_140 : decode cX7_isLeastSet 140 = .ok (.iconst 0, 1) := by decide +kernel
theorem dX7_isLeastSet_141 : decode cX7_isLeastSet 141 = .ok (.istore_n 3, 1) := by decide +kernel
theorem dX7_isLeastSet_142 : decode cX7_isLeastSet 142 = .ok (.iinc 4 1, 3) := by decide +kernel
theorem dX7_isLeastSet_145 : decode cX7_isLeastSet 145 = .ok (.goto (-80), 3) := by decide +kernel
theorem dX7_isLeastSet_148 : decode cX7_isLeastSet 148 = .ok (.iload_n 3, 1) := by decide +kernel
theorem dX7_isLeastSet_149 : decode cX7_isLeastSet 149 = .ok (.ireturn, 1) := by decide +kernel
theorem dX7_nextSet_0 : decode cX7_nextSet 0 = .ok (.iload_n 1, 1) := by decide +kernel
theorem dX7_nextSet_1 : decode cX7_nextSet 1 = .ok (.iconst 1, 1) := by decide +kernel
theorem dX7_nextSet_2 : decode cX7_nextSet 2 = .ok (.isub, 1) := by decide +kernel
theorem dX7_nextSet_3 : decode cX7_nextSet 3 = .ok (.istore_n 2, 1) := by decide +kernel
theorem dX7_nextSet_4 : decode cX7_nextSet 4 = .ok (.iload_n 2, 1) := by decide +kernel
theorem dX7_nextSet_5 : decode cX7_nextSet 5 = .ok (.ifCond .lt 26, 3) := by decide +kernel
theorem dX7_nextSet_8 : decode cX7_nextSet 8 = .ok (.aload_n 0, 1) := by decide +kernel
theorem dX7_nextSet_9 : decode cX7_nextSet 9 = .ok (.getfield 116, 3) := by decide +kernel
theorem dX7_nextSet_12 : decode cX7_nextSet 12 = .ok (.iload_n 2, 1) := by decide +kernel
theorem dX7_nextSet_13 : decode cX7_nextSet 13 = .ok (.iaload, 1) := by decide +kernel
theorem dX7_nextSet_14 : decode cX7_nextSet 14 = .ok (.aload_n 0, 1) := by decide +kernel
theorem dX7_nextSet_15 : decode cX7_nextSet 15 = .ok (.getfield 303, 3) := by decide +kernel
theorem dX7_nextSet_18 : decode cX7_nextSet 18 = .ok (.iload_n 1, 1) := by decide +kernel
theorem dX7_nextSet_19 : decode cX7_nextSet 19 = .ok (.isub, 1) := by decide +kernel
theorem dX7_nextSet_20 : decode cX7_nextSet 20 = .ok (.iload_n 2, 1) := by decide +kernel
theorem dX7_nextSet_21 : decode cX7_nextSet 21 = .ok (.iadd, 1) := by decide +kernel
theorem dX7_nextSet_22 : decode cX7_nextSet 22 = .ok (.if_icmp .ne 9, 3) := by decide +kernel
theorem dX7_nextSet_25 : decode cX7_nextSet 25 = .ok (.iinc 2 (-1), 3) := by decide +kernel
theorem dX7_nextSet_28 : decode cX7_nextSet 28 = .ok (.goto (-24), 3) := by decide +kernel
theorem dX7_nextSet_31 : decode cX7_nextSet 31 = .ok (.iload_n 2, 1) := by decide +kernel
theorem dX7_nextSet_32 : decode cX7_nextSet 32 = .ok (.ifCond .ge 5, 3) := by decide +kernel
theorem dX7_nextSet_35 : decode cX7_nextSet 35 = .ok (.iconst 0, 1) := by decide +kernel
theorem dX7_nextSet_36 : decode cX7_nextSet 36 = .ok (.ireturn, 1) := by decide +kernel
theorem dX7_nextSet_37 : decode cX7_nextSet 37 = .ok (.aload_n 0, 1) := by decide +kernel
theorem dX7_nextSet_38 : decode cX7_nextSet 38 = .ok (.getfield 116, 3) := by decide +kernel
theorem dX7_nextSet_41 : decode cX7_nextSet 41 = .ok (.iload_n 2, 1) := by decide +kernel
theorem dX7_nextSet_42 : decode cX7_nextSet 42 = .ok (.dup2, 1) := by decide +kernel
theorem dX7_nextSet_43 : decode cX7_nextSet 43 = .ok (.iaload, 1) := by decide +kernel
theorem dX7_nextSet_44 : decode cX7_nextSet 44 = .ok (.iconst 1, 1) := by decide +kernel
theorem dX7_nextSet_45 : decode cX7_nextSet 45 = .ok (.iadd, 1) := by decide +kernel
theorem dX7_nextSet_46 : decode cX7_nextSet 46 = .ok (.iastore, 1) := by decide +kernel
theorem dX7_nextSet_47 : decode cX7_nextSet 47 = .ok (.iload_n 2, 1) := by decide +kernel
theorem dX7_nextSet_48 : decode cX7_nextSet 48 = .ok (.iconst 1, 1) := by decide +kernel
theorem dX7_nextSet_49 : decode cX7_nextSet 49 = .ok (.iadd, 1) := by decide +kernel
theorem dX7_nextSet_50 : decode cX7_nextSet 50 = .ok (.istore_n 3, 1) := by decide +kernel
theorem dX7_nextSet_51 : decode cX7_nextSet 51 = .ok (.iload_n 3, 1) := by decide +kernel
theorem dX7_nextSet_52 : decode cX7_nextSet 52 = .ok (.iload_n 1, 1) := by decide +kernel
theorem dX7_nextSet_53 : decode cX7_nextSet 53 = .ok (.if_icmp .ge 25, 3) := by decide +kernel
theorem dX7_nextSet_56 : decode cX7_nextSet 56 = .ok (.aload_n 0, 1) := by decide +kernel
theorem dX7_nextSet_57 : decode cX7_nextSet 57 = .ok (.getfield 116, 3) := by decide +kernel
theorem dX7_nextSet_60 : decode cX7_nextSet 60 = .ok (.iload_n 3, 1) := by decide +kernel
theorem dX7_nextSet_61 : decode cX7_nextSet 61 = .ok (.aload_n 0, 1) := by decide +kernel
theorem dX7_nextSet_62 : decode cX7_nextSet 62 = .ok (.getfield 116, 3) := by decide +kernel
theorem dX7_nextSet_65 : decode cX7_nextSet 65 = .ok (.iload_n 3, 1) := by decide +kernel
theorem dX7_nextSet_66 : decode cX7_nextSet 66 = .ok (.iconst 1, 1) := by decide +kernel
theorem dX7_nextSet_67 : decode cX7_nextSet 67 = .ok (.isub, 1) := by decide +kernel
theorem dX7_nextSet_68 : decode cX7_nextSet 68 = .ok (.iaload, 1) := by decide +kernel
theorem dX7_nextSet_69 : decode cX7_nextSet 69 = .ok (.iconst 1, 1) := by decide +kernel
theorem dX7_nextSet_70 : decode cX7_nextSet 70 = .ok (.iadd, 1) := by decide +kernel
theorem dX7_nextSet_71 : decode cX7_nextSet 71 = .ok (.iastore, 1) := by decide +kernel
theorem dX7_nextSet_72 : decode cX7_nextSet 72 = .ok (.iinc 3 1, 3) := by decide +kernel
theorem dX7_nextSet_75 : decode cX7_nextSet 75 = .ok (.goto (-24), 3) := by decide +kernel
theorem dX7_nextSet_78 : decode cX7_nextSet 78 = .ok (.iconst 1, 1) := by decide +kernel
theorem dX7_nextSet_79 : decode cX7_nextSet 79 = .ok (.ireturn, 1) := by decide +kernel
set_option maxRecDepth 20000 in
theorem ggX7_kinds_X7_isIn : GoodIn wsX7_kinds wsX7_isIn := goodIn_r _ [9] (by decide +kernel) (by decide +kernel)
set_option maxRecDepth 20000 in
theorem gX7_kinds_X7_isIn : GoodIn wsX7_kinds (va_wsS RX7 125 yX7_isIn wsX7_isIn) := goodIn_app (goodIn_of _ (by decide +kernel)) ggX7_kinds_X7_isIn
set_option maxRecDepth 20000 in
theorem ggX7_kinds_X7_layTriples : GoodIn wsX7_kinds wsX7_layTriples := goodIn_r _ [13, 3, 14, 15, 16, 8, 17, 56, 57, 58, 59, 60, 61, 62, 63, 64, 65, 66, 67, 68, 69, 70, 71, 72, 73, 74, 75, 76, 77, 78, 79, 80, 81, 82, 83, 84, 85, 86, 87, 88, 89, 90, 91, 92, 93, 94, 95, 96, 97, 98, 99, 100, 101, 102, 103, 104, 105, 106, 107, 108] (by decide +kernel) (by decide +kernel)
set_option maxRecDepth 20000 in
theorem gX7_kinds_X7_layTriples : GoodIn wsX7_kinds (wsV RX7 309 RX7 yX7_layTriples wsX7_layTriples) := goodIn_app (goodIn_of _ (by decide +kernel)) ggX7_kinds_X7_layTriples
set_option maxRecDepth 20000 in
theorem ggX7_kinds_X7_isGoodSet : GoodIn wsX7_kinds wsX7_isGoodSet := goodIn_r _ [21, 14, 4, 22, 23, 8, 24, 56, 57, 58, 59, 60, 61, 62, 63, 64, 65, 66, 67, 68, 69, 70, 71, 72, 73, 74, 75, 76, 77, 78, 79, 80, 81, 82, 83, 84, 85, 86, 87, 88, 89, 90, 91, 92, 93, 94, 95, 96, 97, 98, 99, 100, 101, 102, 103, 104, 105, 106, 107, 108] (by decide +kernel) (by decide +kernel)
set_option maxRecDepth 20000 in
theorem gX7_kinds_X7_isGoodSet : GoodIn wsX7_kinds (wsV RX7 312 RX7 yX7_isGoodSet wsX7_isGoodSet) := goodIn_app (goodIn_of _ (by decide +kernel)) ggX7_kinds_X7_isGoodSet
set_option maxRecDepth 20000 in
theorem ggX7_kinds_X7_isLeastSet : GoodIn wsX7_kinds wsX7_isLeastSet := goodIn_r _ [28, 29, 14, 4, 30, 31, 32, 33, 8, 34, 35, 36, 37, 38, 39, 40, 41, 42, 43, 44, 45, 46, 47, 48, 49, 50, 51, 56, 57, 58, 59, 60, 61, 62, 63, 64, 65, 66, 67, 68, 69, 70, 71, 72, 73, 74, 75, 76, 77, 78, 79, 80, 81, 82, 83, 84, 85, 86, 87, 88, 89, 90, 91, 92, 93, 94, 95, 96, 97, 98, 99, 100, 101, 102, 103, 104, 105, 106, 107, 108] (by decide +kernel) (by decide +kernel)
set_option maxRecDepth 20000 in
theorem gX7_kinds_X7_isLeastSet : GoodIn wsX7_kinds (wsV RX7 315 RX7 yX7_isLeastSet wsX7_isLeastSet) := goodIn_app (goodIn_of _ (by decide +kernel)) ggX7_kinds_X7_isLeastSet
set_option maxRecDepth 20000 in
theorem ggX7_kinds_X7_nextSet : GoodIn wsX7_kinds wsX7_nextSet := goodIn_r _ [55, 4, 3, 56, 57, 58, 59, 60, 61, 62, 63, 64, 65, 66, 67, 68, 69, 70, 71, 72, 73, 74, 75, 76, 77, 78, 79, 80, 81, 82, 83, 84, 85, 86, 87, 88, 89, 90, 91, 92, 93, 94, 95, 96, 97, 98, 99, 100, 101, 102, 103, 104, 105, 106, 107, 108] (by decide +kernel) (by decide +kernel)
set_option maxRecDepth 20000 in
theorem gX7_kinds_X7_nextSet : GoodIn wsX7_kinds (wsV RX7 318 RX7 yX7_nextSet wsX7_nextSet) := goodIn_app (goodIn_of _ (by decide +kernel)) ggX7_kinds_X7_nextSet
theorem dX7_kinds_0 : decode cX7_kinds 0 = .ok (.aload_n 0, 1) := by decide +kernel
theorem dX7_kinds_1 : decode cX7_kinds 1 = .ok (.iconst 0, 1) := by decide +kernel
theorem dX7_kinds_2 : decode cX7_kinds 2 = .ok (.putfield 122, 3) := by decide +kernel
theorem dX7_kinds_5 : decode cX7_kinds 5 = .ok (.iload_n 1, 1) := by decide +kernel
theorem dX7_kinds_6 : decode cX7_kinds 6 = .ok (.iconst 3, 1) := by decide +kernel
theorem dX7_kinds_7 : decode cX7_kinds 7 = .ok (.bipush 6, 2) := by decide +kernel
theorem dX7_kinds_9 : decode cX7_kinds 9 = .ok (.invokestatic 125, 3) := by decide +kernel
theorem dX7_kinds_12 : decode cX7_kinds 12 = .ok (.ifCond .eq 12, 3) := by decide +kernel
theorem dX7_kinds_15 : decode cX7_kinds 15 = .ok (.iload_n 2, 1) := by decide +kernel
theorem dX7_kinds_16 : decode cX7_kinds 16 = .ok (.iconst 0, 1) := by decide +kernel
theorem dX7_kinds_17 : decode cX7_kinds 17 = .ok (.iconst 4, 1) := by decide +kernel
theorem dX7_kinds_18 : decode cX7_kinds 18 = .ok (.invokestatic 125, 3) := by decide +kernel
theorem dX7_kinds_21 : decode cX7_kinds 21 = .ok (.ifCond .ne 6, 3) := by decide +kernel
theorem dX7_kinds_24 : decode cX7_kinds 24 = .ok (.bipush (-9), 2) := by decide +kernel
theorem dX7_kinds_26 : decode cX7_kinds 26 = .ok (.ireturn, 1) := by decide +kernel
theorem dX7_kinds_27 : decode cX7_kinds 27 = .ok (.iconst 5, 1) := by decide +kernel
theorem dX7_kinds_28 : decode cX7_kinds 28 = .ok (.iload_n 1, 1) := by decide +kernel
theorem dX7_kinds_29 : decode cX7_kinds 29 = .ok (.imul, 1) := by decide +kernel
theorem dX7_kinds_30 : decode cX7_kinds 30 = .ok (.iload_n 2, 1) := by decide +kernel
theorem dX7_kinds_31 : decode cX7_kinds 31 = .ok (.iadd, 1) := by decide +kernel
theorem dX7_kinds_32 : decode cX7_kinds 32 = .ok (.istore_n 3, 1) := by decide +kernel
theorem dX7_kinds_33 : decode cX7_kinds 33 = .ok (.aload_n 0, 1) := by decide +kernel
theorem dX7_kinds_34 : decode cX7_kinds 34 = .ok (.getfield 110, 3) := by decide +kernel
theorem dX7_kinds_37 : decode cX7_kinds 37 = .ok (.iload_n 3, 1) := by decide +kernel
theorem dX7_kinds_38 : decode cX7_kinds 38 = .ok (.iaload, 1) := by decide +kernel
theorem dX7_kinds_39 : decode cX7_kinds 39 = .ok (.ifCond .ne 107, 3) := by decide +kernel
theorem dX7_kinds_42 : decode cX7_kinds 42 = .ok (.aload_n 0, 1) := by decide +kernel
theorem dX7_kinds_43 : decode cX7_kinds 43 = .ok (.iload_n 1, 1) := by decide +kernel
theorem dX7_kinds_44 : decode cX7_kinds 44 = .ok (.invokevirtual 309, 3) := by decide +kernel
theorem dX7_kinds_47 : decode cX7_kinds 47 = .ok (.iconst 0, 1) := by decide +kernel
theorem dX7_kinds_48 : decode cX7_kinds 48 = .ok (.istore 4, 2) := by decide +kernel
theorem dX7_kinds_50 : decode cX7_kinds 50 = .ok (.iload_n 2, 1) := by decide +kernel
theorem dX7_kinds_51 : decode cX7_kinds 51 = .ok (.aload_n 0, 1) := by decide +kernel
theorem dX7_kinds_52 : decode cX7_kinds 52 = .ok (.getfield 303, 3) := by decide +kernel
theorem dX7_kinds_55 : decode cX7_kinds 55 = .ok (.if_icmp .gt 7, 3) := by decide +kernel
theorem dX7_kinds_58 : decode cX7_kinds 58 = .ok (.iconst 1, 1) := by decide +kernel
theorem dX7_kinds_59 : decode cX7_kinds 59 = .ok (.goto 4, 3) := by decide +kernel
theorem dX7_kinds_62 : decode cX7_kinds 62 = .ok (.iconst 0, 1) := by decide +kernel
theorem dX7_kinds_63 : decode cX7_kinds 63 = .ok (.istore 5, 2) := by decide +kernel
theorem dX7_kinds_65 : decode cX7_kinds 65 = .ok (.iconst 0, 1) := by decide +kernel
theorem dX7_kinds_66 : decode cX7_kinds 66 = .ok (.istore 6, 2) := by decide +kernel
theorem dX7_kinds_68 : decode cX7_kinds 68 = .ok (.iload 6, 2) := by decide +kernel
theorem dX7_kinds_70 : decode cX7_kinds 70 = .ok (.iload_n 2, 1) := by decide +kernel
theorem dX7_kinds_71 : decode cX7_kinds 71 = .ok (.if_icmp .ge 18, 3) := by decide +kernel
theorem dX7_kinds_74 : decode cX7_kinds 74 = .ok (.aload_n 0, 1) := by decide +kernel
theorem dX7_kinds_75 : decode cX7_kinds 75 = .ok (.getfield 116, 3) := by decide +kernel
theorem dX7_kinds_78 : decode cX7_kinds 78 = .ok (.iload 6, 2) := by decide +kernel
theorem dX7_kinds_80 : decode cX7_kinds 80 = .ok (.iload 6, 2) := by decide +kernel
theorem dX7_kinds_82 : decode cX7_kinds 82 = .ok (.iastore, 1) := by decide +kernel
theorem dX7_kinds_83 : decode cX7_kinds 83 = .ok (.iinc 6 1, 3) := by decide +kernel
theorem dX7_kinds_86 : decode cX7_kinds 86 = .ok (.goto (-18), 3) := by decide +kernel
theorem dX7_kinds_89 : decode cX7_kinds 89 = .ok (.iload 5, 2) := by decide +kernel
theorem dX7_kinds_91 : decode cX7_kinds 91 = .ok (.ifCond .eq 40, 3) := by decide +kernel
theorem dX7_kinds_94 : decode cX7_kinds 94 = .ok (.iload 4, 2) := by decide +kernel
theorem dX7_kinds_96 : decode cX7_kinds 96 = .ok (.aload_n 0, 1) := by decide +kernel
theorem dX7_kinds_97 : decode cX7_kinds 97 = .ok (.iload_n 2, 1) := by decide +kernel
theorem dX7_kinds_98 : decode cX7_kinds 98 = .ok (.invokevirtual 312, 3) := by decide +kernel
theorem dX7_kinds_101 : decode cX7_kinds 101 = .ok (.ifCond .eq 16, 3) := by decide +kernel
theorem dX7_kinds_104 : decode cX7_kinds 104 = .ok (.aload_n 0, 1) := by decide +kernel
theorem dX7_kinds_105 : decode cX7_kinds 105 = .ok (.iload_n 1, 1) := by decide +kernel
theorem dX7_kinds_106 : decode cX7_kinds 106 = .ok (.iload_n 2, 1) := by decide +kernel
theorem dX7_kinds_107 : decode cX7_kinds 107 = .ok (.invokevirtual 315, 3) := by decide +kernel
theorem dX7_kinds_110 : decode cX7_kinds 110 = .ok (.ifCond .eq 7, 3) := by decide +kernel
theorem dX7_kinds_113 : decode cX7_kinds 113 = .ok (.iconst 1, 1) := by decide +kernel
theorem dX7_kinds_114 : decode cX7_kinds 114 = .ok (.goto 4, 3) := by decide +kernel
theorem dX7_kinds_117 : decode cX7_kinds 117 = .ok (.iconst 0, 1) := by decide +kernel
theorem dX7_kinds_118 : decode cX7_kinds 118 = .ok (.iadd, 1) := by decide +kernel
theorem dX7_kinds_119 : decode cX7_kinds 119 = .ok (.istore 4, 2) := by decide +kernel
theorem dX7_kinds_121 : decode cX7_kinds 121 = .ok (.aload_n 0, 1) := by decide +kernel
theorem dX7_kinds_122 : decode cX7_kinds 122 = .ok (.iload_n 2, 1) := by decide +kernel
theorem dX7_kinds_123 : decode cX7_kinds 123 = .ok (.invokevirtual 318, 3) := by decide +kernel
theorem dX7_kinds_126 : decode cX7_kinds 126 = .ok (.istore 5, 2) := by decide +kernel
theorem dX7_kinds_128 : decode cX7_kinds 128 = .ok (.goto (-39), 3) := by decide +kernel
theorem dX7_kinds_131 : decode cX7_kinds 131 = .ok (.aload_n 0, 1) := by decide +kernel
theorem dX7_kinds_132 : decode cX7_kinds 132 = .ok (.getfield 110, 3) := by decide +kernel
theorem dX7_kinds_135 : decode cX7_kinds 135 = .ok (.iload_n 3, 1) := by decide +kernel
theorem dX7_kinds_136 : decode cX7_kinds 136 = .ok (.iload 4, 2) := by decide +kernel
theorem dX7_kinds_138 : decode cX7_kinds 138 = .ok (.iconst 1, 1) := by decide +kernel
theorem dX7_kinds_139 : decode cX7_kinds 139 = .ok (.iadd, 1) := by decide +kernel
theorem dX7_kinds_140 : decode cX7_kinds 140 = .ok (.iastore, 1) := by decide +kernel
theorem dX7_kinds_141 : decode cX7_kinds 141 = .ok (.aload_n 0, 1) := by decide +kernel
theorem dX7_kinds_142 : decode cX7_kinds 142 = .ok (.iconst 0, 1) := by decide +kernel
theorem dX7_kinds_143 : decode cX7_kinds 143 = .ok (.putfield 162, 3) := by decide +kernel
theorem dX7_kinds_146 : decode cX7_kinds 146 = .ok (.aload_n 0, 1) := by decide +kernel
theorem dX7_kinds_147 : decode cX7_kinds 147 = .ok (.getfield 110, 3) := by decide +kernel
theorem dX7_kinds_150 : decode cX7_kinds 150 = .ok (.iload_n 3, 1) := by decide +kernel
theorem dX7_kinds_151 : decode cX7_kinds 151 = .ok (.iaload, 1) := by decide +kernel
theorem dX7_kinds_152 : decode cX7_kinds 152 = .ok (.iconst 1, 1) := by decide +kernel
theorem dX7_kinds_153 : decode cX7_kinds 153 = .ok (.isub, 1) := by decide +kernel
theorem dX7_kinds_154 : decode cX7_kinds 154 = .ok (.ireturn, 1) := by decide +kernel
theorem dJ6_compare_7cf53_0 : decode cJ6_compare_7cf53 0 = .ok (.iload_n 0, 1) := by decide +kernel
theorem dJ6_compare_7cf53_1 : decode cJ6_compare_7cf53 1 = .ok (.iload_n 1, 1) := by decide +kernel
theorem dJ6_compare_7cf53_2 : decode cJ6_compare_7cf53 2 = .ok (.if_icmp .ge 7, 3) := by decide +kernel
theorem dJ6_compare_7cf53_5 : decode cJ6_compare_7cf53 5 = .ok (.iconst (-1), 1) := by decide +kernel
theorem dJ6_compare_7cf53_6 : decode cJ6_compare_7cf53 6 = .ok (.goto 13, 3) := by decide +kernel
theorem dJ6_compare_7cf53_9 : decode cJ6_compare_7cf53 9 = .ok (.iload_n 0, 1) := by decide +kernel
theorem dJ6_compare_7cf53_10 : decode cJ6_compare_7cf53 10 = .ok (.iload_n 1, 1) := by decide +kernel
theorem dJ6_compare_7cf53_11 : decode cJ6_compare_7cf53 11 = .ok (.if_icmp .ne 7, 3) := by decide +kernel
theorem dJ6_compare_7cf53_14 : decode cJ6_compare_7cf53 14 = .ok (.iconst 0, 1) := by decide +kernel
theorem dJ6_compare_7cf53_15 : decode cJ6_compare_7cf53 15 = .ok (.goto 4, 3) := by decide +kernel
theorem dJ6_compare_7cf53_18 : decode cJ6_compare_7cf53 18 = .ok (.iconst 1, 1) := by decide +kernel
theorem dJ6_compare_7cf53_19 : decode cJ6_compare_7cf53 19 = .ok (.ireturn, 1) := by decide +kernel
theorem dJ6_bitCount_0f7a4_0 : decode cJ6_bitCount_0f7a4 0 = .ok (.iload_n 0, 1) := by decide +kernel
theorem dJ6_bitCount_0f7a4_1 : decode cJ6_bitCount_0f7a4 1 = .ok (.iload_n 0, 1) := by decide +kernel
theorem dJ6_bitCount_0f7a4_2 : decode cJ6_bitCount_0f7a4 2 = .ok (.iconst 1, 1) := by decide +kernel
theorem dJ6_bitCount_0f7a4_3 : decode cJ6_bitCount_0f7a4 3 = .ok (.iushr, 1) := by decide +kernel
theorem dJ6_bitCount_0f7a4_4 : decode cJ6_bitCount_0f7a4 4 = .ok (.ldc_w 265, 3) := by decide +kernel
theorem dJ6_bitCount_0f7a4_7 : decode cJ6_bitCount_0f7a4 7 = .ok (.iand, 1) := by decide +kernel
theorem dJ6_bitCount_0f7a4_8 : decode cJ6_bitCount_0f7a4 8 = .ok (.isub, 1) := by decide +kernel
theorem dJ6_bitCount_0f7a4_9 : decode cJ6_bitCount_0f7a4 9 = .ok (.istore_n 0, 1) := by decide +kernel
theorem dJ6_bitCount_0f7a4_10 : decode cJ6_bitCount_0f7a4 10 = .ok (.iload_n 0, 1) := by decide +kernel
theorem dJ6_bitCount_0f7a4_11 : decode cJ6_bitCount_0f7a4 11 = .ok (.ldc_w 266, 3) := by decide +kernel
theorem dJ6_bitCount_0f7a4_14 : decode cJ6_bitCount_0f7a4 14 = .ok (.iand, 1) := by decide +kernel
theorem dJ6_bitCount_0f7a4_15 : decode cJ6_bitCount_0f7a4 15 = .ok (.iload_n 0, 1) := by decide +kernel
theorem dJ6_bitCount_0f7a4_16 : decode cJ6_bitCount_0f7a4 16 = .ok (.iconst 2, 1) := by decide +kernel
theorem dJ6_bitCount_0f7a4_17 : decode cJ6_bitCount_0f7a4 17 = .ok (.iushr, 1) := by decide +kernel
theorem dJ6_bitCount_0f7a4_18 : decode cJ6_bitCount_0f7a4 18 = .ok (.ldc_w 266, 3) := by decide +kernel
theorem dJ6_bitCount_0f7a4_21 : decode cJ6_bitCount_0f7a4 21 = .ok (.iand, 1) := by decide +kernel
theorem dJ6_bitCount_0f7a4_22 : decode cJ6_bitCount_0f7a4 22 = .ok (.iadd, 1) := by decide +kernel
theorem dJ6_bitCount_0f7a4_23 : decode cJ6_bitCount_0f7a4 23 = .ok (.istore_n 0, 1) := by decide +kernel
theorem dJ6_bitCount_0f7a4_24 : decode cJ6_bitCount_0f7a4 24 = .ok (.iload_n 0, 1) := by decide +kernel
theorem dJ6_bitCount_0f7a4_25 : decode cJ6_bitCount_0f7a4 25 = .ok (.iload_n 0, 1) := by decide +kernel
theorem dJ6_bitCount_0f7a4_26 : decode cJ6_bitCount_0f7a4 26 = .ok (.iconst 4, 1) := by decide +kernel
theorem dJ6_bitCount_0f7a4_27 : decode cJ6_bitCount_0f7a4 27 = .ok (.iushr, 1) := by decide +kernel
theorem dJ6_bitCount_0f7a4_28 : decode cJ6_bitCount_0f7a4 28 = .ok (.iadd, 1) := by decide +kernel
theorem dJ6_bitCount_0f7a4_29 : decode cJ6_bitCount_0f7a4 29 = .ok (.ldc_w 267, 3) := by decide +kernel
theorem dJ6_bitCount_0f7a4_32 : decode cJ6_bitCount_0f7a4 32 = .ok (.iand, 1) := by decide +kernel
theorem dJ6_bitCount_0f7a4_33 : decode cJ6_bitCount_0f7a4 33 = .ok (.istore_n 0, 1) := by decide +kernel
theorem dJ6_bitCount_0f7a4_34 : decode cJ6_bitCount_0f7a4 34 = .ok (.iload_n 0, 1) := by decide +kernel
theorem dJ6_bitCount_0f7a4_35 : decode cJ6_bitCount_0f7a4 35 = .ok (.iload_n 0, 1) := by decide +kernel
theorem dJ6_bitCount_0f7a4_36 : decode cJ6_bitCount_0f7a4 36 = .ok (.bipush 8, 2) := by decide +kernel
theorem dJ6_bitCount_0f7a4_38 : decode cJ6_bitCount_0f7a4 38 = .ok (.iushr, 1) := by decide +kernel
theorem dJ6_bitCount_0f7a4_39 : decode cJ6_bitCount_0f7a4 39 = .ok (.iadd, 1) := by decide +kernel
theorem dJ6_bitCount_0f7a4_40 : decode cJ6_bitCount_0f7a4 40 = .ok (.istore_n 0, 1) := by decide +kernel
theorem dJ6_bitCount_0f7a4_41 : decode cJ6_bitCount_0f7a4 41 = .ok (.iload_n 0, 1) := by decide +kernel
theorem dJ6_bitCount_0f7a4_42 : decode cJ6_bitCount_0f7a4 42 = .ok (.iload_n 0, 1) := by decide +kernel
theorem dJ6_bitCount_0f7a4_43 : decode cJ6_bitCount_0f7a4 43 = .ok (.bipush 16, 2) := by decide +kernel
theorem dJ6_bitCount_0f7a4_45 : decode cJ6_bitCount_0f7a4 45 = .ok (.iushr, 1) := by decide +kernel
theorem dJ6_bitCount_0f7a4_46 : decode cJ6_bitCount_0f7a4 46 = .ok (.iadd, 1) := by decide +kernel
theorem dJ6_bitCount_0f7a4_47 : decode cJ6_bitCount_0f7a4 47 = .ok (.istore_n 0, 1) := by decide +kernel
theorem dJ6_bitCount_0f7a4_48 : decode cJ6_bitCount_0f7a4 48 = .ok (.iload_n 0, 1) := by decide +kernel
theorem dJ6_bitCount_0f7a4_49 : decode cJ6_bitCount_0f7a4 49 = .ok (.bipush 63, 2) := by decide +kernel
theorem dJ6_bitCount_0f7a4_51 : decode cJ6_bitCount_0f7a4 51 = .ok (.iand, 1) := by decide +kernel
theorem dJ6_bitCount_0f7a4_52 : decode cJ6_bitCount_0f7a4 52 = .ok (.ireturn, 1) := by decide +kernel
theorem dJ9_floorMod_7cf53_0 : decode cJ9_floorMod_7cf53 0 = .ok (.iload_n 0, 1) := by decide +kernel
theorem dJ9_floorMod_7cf53_1 : decode cJ9_floorMod_7cf53 1 = .ok (.iload_n 1, 1) := by decide +kernel
theorem dJ9_floorMod_7cf53_2 : decode cJ9_floorMod_7cf53 2 = .ok (.irem, 1) := by decide +kernel
theorem dJ9_floorMod_7cf53_3 : decode cJ9_floorMod_7cf53 3 = .ok (.istore_n 2, 1) := by decide +kernel
theorem dJ9_floorMod_7cf53_4 : decode cJ9_floorMod_7cf53 4 = .ok (.iload_n 0, 1) := by decide +kernel
theorem dJ9_floorMod_7cf53_5 : decode cJ9_floorMod_7cf53 5 = .ok (.iload_n 1, 1) := by decide +kernel
theorem dJ9_floorMod_7cf53_6 : decode cJ9_floorMod_7cf53 6 = .ok (.ixor, 1) := by decide +kernel
theorem dJ9_floorMod_7cf53_7 : decode cJ9_floorMod_7cf53 7 = .ok (.ifCond .ge 11, 3) := by decide +kernel
theorem dJ9_floorMod_7cf53_10 : decode cJ9_floorMod_7cf53 10 = .ok (.iload_n 2, 1) := by decide +kernel
theorem dJ9_floorMod_7cf53_11 : decode cJ9_floorMod_7cf53 11 = .ok (.ifCond .eq 7, 3) := by decide +kernel
theorem dJ9_floorMod_7cf53_14 : decode cJ9_floorMod_7cf53 14 = .ok (.iload_n 2, 1) := by decide +kernel
theorem dJ9_floorMod_7cf53_15 : decode cJ9_floorMod_7cf53 15 = .ok (.iload_n 1, 1) := by decide +kernel
theorem dJ9_floorMod_7cf53_16 : decode cJ9_floorMod_7cf53 16 = .ok (.iadd, 1) := by decide +kernel
theorem dJ9_floorMod_7cf53_17 : decode cJ9_floorMod_7cf53 17 = .ok (.ireturn, 1) := by decide +kernel
theorem dJ9_floorMod_7cf53_18 : decode cJ9_floorMod_7cf53 18 = .ok (.iload_n 2, 1) := by decide +kernel
theorem dJ9_floorMod_7cf53_19 : decode cJ9_floorMod_7cf53 19 = .ok (.ireturn, 1) := by decide +kernel
theorem dJ9_max_7cf53_0 : decode cJ9_max_7cf53 0 = .ok (.iload_n 0, 1) := by decide +kernel
theorem dJ9_max_7cf53_1 : decode cJ9_max_7cf53 1 = .ok (.iload_n 1, 1) := by decide +kernel
theorem dJ9_max_7cf53_2 : decode cJ9_max_7cf53 2 = .ok (.if_icmp .lt 7, 3) := by decide +kernel
theorem dJ9_max_7cf53_5 : decode cJ9_max_7cf53 5 = .ok (.iload_n 0, 1) := by decide +kernel
theorem dJ9_max_7cf53_6 : decode cJ9_max_7cf53 6 = .ok (.goto 4, 3) := by decide +kernel
theorem dJ9_max_7cf53_9 : decode cJ9_max_7cf53 9 = .ok (.iload_n 1, 1) := by decide +kernel
theorem dJ9_max_7cf53_10 : decode cJ9_max_7cf53 10 = .ok (.ireturn, 1) := by decide +kernel
theorem dJ9_min_7cf53_0 : decode cJ9_min_7cf53 0 = .ok (.iload_n 0, 1) := by decide +kernel
theorem dJ9_min_7cf53_1 : decode cJ9_min_7cf53 1 = .ok (.iload_n 1, 1) := by decide +kernel
theorem dJ9_min_7cf53_2 : decode cJ9_min_7cf53 2 = .ok (.if_icmp .gt 7, 3) := by decide +kernel
theorem dJ9_min_7cf53_5 : decode cJ9_min_7cf53 5 = .ok (.iload_n 0, 1) := by decide +kernel
theorem dJ9_min_7cf53_6 : decode cJ9_min_7cf53 6 = .ok (.goto 4, 3) := by decide +kernel
theorem dJ9_min_7cf53_9 : decode cJ9_min_7cf53 9 = .ok (.iload_n 1, 1) := by decide +kernel
theorem dJ9_min_7cf53_10 : decode cJ9_min_7cf53 10 = .ok (.ireturn, 1) := by decide +kernel
theorem dJ7_fill_53178_0 : decode cJ7_fill_53178 0 = .ok (.iconst 0, 1) := by decide +kernel
theorem dJ7_fill_53178_1 : decode cJ7_fill_53178 1 = .ok (.istore_n 2, 1) := by decide +kernel
theorem dJ7_fill_53178_2 : decode cJ7_fill_53178 2 = .ok (.aload_n 0, 1) := by decide +kernel
theorem dJ7_fill_53178_3 : decode cJ7_fill_53178 3 = .ok (.arraylength, 1) := by decide +kernel
theorem dJ7_fill_53178_4 : decode cJ7_fill_53178 4 = .ok (.istore_n 3, 1) := by decide +kernel
theorem dJ7_fill_53178_5 : decode cJ7_fill_53178 5 = .ok (.iload_n 2, 1) := by decide +kernel
theorem dJ7_fill_53178_6 : decode cJ7_fill_53178 6 = .ok (.iload_n 3, 1) := by decide +kernel
theorem dJ7_fill_53178_7 : decode cJ7_fill_53178 7 = .ok (.if_icmp .ge 13, 3) := by decide +kernel
theorem dJ7_fill_53178_10 : decode cJ7_fill_53178 10 = .ok (.aload_n 0, 1) := by decide +kernel
theorem dJ7_fill_53178_11 : decode cJ7_fill_53178 11 = .ok (.iload_n 2, 1) := by decide +kernel
theorem dJ7_fill_53178_12 : decode cJ7_fill_53178 12 = .ok (.iload_n 1, 1) := by decide +kernel
theorem dJ7_fill_53178_13 : decode cJ7_fill_53178 13 = .ok (.iastore, 1) := by decide +kernel
theorem dJ7_fill_53178_14 : decode cJ7_fill_53178 14 = .ok (.iinc 2 1, 3) := by decide +kernel
theorem dJ7_fill_53178_17 : decode cJ7_fill_53178 17 = .ok (.goto (-12), 3) := by decide +kernel
theorem dJ7_fill_53178_20 : decode cJ7_fill_53178 20 = .ok (.return_, 1) := by decide +kernel
set_option maxRecDepth 20000 in
theorem ggL_meet_X6_meet : GoodIn wsL_meet wsX6_meet := goodIn_ca (goodIn_r _ [6, 7, 8, 9, 10, 11, 5, 12, 13, 14, 15, 16, 17, 18, 19, 20, 21, 22, 23, 24, 25, 26, 27, 28, 29, 30, 31, 32, 33, 34, 35, 36, 37, 38, 39, 40, 41, 42, 43, 44, 45, 46, 47, 48, 49, 50, 51, 52, 53, 54, 55, 56, 57, 58, 59, 60, 61, 62, 63, 64, 65, 66, 67, 68, 69, 70, 71, 72, 73, 74, 75, 76, 77, 78, 79, 80, 81, 82, 83, 84, 85, 86, 87, 88, 89, 90, 91, 92, 93, 94, 95, 96, 97, 98] (by decide +kernel) (by decide +kernel)) (goodIn_sub (fun _ h => List.mem_cons_of_mem _ (List.mem_append_right _ h)) (by decide +kernel))
set_option maxRecDepth 20000 in
theorem gL_meet_X6_meet : GoodIn wsL_meet (wsV RL 7 RX6 yX6_meet wsX6_meet) := goodIn_app (goodIn_of _ (by decide +kernel)) ggL_meet_X6_meet
theorem dL_meet_0 : decode cL_meet 0 = .ok (.aload_n 3, 1) := by decide +kernel
theorem dL_meet_1 : decode cL_meet 1 = .ok (.iconst 0, 1) := by decide +kernel
theorem dL_meet_2 : decode cL_meet 2 = .ok (.aload_n 0, 1) := by decide +kernel
theorem dL_meet_3 : decode cL_meet 3 = .ok (.iload_n 1, 1) := by decide +kernel
theorem dL_meet_4 : decode cL_meet 4 = .ok (.iload_n 2, 1) := by decide +kernel
theorem dL_meet_5 : decode cL_meet 5 = .ok (.invokevirtual 7, 3) := by decide +kernel
theorem dL_meet_8 : decode cL_meet 8 = .ok (.i2l, 1) := by decide +kernel
theorem dL_meet_9 : decode cL_meet 9 = .ok (.lastore, 1) := by decide +kernel
theorem dL_meet_10 : decode cL_meet 10 = .ok (.goto 7, 3) := by decide +kernel
theorem dL_meet_13 : decode cL_meet 13 = .ok (.astore 4, 2) := by decide +kernel
theorem dL_meet_15 : decode cL_meet 15 = .ok (.iconst 1, 1) := by decide +kernel
theorem dL_meet_16 : decode cL_meet 16 = .ok (.ireturn, 1) := by decide +kernel
theorem dL_meet_17 : decode cL_meet 17 = .ok (.iconst 0, 1) := by decide +kernel
theorem dL_meet_18 : decode cL_meet 18 = .ok (.ireturn, 1) := by decide +kernel
set_option maxRecDepth 20000 in
theorem ggL_pivot_X6_pivot : GoodIn wsL_pivot wsX6_pivot := goodIn_ca (goodIn_r _ [6, 7, 8, 9, 10, 5, 11, 12, 13, 14, 15, 16, 17, 18, 19, 20] (by decide +kernel) (by decide +kernel)) (goodIn_sub (fun _ h => List.mem_cons_of_mem _ (List.mem_append_right _ h)) (by decide +kernel))
set_option maxRecDepth 20000 in
theorem gL_pivot_X6_pivot : GoodIn wsL_pivot (wsV RL 15 RX6 yX6_pivot wsX6_pivot) := goodIn_app (goodIn_of _ (by decide +kernel)) ggL_pivot_X6_pivot
theorem dL_pivot_0 : decode cL_pivot 0 = .ok (.aload 4, 2) := by decide +kernel
theorem dL_pivot_2 : decode cL_pivot 2 = .ok (.iconst 0, 1) := by decide +kernel
theorem dL_pivot_3 : decode cL_pivot 3 = .ok (.aload_n 0, 1) := by decide +kernel
theorem dL_pivot_4 : decode cL_pivot 4 = .ok (.iload_n 1, 1) := by decide +kernel
theorem dL_pivot_5 : decode cL_pivot 5 = .ok (.iload_n 2, 1) := by decide +kernel
theorem dL_pivot_6 : decode cL_pivot 6 = .ok (.iload_n 3, 1) := by decide +kernel
theorem dL_pivot_7 : decode cL_pivot 7 = .ok (.invokevirtual 15, 3) := by decide +kernel
theorem dL_pivot_10 : decode cL_pivot 10 = .ok (.i2l, 1) := by decide +kernel
theorem dL_pivot_11 : decode cL_pivot 11 = .ok (.lastore, 1) := by decide +kernel
theorem dL_pivot_12 : decode cL_pivot 12 = .ok (.goto 7, 3) := by decide +kernel
theorem dL_pivot_15 : decode cL_pivot 15 = .ok (.astore 5, 2) := by decide +kernel
theorem dL_pivot_17 : decode cL_pivot 17 = .ok (.iconst 1, 1) := by decide +kernel
theorem dL_pivot_18 : decode cL_pivot 18 = .ok (.ireturn, 1) := by decide +kernel
theorem dL_pivot_19 : decode cL_pivot 19 = .ok (.iconst 0, 1) := by decide +kernel
theorem dL_pivot_20 : decode cL_pivot 20 = .ok (.ireturn, 1) := by decide +kernel
set_option maxRecDepth 20000 in
theorem ggL_law_X6_init : GoodIn wsL_law wsX6_init := goodIn_r _ [9, 10, 11, 12, 13, 14, 15, 16, 17, 18, 19, 20, 21, 22, 23, 24, 25, 26, 27, 28, 29, 30, 31, 32, 33, 34, 35, 36, 37, 38, 39, 40, 41, 42, 43, 44, 45, 46, 47, 48, 49, 50, 51, 52, 53, 54, 55, 56, 57, 58, 59, 60, 61, 62, 63, 64, 65, 66, 67, 68, 69, 70, 71, 72, 73, 74, 75, 76, 77, 78, 79, 80, 81, 82, 83, 84, 85, 86, 87, 88, 89, 90, 91, 92, 93, 94, 95, 96, 97, 98, 99, 100, 101, 102, 103, 104, 105, 106, 107, 108, 109, 110, 111, 112, 113, 114, 115, 116, 117, 118, 878, 879, 880, 881, 882, 883, 884, 885, 939, 940, 941, 942, 943, 944, 945, 946, 947, 948, 949, 950, 951, 952, 953, 954, 955, 956, 957, 958, 959, 960, 961, 962, 963, 964, 965, 966, 967, 968, 969, 970, 971, 972, 973, 974, 975, 976, 977, 978, 979, 980, 981, 982, 983, 984, 985, 986, 987, 988] (by decide +kernel) (by decide +kernel)
set_option maxRecDepth 20000 in
theorem gL_law_X6_init : GoodIn wsL_law (wsX6_init) := ggL_law_X6_init
set_option maxRecDepth 20000 in
theorem ggL_law_X7_init : GoodIn wsL_law wsX7_init := goodIn_r _ [121, 122, 11, 12, 13, 123, 124, 125, 126, 127, 128, 129, 130, 131, 132, 133, 134, 135, 136, 137, 138, 139, 140, 141, 142, 143, 144, 145, 146, 147, 148, 149, 150, 151, 152, 153, 154, 155, 156, 157, 158, 159, 886, 887, 888, 889, 890, 891, 892, 893, 894, 895, 896, 897, 898, 899, 900, 901, 902, 903, 904, 905, 906, 907, 908, 909, 910, 911, 912, 913, 914, 915, 916, 917, 918, 919, 920, 921, 922, 923, 924, 925, 926, 927, 928, 929, 930, 931, 932, 933, 934, 935, 936, 937, 938] (by decide +kernel) (by decide +kernel)
set_option maxRecDepth 20000 in
theorem gL_law_X7_init : GoodIn wsL_law (wsX7_init) := ggL_law_X7_init
set_option maxRecDepth 20000 in
theorem ggL_law_X6_sign : GoodIn wsL_law wsX6_sign := goodIn_r _ [163, 15, 14, 878, 879, 880, 881, 882, 883, 884, 885] (by decide +kernel) (by decide +kernel)
set_option maxRecDepth 20000 in
theorem gL_law_X6_sign : GoodIn wsL_law (wsV RL 23 RX6 yX6_sign wsX6_sign) := goodIn_app (goodIn_of _ (by decide +kernel)) ggL_law_X6_sign
set_option maxRecDepth 20000 in
theorem ggL_law_X7_sign : GoodIn wsL_law wsX7_sign := goodIn_r _ [167, 168, 169, 123, 170, 171, 5, 172, 886, 887, 888, 889, 890, 891, 892, 893, 894, 895, 896, 897, 898, 899, 900, 901, 902, 903, 904, 905, 906, 907, 908, 909, 910, 911, 912, 913, 914, 915, 916, 917, 918, 919, 920, 921, 922, 923, 924, 925, 926, 927, 928, 929, 930, 931, 932, 933, 934, 935, 936, 937, 938] (by decide +kernel) (by decide +kernel)
set_option maxRecDepth 20000 in
theorem gL_law_X7_sign : GoodIn wsL_law (wsV RL 27 RX7 yX7_sign wsX7_sign) := goodIn_app (goodIn_of _ (by decide +kernel)) ggL_law_X7_sign
set_option maxRecDepth 20000 in
theorem ggL_law_X6_read : GoodIn wsL_law wsX6_read := goodIn_r _ [176, 20, 14, 15, 19, 24, 28, 32, 36, 177, 178, 179, 180, 18, 181, 40, 41, 42, 48, 182, 183, 184, 185, 44, 186, 187, 188, 189, 46, 47, 190, 191, 192, 193, 194, 195, 196, 197, 43, 198, 199, 200, 201, 202, 203, 204, 205, 206, 207, 208, 209, 210, 211, 23, 212, 53, 54, 55, 56, 57, 213, 214, 215, 216, 217, 218, 219, 220, 221, 222, 223, 224, 225, 226, 227, 228, 229, 230, 231, 232, 27, 233, 66, 67, 234, 235, 236, 31, 237, 91, 92, 238, 239, 240, 35, 241, 108, 878, 879, 880, 881, 882, 883, 884, 885, 939, 940, 941, 942, 943, 944, 945, 946, 947, 948, 949, 950, 951, 952, 953, 954, 955, 956, 957, 958, 959, 960, 961, 962, 963, 964, 965, 966, 967, 968, 969, 970, 971, 972, 973, 974, 975, 976, 977, 978, 979, 980, 981, 982, 983, 984, 985] (by decide +kernel) (by decide +kernel)
set_option maxRecDepth 20000 in
theorem gL_law_X6_read : GoodIn wsL_law (wsV RL 28 RX6 yX6_read wsX6_read) := goodIn_app (goodIn_of _ (by decide +kernel)) ggL_law_X6_read
set_option maxRecDepth 20000 in
theorem ggL_law_X7_read : GoodIn wsL_law wsX7_read := goodIn_r _ [245, 168, 169, 246, 247, 248, 125, 126, 129, 128, 130, 124, 127, 249, 250, 251, 252, 253, 254, 159, 255, 256, 257, 5, 258, 123, 131, 170, 171, 172, 259, 260, 261, 262, 886, 887, 888, 889, 890, 891, 892, 893, 894, 895, 896, 897, 898, 899, 900, 901, 902, 903, 904, 905, 906, 907, 908, 909, 910, 911, 912, 913, 914, 915, 916, 917, 918, 919, 920, 921, 922, 923, 924, 925, 926, 927, 928, 929, 930, 931, 932, 933, 934, 935, 936, 937, 938] (by decide +kernel) (by decide +kernel)
set_option maxRecDepth 20000 in
theorem gL_law_X7_read : GoodIn wsL_law (wsV RL 32 RX7 yX7_read wsX7_read) := goodIn_app (goodIn_of _ (by decide +kernel)) ggL_law_X7_read
set_option maxRecDepth 20000 in
theorem ggL_law_X6_count : GoodIn wsL_law wsX6_count := goodIn_r _ [266, 19, 267, 268, 24, 269, 270, 32, 271, 28, 272, 15, 273, 878, 879, 880, 881, 882, 883, 884, 885, 939, 940, 941, 942, 943, 944, 945, 946, 947, 948, 949, 950, 951, 966, 967, 968, 969, 970, 971, 972, 973, 974, 975, 976, 952, 953, 954, 955, 956, 957, 958, 959, 960, 961, 962, 963, 964, 965] (by decide +kernel) (by decide +kernel)
set_option maxRecDepth 20000 in
theorem gL_law_X6_count : GoodIn wsL_law (wsV RL 33 RX6 yX6_count wsX6_count) := goodIn_app (goodIn_of _ (by decide +kernel)) ggL_law_X6_count
set_option maxRecDepth 20000 in
theorem ggL_law_X7_count : GoodIn wsL_law wsX7_count := goodIn_r _ [277, 168, 246, 248, 249, 250, 251, 254, 169, 159, 886, 887, 888, 889, 890, 891, 892, 893, 894, 895, 896, 897, 898, 899, 900, 901, 902, 903, 904, 905, 906, 907, 908, 909, 910, 911, 912, 913, 914, 915, 916, 917, 918, 919, 920, 921, 922, 923, 924, 925, 926, 927, 928, 929, 930, 931, 932, 933, 934, 935, 936, 937, 938] (by decide +kernel) (by decide +kernel)
set_option maxRecDepth 20000 in
theorem gL_law_X7_count : GoodIn wsL_law (wsV RL 36 RX7 yX7_count wsX7_count) := goodIn_app (goodIn_of _ (by decide +kernel)) ggL_law_X7_count
set_option maxRecDepth 20000 in
theorem ggL_law_X6_line : GoodIn wsL_law wsX6_line := goodIn_r _ [281, 19, 282, 283, 284, 285, 286, 287, 18, 288, 41, 878, 879, 880, 881, 882, 883, 884, 885, 939, 940, 941, 942, 943, 944, 945, 946] (by decide +kernel) (by decide +kernel)
set_option maxRecDepth 20000 in
theorem gL_law_X6_line : GoodIn wsL_law (wsV RL 37 RX6 yX6_line wsX6_line) := goodIn_app (goodIn_of _ (by decide +kernel)) ggL_law_X6_line
set_option maxRecDepth 20000 in
theorem ggL_law_X7_line : GoodIn wsL_law wsX7_line := goodIn_r _ [292, 168, 248, 126, 127, 124, 170, 171, 5, 172, 886, 887, 888, 889, 890, 891, 892, 893, 894, 895, 896, 897, 898, 899, 900, 901, 902, 903, 904, 905, 906, 907, 908, 909, 910, 911, 912, 913, 914, 915, 916, 917, 918, 919, 920, 921, 922, 923, 924, 925, 926, 927, 928, 929, 930, 931, 932, 933, 934, 935, 936, 937, 938] (by decide +kernel) (by decide +kernel)
set_option maxRecDepth 20000 in
theorem gL_law_X7_line : GoodIn wsL_law (wsV RL 41 RX7 yX7_line wsX7_line) := goodIn_app (goodIn_of _ (by decide +kernel)) ggL_law_X7_line
set_option maxRecDepth 20000 in
theorem ggL_law_X6_bar : GoodIn wsL_law wsX6_bar := goodIn_r _ [296, 19, 24, 297, 298, 299, 300, 18, 301, 302, 303, 304, 305, 40, 306, 221, 23, 222, 223, 224, 225, 226, 227, 228, 229, 307, 308, 309, 310, 54, 56, 878, 879, 880, 881, 882, 883, 884, 885, 947, 948, 949, 950, 951, 939, 940, 941, 942, 943, 944, 945, 946] (by decide +kernel) (by decide +kernel)
set_option maxRecDepth 20000 in
theorem gL_law_X6_bar : GoodIn wsL_law (wsV RL 42 RX6 yX6_bar wsX6_bar) := goodIn_app (goodIn_of _ (by decide +kernel)) ggL_law_X6_bar
set_option maxRecDepth 20000 in
theorem ggL_law_X7_bar : GoodIn wsL_law wsX7_bar := goodIn_r _ [314, 168, 249, 132, 315, 316, 317, 5, 318, 246, 170, 171, 172, 319, 320, 321, 322, 323, 324, 325, 248, 128, 326, 327, 328, 329, 886, 887, 888, 889, 890, 891, 892, 893, 894, 895, 896, 897, 898, 899, 900, 901, 902, 903, 904, 905, 906, 907, 908, 909, 910, 911, 912, 913, 914, 915, 916, 917, 918, 919, 920, 921, 922, 923, 924, 925, 926, 927, 928, 929, 930, 931, 932, 933, 934, 935, 936, 937, 938] (by decide +kernel) (by decide +kernel)
set_option maxRecDepth 20000 in
theorem gL_law_X7_bar : GoodIn wsL_law (wsV RL 45 RX7 yX7_bar wsX7_bar) := goodIn_app (goodIn_of _ (by decide +kernel)) ggL_law_X7_bar
set_option maxRecDepth 20000 in
theorem ggL_law_X6_orient : GoodIn wsL_law wsX6_orient := goodIn_r _ [333, 19, 24, 297, 334, 298, 299, 300, 18, 301, 302, 303, 304, 305, 40, 306, 221, 23, 222, 223, 224, 225, 226, 227, 228, 229, 335, 336, 337, 338, 339, 340, 341, 55, 57, 878, 879, 880, 881, 882, 883, 884, 885, 947, 948, 949, 950, 951, 939, 940, 941, 942, 943, 944, 945, 946] (by decide +kernel) (by decide +kernel)
set_option maxRecDepth 20000 in
theorem gL_law_X6_orient : GoodIn wsL_law (wsV RL 46 RX6 yX6_orient wsX6_orient) := goodIn_app (goodIn_of _ (by decide +kernel)) ggL_law_X6_orient
set_option maxRecDepth 20000 in
theorem ggL_law_X7_orient : GoodIn wsL_law wsX7_orient := goodIn_r _ [345, 168, 134, 250, 133, 315, 316, 317, 5, 318, 246, 170, 171, 172, 319, 320, 321, 346, 347, 348, 349, 350, 351, 352, 322, 323, 324, 325, 248, 128, 886, 887, 888, 889, 890, 891, 892, 893, 894, 895, 896, 897, 898, 899, 900, 901, 902, 903, 904, 905, 906, 907, 908, 909, 910, 911, 912, 913, 914, 915, 916, 917, 918, 919, 920, 921, 922, 923, 924, 925, 926, 927, 928, 929, 930, 931, 932, 933, 934, 935, 936, 937, 938] (by decide +kernel) (by decide +kernel)
set_option maxRecDepth 20000 in
theorem gL_law_X7_orient : GoodIn wsL_law (wsV RL 50 RX7 yX7_orient wsX7_orient) := goodIn_app (goodIn_of _ (by decide +kernel)) ggL_law_X7_orient
set_option maxRecDepth 20000 in
theorem ggL_law_X6_realise : GoodIn wsL_law wsX6_realise := goodIn_r _ [356, 19, 268, 28, 267, 357, 358, 2, 359, 360, 361, 362, 363, 27, 364, 65, 67, 68, 66, 365, 366, 367, 368, 64, 369, 83, 84, 370, 371, 372, 373, 86, 374, 375, 376, 377, 69, 70, 71, 72, 378, 221, 23, 222, 223, 224, 225, 226, 227, 228, 229, 379, 380, 381, 382, 79, 383, 384, 385, 386, 387, 388, 389, 390, 391, 231, 232, 233, 392, 393, 394, 395, 396, 397, 398, 399, 77, 74, 400, 401, 402, 403, 75, 76, 404, 405, 406, 407, 408, 409, 410, 411, 412, 413, 414, 415, 416, 417, 418, 419, 420, 421, 422, 423, 424, 425, 426, 427, 428, 429, 204, 430, 878, 879, 880, 881, 882, 883, 884, 885, 939, 940, 941, 942, 943, 944, 945, 946, 952, 953, 954, 955, 956, 957, 958, 959, 960, 961, 962, 963, 964, 965, 986, 987, 988, 947, 948, 949, 950, 951] (by decide +kernel) (by decide +kernel)
set_option maxRecDepth 20000 in
theorem gL_law_X6_realise : GoodIn wsL_law (wsV RL 51 RX6 yX6_realise wsX6_realise) := goodIn_app (goodIn_of _ (by decide +kernel)) ggL_law_X6_realise
set_option maxRecDepth 20000 in
theorem ggL_law_X7_realise : GoodIn wsL_law wsX7_realise := goodIn_r _ [434, 168, 248, 252, 254, 136, 137, 246, 435, 436, 5, 437, 170, 171, 172, 438, 439, 440, 441, 442, 443, 444, 134, 142, 445, 446, 447, 448, 138, 139, 140, 141, 449, 450, 451, 319, 320, 321, 349, 350, 351, 352, 250, 133, 326, 327, 328, 329, 249, 132, 322, 323, 324, 325, 128, 452, 453, 454, 455, 456, 457, 458, 459, 460, 461, 462, 463, 464, 465, 466, 467, 468, 135, 886, 887, 888, 889, 890, 891, 892, 893, 894, 895, 896, 897, 898, 899, 900, 901, 902, 903, 904, 905, 906, 907, 908, 909, 910, 911, 912, 913, 914, 915, 916, 917, 918, 919, 920, 921, 922, 923, 924, 925, 926, 927, 928, 929, 930, 931, 932, 933, 934, 935, 936, 937, 938] (by decide +kernel) (by decide +kernel)
set_option maxRecDepth 20000 in
theorem gL_law_X7_realise : GoodIn wsL_law (wsV RL 54 RX7 yX7_realise wsX7_realise) := goodIn_app (goodIn_of _ (by decide +kernel)) ggL_law_X7_realise
set_option maxRecDepth 20000 in
theorem ggL_law_X6_coordinate : GoodIn wsL_law wsX6_coordinate := goodIn_r _ [472, 19, 28, 473, 474, 303, 304, 18, 305, 40, 475, 476, 477, 27, 478, 68, 65, 408, 878, 879, 880, 881, 882, 883, 884, 885, 952, 953, 954, 955, 956, 957, 958, 959, 960, 961, 962, 963, 964, 965, 939, 940, 941, 942, 943, 944, 945, 946, 986, 987, 988] (by decide +kernel) (by decide +kernel)
set_option maxRecDepth 20000 in
theorem gL_law_X6_coordinate : GoodIn wsL_law (wsV RL 55 RX6 yX6_coordinate wsX6_coordinate) := goodIn_app (goodIn_of _ (by decide +kernel)) ggL_law_X6_coordinate
set_option maxRecDepth 20000 in
theorem ggL_law_X7_coordinate : GoodIn wsL_law wsX7_coordinate := goodIn_r _ [482, 168, 246, 252, 135, 468, 170, 171, 5, 172, 449, 450, 451, 886, 887, 888, 889, 890, 891, 892, 893, 894, 895, 896, 897, 898, 899, 900, 901, 902, 903, 904, 905, 906, 907, 908, 909, 910, 911, 912, 913, 914, 915, 916, 917, 918, 919, 920, 921, 922, 923, 924, 925, 926, 927, 928, 929, 930, 931, 932, 933, 934, 935, 936, 937, 938] (by decide +kernel) (by decide +kernel)
set_option maxRecDepth 20000 in
theorem gL_law_X7_coordinate : GoodIn wsL_law (wsV RL 58 RX7 yX7_coordinate wsX7_coordinate) := goodIn_app (goodIn_of _ (by decide +kernel)) ggL_law_X7_coordinate
set_option maxRecDepth 20000 in
theorem ggL_law_X6_check : GoodIn wsL_law wsX6_check := goodIn_r _ [486, 28, 473, 19, 267, 487, 488, 489, 27, 490, 374, 375, 376, 377, 69, 70, 71, 72, 378, 221, 23, 222, 223, 224, 225, 226, 227, 228, 229, 379, 380, 381, 382, 79, 383, 384, 385, 386, 387, 388, 389, 65, 390, 396, 397, 398, 399, 77, 74, 400, 401, 402, 403, 75, 76, 404, 405, 406, 407, 408, 68, 409, 410, 411, 412, 413, 414, 415, 64, 416, 83, 417, 418, 419, 420, 421, 422, 423, 424, 425, 426, 427, 428, 429, 204, 430, 878, 879, 880, 881, 882, 883, 884, 885, 952, 953, 954, 955, 956, 957, 958, 959, 960, 961, 962, 963, 964, 965, 939, 940, 941, 942, 943, 944, 945, 946, 947, 948, 949, 950, 951, 986, 987, 988] (by decide +kernel) (by decide +kernel)
set_option maxRecDepth 20000 in
theorem gL_law_X6_check : GoodIn wsL_law (wsV RL 59 RX6 yX6_check wsX6_check) := goodIn_app (goodIn_of _ (by decide +kernel)) ggL_law_X6_check
set_option maxRecDepth 20000 in
theorem ggL_law_X7_check : GoodIn wsL_law wsX7_check := goodIn_r _ [494, 168, 252, 468, 246, 135, 441, 442, 443, 5, 444, 134, 142, 445, 446, 447, 448, 138, 139, 140, 141, 438, 439, 440, 449, 450, 451, 319, 320, 321, 349, 350, 351, 352, 250, 133, 326, 327, 328, 329, 249, 132, 322, 323, 324, 325, 248, 128, 456, 457, 458, 459, 460, 461, 462, 463, 886, 887, 888, 889, 890, 891, 892, 893, 894, 895, 896, 897, 898, 899, 900, 901, 902, 903, 904, 905, 906, 907, 908, 909, 910, 911, 912, 913, 914, 915, 916, 917, 918, 919, 920, 921, 922, 923, 924, 925, 926, 927, 928, 929, 930, 931, 932, 933, 934, 935, 936, 937, 938] (by decide +kernel) (by decide +kernel)
set_option maxRecDepth 20000 in
theorem gL_law_X7_check : GoodIn wsL_law (wsV RL 62 RX7 yX7_check wsX7_check) := goodIn_app (goodIn_of _ (by decide +kernel)) ggL_law_X7_check
set_option maxRecDepth 20000 in
theorem ggL_law_L_meet : GoodIn wsL_law wsL_meet := goodIn_ca (goodIn_r _ [498, 499, 500, 501, 502, 2, 503, 504, 505, 506, 507, 508, 509, 19, 28, 473, 510, 511, 283, 285, 286, 287, 18, 288, 41, 512, 513, 514, 27, 515, 77, 78, 75, 65, 400, 401, 402, 403, 76, 404, 405, 406, 407, 408, 68, 409, 410, 411, 412, 413, 414, 415, 64, 416, 83, 417, 418, 419, 420, 516, 517, 518, 519, 520, 521, 522, 878, 879, 880, 881, 882, 883, 884, 885, 952, 953, 954, 955, 956, 957, 958, 959, 960, 961, 962, 963, 964, 965, 986, 987, 988, 939, 940, 941, 942, 943, 944, 945, 946] (by decide +kernel) (by decide +kernel)) (goodIn_sub (fun _ h => List.mem_append_right _ h) (by decide +kernel))
set_option maxRecDepth 20000 in
theorem gL_law_L_meet : GoodIn wsL_law (va_wsS RL 63 yL_meet wsL_meet) := goodIn_app (goodIn_of _ (by decide +kernel)) ggL_law_L_meet
set_option maxRecDepth 20000 in
theorem ggL_law_X7_meet : GoodIn wsL_law wsX7_meet := goodIn_r _ [526, 168, 248, 252, 468, 170, 171, 5, 172, 445, 446, 447, 448, 138, 139, 140, 141, 438, 439, 440, 449, 450, 451, 527, 528, 529, 530, 135, 127, 460, 461, 462, 463, 886, 887, 888, 889, 890, 891, 892, 893, 894, 895, 896, 897, 898, 899, 900, 901, 902, 903, 904, 905, 906, 907, 908, 909, 910, 911, 912, 913, 914, 915, 916, 917, 918, 919, 920, 921, 922, 923, 924, 925, 926, 927, 928, 929, 930, 931, 932, 933, 934, 935, 936, 937, 938] (by decide +kernel) (by decide +kernel)
set_option maxRecDepth 20000 in
theorem gL_law_X7_meet : GoodIn wsL_law (wsV RL 68 RX7 yX7_meet wsX7_meet) := goodIn_app (goodIn_of _ (by decide +kernel)) ggL_law_X7_meet
set_option maxRecDepth 20000 in
theorem ggL_law_X7_thrown : GoodIn wsL_law wsX7_thrown := goodIn_r _ [534, 168, 886, 887, 888, 889, 890, 891, 892, 893, 894, 895, 896, 897, 898, 899, 900, 901, 902, 903, 904, 905, 906, 907, 908, 909, 910, 911, 912, 913, 914, 915, 916, 917, 918, 919, 920, 921, 922, 923, 924, 925, 926, 927, 928, 929, 930, 931, 932, 933, 934, 935, 936, 937, 938] (by decide +kernel) (by decide +kernel)
set_option maxRecDepth 20000 in
theorem gL_law_X7_thrown : GoodIn wsL_law (wsV RL 69 RX7 yX7_thrown wsX7_thrown) := goodIn_app (goodIn_of _ (by decide +kernel)) ggL_law_X7_thrown
set_option maxRecDepth 20000 in
theorem ggL_law_X6_meets : GoodIn wsL_law wsX6_meets := goodIn_r _ [538, 506, 507, 508, 2, 509, 19, 28, 473, 510, 511, 283, 285, 286, 287, 18, 288, 41, 512, 513, 514, 27, 515, 77, 78, 75, 65, 400, 401, 402, 403, 76, 404, 405, 406, 407, 408, 68, 409, 410, 411, 412, 413, 414, 415, 64, 416, 83, 417, 418, 419, 420, 516, 517, 518, 519, 520, 521, 522, 878, 879, 880, 881, 882, 883, 884, 885, 952, 953, 954, 955, 956, 957, 958, 959, 960, 961, 962, 963, 964, 965, 986, 987, 988, 939, 940, 941, 942, 943, 944, 945, 946] (by decide +kernel) (by decide +kernel)
set_option maxRecDepth 20000 in
theorem gL_law_X6_meets : GoodIn wsL_law (wsV RL 72 RX6 yX6_meets wsX6_meets) := goodIn_app (goodIn_of _ (by decide +kernel)) ggL_law_X6_meets
set_option maxRecDepth 20000 in
theorem ggL_law_X7_meets : GoodIn wsL_law wsX7_meets := goodIn_r _ [542, 168, 543, 524, 525, 5, 526, 248, 252, 468, 170, 171, 172, 445, 446, 447, 448, 138, 139, 140, 141, 438, 439, 440, 449, 450, 451, 527, 528, 529, 530, 135, 127, 460, 461, 462, 463, 886, 887, 888, 889, 890, 891, 892, 893, 894, 895, 896, 897, 898, 899, 900, 901, 902, 903, 904, 905, 906, 907, 908, 909, 910, 911, 912, 913, 914, 915, 916, 917, 918, 919, 920, 921, 922, 923, 924, 925, 926, 927, 928, 929, 930, 931, 932, 933, 934, 935, 936, 937, 938] (by decide +kernel) (by decide +kernel)
set_option maxRecDepth 20000 in
theorem gL_law_X7_meets : GoodIn wsL_law (wsV RL 75 RX7 yX7_meets wsX7_meets) := goodIn_app (goodIn_of _ (by decide +kernel)) ggL_law_X7_meets
set_option maxRecDepth 20000 in
theorem ggL_law_L_pivot : GoodIn wsL_law wsL_pivot := goodIn_ca (goodIn_r _ [546, 499, 547, 548, 549, 2, 550, 504, 505, 357, 358, 359, 360, 551, 521, 64, 522, 417, 418, 419, 420] (by decide +kernel) (by decide +kernel)) (goodIn_sub (fun _ h => List.mem_append_right _ h) (by decide +kernel))
set_option maxRecDepth 20000 in
theorem gL_law_L_pivot : GoodIn wsL_law (va_wsS RL 76 yL_pivot wsL_pivot) := goodIn_app (goodIn_of _ (by decide +kernel)) ggL_law_L_pivot
set_option maxRecDepth 20000 in
theorem ggL_law_X7_pivot : GoodIn wsL_law wsX7_pivot := goodIn_r _ [555, 168, 435, 436, 5, 437, 886, 887, 888, 889, 890, 891, 892, 893, 894, 895, 896, 897, 898, 899, 900, 901, 902, 903, 904, 905, 906, 907, 908, 909, 910, 911, 912, 913, 914, 915, 916, 917, 918, 919, 920, 921, 922, 923, 924, 925, 926, 927, 928, 929, 930, 931, 932, 933, 934, 935, 936, 937, 938] (by decide +kernel) (by decide +kernel)
set_option maxRecDepth 20000 in
theorem gL_law_X7_pivot : GoodIn wsL_law (wsV RL 79 RX7 yX7_pivot wsX7_pivot) := goodIn_app (goodIn_of _ (by decide +kernel)) ggL_law_X7_pivot
set_option maxRecDepth 20000 in
theorem ggL_law_X6_deduce : GoodIn wsL_law wsX6_deduce := goodIn_r _ [559, 19, 268, 32, 267, 560, 561, 562, 31, 563, 92, 91, 564, 235, 236, 237, 565, 566, 567, 568, 97, 101, 569, 570, 571, 116, 117, 118, 572, 221, 23, 222, 223, 224, 225, 226, 227, 228, 229, 573, 574, 575, 576, 577, 578, 579, 580, 581, 582, 583, 93, 96, 94, 584, 585, 586, 587, 588, 589, 590, 591, 98, 592, 593, 594, 595, 596, 597, 598, 599, 600, 601, 602, 603, 604, 605, 100, 99, 606, 607, 608, 609, 336, 337, 610, 611, 612, 613, 95, 614, 615, 616, 617, 878, 879, 880, 881, 882, 883, 884, 885, 939, 940, 941, 942, 943, 944, 945, 946, 966, 967, 968, 969, 970, 971, 972, 973, 974, 975, 976, 947, 948, 949, 950, 951] (by decide +kernel) (by decide +kernel)
set_option maxRecDepth 20000 in
theorem gL_law_X6_deduce : GoodIn wsL_law (wsV RL 80 RX6 yX6_deduce wsX6_deduce) := goodIn_app (goodIn_of _ (by decide +kernel)) ggL_law_X6_deduce
set_option maxRecDepth 20000 in
theorem ggL_law_X7_deduce : GoodIn wsL_law wsX7_deduce := goodIn_r _ [621, 168, 248, 251, 159, 144, 622, 623, 624, 5, 625, 246, 143, 134, 319, 320, 321, 349, 350, 351, 352, 250, 133, 322, 323, 324, 325, 128, 626, 627, 628, 629, 146, 147, 630, 631, 632, 633, 634, 635, 636, 637, 638, 148, 639, 640, 641, 642, 643, 644, 645, 646, 647, 648, 649, 346, 347, 348, 650, 651, 652, 653, 654, 655, 656, 657, 658, 659, 660, 661, 662, 663, 145, 664, 665, 666, 667, 668, 669, 670, 326, 327, 328, 329, 249, 132, 886, 887, 888, 889, 890, 891, 892, 893, 894, 895, 896, 897, 898, 899, 900, 901, 902, 903, 904, 905, 906, 907, 908, 909, 910, 911, 912, 913, 914, 915, 916, 917, 918, 919, 920, 921, 922, 923, 924, 925, 926, 927, 928, 929, 930, 931, 932, 933, 934, 935, 936, 937, 938] (by decide +kernel) (by decide +kernel)
set_option maxRecDepth 20000 in
theorem gL_law_X7_deduce : GoodIn wsL_law (wsV RL 83 RX7 yX7_deduce wsX7_deduce) := goodIn_app (goodIn_of _ (by decide +kernel)) ggL_law_X7_deduce
set_option maxRecDepth 20000 in
theorem ggL_law_X6_row : GoodIn wsL_law wsX6_row := goodIn_r _ [674, 32, 675, 676, 677, 31, 678, 91, 679, 680, 681, 682, 93, 95, 96, 94, 878, 879, 880, 881, 882, 883, 884, 885, 966, 967, 968, 969, 970, 971, 972, 973, 974, 975, 976] (by decide +kernel) (by decide +kernel)
set_option maxRecDepth 20000 in
theorem gL_law_X6_row : GoodIn wsL_law (wsV RL 84 RX6 yX6_row wsX6_row) := goodIn_app (goodIn_of _ (by decide +kernel)) ggL_law_X6_row
set_option maxRecDepth 20000 in
theorem ggL_law_X7_row : GoodIn wsL_law wsX7_row := goodIn_r _ [686, 168, 251, 144, 145, 147, 146, 170, 171, 5, 172, 886, 887, 888, 889, 890, 891, 892, 893, 894, 895, 896, 897, 898, 899, 900, 901, 902, 903, 904, 905, 906, 907, 908, 909, 910, 911, 912, 913, 914, 915, 916, 917, 918, 919, 920, 921, 922, 923, 924, 925, 926, 927, 928, 929, 930, 931, 932, 933, 934, 935, 936, 937, 938] (by decide +kernel) (by decide +kernel)
set_option maxRecDepth 20000 in
theorem gL_law_X7_row : GoodIn wsL_law (wsV RL 87 RX7 yX7_row wsX7_row) := goodIn_app (goodIn_of _ (by decide +kernel)) ggL_law_X7_row
set_option maxRecDepth 20000 in
theorem ggL_law_X6_plant : GoodIn wsL_law wsX6_plant := goodIn_r _ [690, 32, 691, 692, 675, 676, 677, 31, 678, 91, 878, 879, 880, 881, 882, 883, 884, 885, 966, 967, 968, 969, 970, 971, 972, 973, 974, 975, 976] (by decide +kernel) (by decide +kernel)
set_option maxRecDepth 20000 in
theorem gL_law_X6_plant : GoodIn wsL_law (wsV RL 88 RX6 yX6_plant wsX6_plant) := goodIn_app (goodIn_of _ (by decide +kernel)) ggL_law_X6_plant
set_option maxRecDepth 20000 in
theorem ggL_law_X7_plant : GoodIn wsL_law wsX7_plant := goodIn_r _ [696, 168, 251, 144, 147, 170, 171, 5, 172, 886, 887, 888, 889, 890, 891, 892, 893, 894, 895, 896, 897, 898, 899, 900, 901, 902, 903, 904, 905, 906, 907, 908, 909, 910, 911, 912, 913, 914, 915, 916, 917, 918, 919, 920, 921, 922, 923, 924, 925, 926, 927, 928, 929, 930, 931, 932, 933, 934, 935, 936, 937, 938] (by decide +kernel) (by decide +kernel)
set_option maxRecDepth 20000 in
theorem gL_law_X7_plant : GoodIn wsL_law (wsV RL 91 RX7 yX7_plant wsX7_plant) := goodIn_app (goodIn_of _ (by decide +kernel)) ggL_law_X7_plant
set_option maxRecDepth 20000 in
theorem ggL_law_X6_proof : GoodIn wsL_law wsX6_proof := goodIn_r _ [700, 32, 701, 702, 703, 31, 704, 91, 93, 565, 566, 567, 568, 97, 101, 569, 570, 571, 116, 117, 118, 572, 221, 23, 222, 223, 224, 225, 226, 227, 228, 229, 573, 574, 575, 576, 577, 578, 579, 580, 581, 582, 583, 96, 94, 705, 706, 707, 708, 95, 98, 614, 615, 616, 617, 592, 593, 594, 595, 596, 597, 598, 599, 600, 601, 602, 603, 604, 605, 100, 99, 606, 607, 608, 609, 336, 337, 709, 710, 711, 712, 878, 879, 880, 881, 882, 883, 884, 885, 966, 967, 968, 969, 970, 971, 972, 973, 974, 975, 976, 947, 948, 949, 950, 951] (by decide +kernel) (by decide +kernel)
set_option maxRecDepth 20000 in
theorem gL_law_X6_proof : GoodIn wsL_law (wsV RL 92 RX6 yX6_proof wsX6_proof) := goodIn_app (goodIn_of _ (by decide +kernel)) ggL_law_X6_proof
set_option maxRecDepth 20000 in
theorem ggL_law_X7_proof : GoodIn wsL_law wsX7_proof := goodIn_r _ [716, 168, 251, 145, 634, 144, 658, 146, 659, 147, 622, 623, 624, 5, 625, 246, 143, 134, 319, 320, 321, 349, 350, 351, 352, 250, 133, 322, 323, 324, 325, 248, 128, 626, 627, 628, 629, 635, 636, 637, 638, 148, 639, 640, 641, 642, 643, 644, 645, 646, 647, 648, 649, 346, 347, 348, 650, 651, 652, 653, 654, 655, 656, 657, 664, 665, 666, 667, 668, 669, 670, 326, 327, 328, 329, 249, 132, 886, 887, 888, 889, 890, 891, 892, 893, 894, 895, 896, 897, 898, 899, 900, 901, 902, 903, 904, 905, 906, 907, 908, 909, 910, 911, 912, 913, 914, 915, 916, 917, 918, 919, 920, 921, 922, 923, 924, 925, 926, 927, 928, 929, 930, 931, 932, 933, 934, 935, 936, 937, 938] (by decide +kernel) (by decide +kernel)
set_option maxRecDepth 20000 in
theorem gL_law_X7_proof : GoodIn wsL_law (wsV RL 95 RX7 yX7_proof wsX7_proof) := goodIn_app (goodIn_of _ (by decide +kernel)) ggL_law_X7_proof
set_option maxRecDepth 20000 in
theorem ggL_law_X6_known : GoodIn wsL_law wsX6_known := goodIn_r _ [720, 19, 32, 271, 298, 299, 300, 18, 301, 302, 303, 304, 305, 40, 721, 566, 567, 31, 568, 97, 101, 569, 570, 571, 116, 117, 118, 572, 221, 23, 222, 223, 224, 225, 226, 227, 228, 229, 573, 574, 575, 576, 577, 578, 579, 580, 581, 582, 583, 93, 96, 94, 722, 723, 724, 725, 878, 879, 880, 881, 882, 883, 884, 885, 966, 967, 968, 969, 970, 971, 972, 973, 974, 975, 976, 939, 940, 941, 942, 943, 944, 945, 946, 947, 948, 949, 950, 951] (by decide +kernel) (by decide +kernel)
set_option maxRecDepth 20000 in
theorem gL_law_X6_known : GoodIn wsL_law (wsV RL 96 RX6 yX6_known wsX6_known) := goodIn_app (goodIn_of _ (by decide +kernel)) ggL_law_X6_known
set_option maxRecDepth 20000 in
theorem ggL_law_X7_known : GoodIn wsL_law wsX7_known := goodIn_r _ [729, 168, 251, 315, 316, 317, 5, 318, 246, 170, 171, 172, 622, 623, 624, 625, 143, 134, 319, 320, 321, 349, 350, 351, 352, 250, 133, 322, 323, 324, 325, 248, 128, 626, 627, 628, 629, 144, 146, 147, 643, 644, 645, 646, 647, 648, 649, 346, 347, 348, 886, 887, 888, 889, 890, 891, 892, 893, 894, 895, 896, 897, 898, 899, 900, 901, 902, 903, 904, 905, 906, 907, 908, 909, 910, 911, 912, 913, 914, 915, 916, 917, 918, 919, 920, 921, 922, 923, 924, 925, 926, 927, 928, 929, 930, 931, 932, 933, 934, 935, 936, 937, 938] (by decide +kernel) (by decide +kernel)
set_option maxRecDepth 20000 in
theorem gL_law_X7_known : GoodIn wsL_law (wsV RL 99 RX7 yX7_known wsX7_known) := goodIn_app (goodIn_of _ (by decide +kernel)) ggL_law_X7_known
set_option maxRecDepth 20000 in
theorem ggL_law_X6_certificate : GoodIn wsL_law wsX6_certificate := goodIn_r _ [733, 32, 271, 734, 735, 736, 31, 737, 91, 596, 565, 566, 567, 568, 97, 101, 569, 570, 571, 116, 117, 118, 572, 221, 23, 222, 223, 224, 225, 226, 227, 228, 229, 573, 574, 575, 576, 577, 578, 579, 580, 581, 582, 583, 93, 96, 94, 705, 706, 707, 708, 95, 98, 614, 615, 616, 617, 597, 598, 599, 600, 601, 878, 879, 880, 881, 882, 883, 884, 885, 966, 967, 968, 969, 970, 971, 972, 973, 974, 975, 976, 947, 948, 949, 950, 951] (by decide +kernel) (by decide +kernel)
set_option maxRecDepth 20000 in
theorem gL_law_X6_certificate : GoodIn wsL_law (wsV RL 100 RX6 yX6_certificate wsX6_certificate) := goodIn_app (goodIn_of _ (by decide +kernel)) ggL_law_X6_certificate
set_option maxRecDepth 20000 in
theorem ggL_law_X7_certificate : GoodIn wsL_law wsX7_certificate := goodIn_r _ [741, 168, 251, 145, 148, 170, 171, 5, 172, 622, 623, 624, 625, 246, 143, 134, 319, 320, 321, 349, 350, 351, 352, 250, 133, 322, 323, 324, 325, 248, 128, 626, 627, 628, 629, 144, 146, 147, 639, 640, 641, 642, 643, 644, 645, 646, 647, 648, 649, 346, 347, 348, 650, 651, 652, 653, 886, 887, 888, 889, 890, 891, 892, 893, 894, 895, 896, 897, 898, 899, 900, 901, 902, 903, 904, 905, 906, 907, 908, 909, 910, 911, 912, 913, 914, 915, 916, 917, 918, 919, 920, 921, 922, 923, 924, 925, 926, 927, 928, 929, 930, 931, 932, 933, 934, 935, 936, 937, 938] (by decide +kernel) (by decide +kernel)
set_option maxRecDepth 20000 in
theorem gL_law_X7_certificate : GoodIn wsL_law (wsV RL 103 RX7 yX7_certificate wsX7_certificate) := goodIn_app (goodIn_of _ (by decide +kernel)) ggL_law_X7_certificate
set_option maxRecDepth 20000 in
theorem ggL_law_X6_kinds : GoodIn wsL_law wsX6_kinds := goodIn_r _ [745, 36, 746, 747, 748, 35, 749, 114, 750, 751, 752, 753, 113, 754, 755, 756, 757, 110, 758, 759, 760, 761, 111, 762, 763, 764, 765, 766, 767, 768, 769, 770, 771, 772, 773, 774, 775, 429, 204, 430, 776, 777, 778, 779, 780, 781, 782, 783, 784, 203, 205, 206, 207, 208, 785, 786, 787, 788, 878, 879, 880, 881, 882, 883, 884, 885, 977, 978, 979, 980, 981, 982, 983, 984, 985] (by decide +kernel) (by decide +kernel)
set_option maxRecDepth 20000 in
theorem gL_law_X6_kinds : GoodIn wsL_law (wsV RL 104 RX6 yX6_kinds wsX6_kinds) := goodIn_app (goodIn_of _ (by decide +kernel)) ggL_law_X6_kinds
set_option maxRecDepth 20000 in
theorem ggL_law_X7_kinds : GoodIn wsL_law wsX7_kinds := goodIn_r _ [792, 168, 156, 793, 158, 253, 170, 171, 5, 172, 794, 795, 796, 797, 157, 319, 320, 321, 798, 799, 800, 801, 802, 803, 804, 805, 806, 807, 808, 152, 154, 809, 810, 811, 812, 813, 814, 815, 816, 817, 818, 819, 151, 149, 820, 821, 822, 823, 824, 825, 826, 827, 828, 829, 830, 831, 886, 887, 888, 889, 890, 891, 892, 893, 894, 895, 896, 897, 898, 899, 900, 901, 902, 903, 904, 905, 906, 907, 908, 909, 910, 911, 912, 913, 914, 915, 916, 917, 918, 919, 920, 921, 922, 923, 924, 925, 926, 927, 928, 929, 930, 931, 932, 933, 934, 935, 936, 937, 938] (by decide +kernel) (by decide +kernel)
set_option maxRecDepth 20000 in
theorem gL_law_X7_kinds : GoodIn wsL_law (wsV RL 107 RX7 yX7_kinds wsX7_kinds) := goodIn_app (goodIn_of _ (by decide +kernel)) ggL_law_X7_kinds
set_option maxRecDepth 20000 in
theorem ggL_law_X6_canonical : GoodIn wsL_law wsX6_canonical := goodIn_r _ [835, 19, 268, 36, 836, 837, 838, 839, 2, 840, 267, 841, 842, 843, 35, 844, 108, 845, 107, 846, 109, 847, 615, 616, 617, 106, 848, 110, 115, 116, 117, 118, 769, 770, 771, 758, 759, 760, 761, 111, 762, 763, 764, 765, 766, 767, 768, 772, 773, 774, 775, 429, 204, 430, 849, 850, 851, 852, 112, 776, 777, 778, 779, 780, 781, 782, 783, 878, 879, 880, 881, 882, 883, 884, 885, 939, 940, 941, 942, 943, 944, 945, 946, 977, 978, 979, 980, 981, 982, 983, 984, 985] (by decide +kernel) (by decide +kernel)
set_option maxRecDepth 20000 in
theorem gL_law_X6_canonical : GoodIn wsL_law (wsV RL 108 RX6 yX6_canonical wsX6_canonical) := goodIn_app (goodIn_of _ (by decide +kernel)) ggL_law_X6_canonical
set_option maxRecDepth 20000 in
theorem ggL_law_X7_canonical : GoodIn wsL_law wsX7_canonical := goodIn_r _ [856, 168, 248, 153, 857, 858, 859, 5, 860, 246, 253, 861, 862, 863, 864, 155, 152, 128, 154, 809, 810, 811, 812, 813, 814, 815, 816, 817, 818, 819, 151, 149, 820, 821, 822, 823, 824, 825, 826, 827, 865, 866, 867, 868, 150, 170, 171, 172, 886, 887, 888, 889, 890, 891, 892, 893, 894, 895, 896, 897, 898, 899, 900, 901, 902, 903, 904, 905, 906, 907, 908, 909, 910, 911, 912, 913, 914, 915, 916, 917, 918, 919, 920, 921, 922, 923, 924, 925, 926, 927, 928, 929, 930, 931, 932, 933, 934, 935, 936, 937, 938] (by decide +kernel) (by decide +kernel)
set_option maxRecDepth 20000 in
theorem gL_law_X7_canonical : GoodIn wsL_law (wsV RL 111 RX7 yX7_canonical wsX7_canonical) := goodIn_app (goodIn_of _ (by decide +kernel)) ggL_law_X7_canonical
set_option maxRecDepth 20000 in
theorem ggL_law_X6_orbit : GoodIn wsL_law wsX6_orbit := goodIn_r _ [872, 36, 19, 873, 837, 838, 839, 2, 840, 268, 267, 841, 842, 843, 35, 844, 108, 845, 107, 846, 109, 847, 615, 616, 617, 106, 848, 110, 115, 116, 117, 118, 769, 770, 771, 758, 759, 760, 761, 111, 762, 763, 764, 765, 766, 767, 768, 772, 773, 774, 775, 429, 204, 430, 849, 850, 851, 852, 112, 776, 777, 778, 779, 780, 781, 782, 783, 878, 879, 880, 881, 882, 883, 884, 885, 977, 978, 979, 980, 981, 982, 983, 984, 985, 939, 940, 941, 942, 943, 944, 945, 946] (by decide +kernel) (by decide +kernel)
set_option maxRecDepth 20000 in
theorem gL_law_X6_orbit : GoodIn wsL_law (wsV RL 112 RX6 yX6_orbit wsX6_orbit) := goodIn_app (goodIn_of _ (by decide +kernel)) ggL_law_X6_orbit
set_option maxRecDepth 20000 in
theorem ggL_law_X7_orbit : GoodIn wsL_law wsX7_orbit := goodIn_r _ [877, 168, 155, 857, 858, 859, 5, 860, 248, 246, 253, 861, 862, 863, 864, 152, 128, 154, 153, 809, 810, 811, 812, 813, 814, 815, 816, 817, 818, 819, 151, 149, 820, 821, 822, 823, 824, 825, 826, 827, 865, 866, 867, 868, 150, 886, 887, 888, 889, 890, 891, 892, 893, 894, 895, 896, 897, 898, 899, 900, 901, 902, 903, 904, 905, 906, 907, 908, 909, 910, 911, 912, 913, 914, 915, 916, 917, 918, 919, 920, 921, 922, 923, 924, 925, 926, 927, 928, 929, 930, 931, 932, 933, 934, 935, 936, 937, 938] (by decide +kernel) (by decide +kernel)
set_option maxRecDepth 20000 in
theorem gL_law_X7_orbit : GoodIn wsL_law (wsV RL 115 RX7 yX7_orbit wsX7_orbit) := goodIn_app (goodIn_of _ (by decide +kernel)) ggL_law_X7_orbit
theorem dL_law_0 : decode cL_law 0 = .ok (.new 8, 3) := by decide +kernel
theorem dL_law_3 : decode cL_law 3 = .ok (.dup, 1) := by decide +kernel
theorem dL_law_4 : decode cL_law 4 = .ok (.invokespecial 19, 3) := by decide +kernel
theorem dL_law_7 : decode cL_law 7 = .ok (.astore_n 1, 1) := by decide +kernel
theorem dL_law_8 : decode cL_law 8 = .ok (.new 20, 3) := by decide +kernel
theorem dL_law_11 : decode cL_law 11 = .ok (.dup, 1) := by decide +kernel
theorem dL_law_12 : decode cL_law 12 = .ok (.invokespecial 22, 3) := by decide +kernel
theorem dL_law_15 : decode cL_law 15 = .ok (.astore_n 2, 1) := by decide +kernel
theorem dL_law_16 : decode cL_law 16 = .ok (.iconst 1, 1) := by decide +kernel
theorem dL_law_17 : decode cL_law 17 = .ok (.newarray .long, 2) := by decide +kernel
theorem dL_law_19 : decode cL_law 19 = .ok (.astore_n 3, 1) := by decide +kernel
theorem dL_law_20 : decode cL_law 20 = .ok (.iconst 0, 1) := by decide +kernel
theorem dL_law_21 : decode cL_law 21 = .ok (.istore 4, 2) := by decide +kernel
theorem dL_law_23 : decode cL_law 23 = .ok (.iload 4, 2) := by decide +kernel
theorem dL_law_25 : decode cL_law 25 = .ok (.aload_n 0, 1) := by decide +kernel
theorem dL_law_26 : decode cL_law 26 = .ok (.arraylength, 1) := by decide +kernel
theorem dL_law_27 : decode cL_law 27 = .ok (.iconst 5, 1) := by decide +kernel
theorem dL_law_28 : decode cL_law 28 = .ok (.isub, 1) := by decide +kernel
theorem dL_law_29 : decode cL_law 29 = .ok (.if_icmp .gt 896, 3) := by decide +kernel
theorem dL_law_32 : decode cL_law 32 = .ok (.aload_n 0, 1) := by decide +kernel
theorem dL_law_33 : decode cL_law 33 = .ok (.iload 4, 2) := by decide +kernel
theorem dL_law_35 : decode cL_law 35 = .ok (.iaload, 1) := by decide +kernel
theorem dL_law_36 : decode cL_law 36 = .ok (.bipush 31, 2) := by decide +kernel
theorem dL_law_38 : decode cL_law 38 = .ok (.iand, 1) := by decide +kernel
theorem dL_law_39 : decode cL_law 39 = .ok (.tableswitch 880 0 20 #[97, 122, 135, 160, 225, 274, 335, 372, 409, 422, 490, 527, 607, 620, 657, 694, 707, 756, 793, 830, 855], 97) := by decide +kernel
theorem dL_law_136 : decode cL_law 136 = .ok (.aload_n 1, 1) := by decide +kernel
theorem dL_law_137 : decode cL_law 137 = .ok (.aload_n 0, 1) := by decide +kernel
theorem dL_law_138 : decode cL_law 138 = .ok (.iload 4, 2) := by decide +kernel
theorem dL_law_140 : decode cL_law 140 = .ok (.iconst 1, 1) := by decide +kernel
theorem dL_law_141 : decode cL_law 141 = .ok (.iadd, 1) := by decide +kernel
theorem dL_law_142 : decode cL_law 142 = .ok (.iaload, 1) := by decide +kernel
theorem dL_law_143 : decode cL_law 143 = .ok (.invokevirtual 23, 3) := by decide +kernel
theorem dL_law_146 : decode cL_law 146 = .ok (.aload_n 2, 1) := by decide +kernel
theorem dL_law_147 : decode cL_law 147 = .ok (.aload_n 0, 1) := by decide +kernel
theorem dL_law_148 : decode cL_law 148 = .ok (.iload 4, 2) := by decide +kernel
theorem dL_law_150 : decode cL_law 150 = .ok (.iconst 1, 1) := by decide +kernel
theorem dL_law_151 : decode cL_law 151 = .ok (.iadd, 1) := by decide +kernel
theorem dL_law_152 : decode cL_law 152 = .ok (.iaload, 1) := by decide +kernel
theorem dL_law_153 : decode cL_law 153 = .ok (.invokevirtual 27, 3) := by decide +kernel
theorem dL_law_156 : decode cL_law 156 = .ok (.if_icmp .eq 763, 3) := by decide +kernel
theorem dL_law_159 : decode cL_law 159 = .ok (.iconst 0, 1) := by decide +kernel
theorem dL_law_160 : decode cL_law 160 = .ok (.ireturn, 1) := by decide +kernel
theorem dL_law_161 : decode cL_law 161 = .ok (.aload_n 1, 1) := by decide +kernel
theorem dL_law_162 : decode cL_law 162 = .ok (.invokevirtual 28, 3) := by decide +kernel
theorem dL_law_165 : decode cL_law 165 = .ok (.aload_n 2, 1) := by decide +kernel
theorem dL_law_166 : decode cL_law 166 = .ok (.invokevirtual 32, 3) := by decide +kernel
theorem dL_law_169 : decode cL_law 169 = .ok (.if_icmp .eq 750, 3) := by decide +kernel
theorem dL_law_172 : decode cL_law 172 = .ok (.iconst 0, 1) := by decide +kernel
theorem dL_law_173 : decode cL_law 173 = .ok (.ireturn, 1) := by decide +kernel
theorem dL_law_174 : decode cL_law 174 = .ok (.aload_n 1, 1) := by decide +kernel
theorem dL_law_175 : decode cL_law 175 = .ok (.aload_n 0, 1) := by decide +kernel
theorem dL_law_176 : decode cL_law 176 = .ok (.iload 4, 2) := by decide +kernel
theorem dL_law_178 : decode cL_law 178 = .ok (.iconst 1, 1) := by decide +kernel
theorem dL_law_179 : decode cL_law 179 = .ok (.iadd, 1) := by decide +kernel
theorem dL_law_180 : decode cL_law 180 = .ok (.iaload, 1) := by decide +kernel
theorem dL_law_181 : decode cL_law 181 = .ok (.invokevirtual 33, 3) := by decide +kernel
theorem dL_law_184 : decode cL_law 184 = .ok (.aload_n 2, 1) := by decide +kernel
theorem dL_law_185 : decode cL_law 185 = .ok (.aload_n 0, 1) := by decide +kernel
theorem dL_law_186 : decode cL_law 186 = .ok (.iload 4, 2) := by decide +kernel
theorem dL_law_188 : decode cL_law 188 = .ok (.iconst 1, 1) := by decide +kernel
theorem dL_law_189 : decode cL_law 189 = .ok (.iadd, 1) := by decide +kernel
theorem dL_law_190 : decode cL_law 190 = .ok (.iaload, 1) := by decide +kernel
theorem dL_law_191 : decode cL_law 191 = .ok (.invokevirtual 36, 3) := by decide +kernel
theorem dL_law_194 : decode cL_law 194 = .ok (.if_icmp .eq 725, 3) := by decide +kernel
theorem dL_law_197 : decode cL_law 197 = .ok (.iconst 0, 1) := by decide +kernel
theorem dL_law_198 : decode cL_law 198 = .ok (.ireturn, 1) := by decide +kernel
theorem dL_law_199 : decode cL_law 199 = .ok (.aload_n 1, 1) := by decide +kernel
theorem dL_law_200 : decode cL_law 200 = .ok (.aload_n 0, 1) := by decide +kernel
theorem dL_law_201 : decode cL_law 201 = .ok (.iload 4, 2) := by decide +kernel
theorem dL_law_203 : decode cL_law 203 = .ok (.iconst 1, 1) := by decide +kernel
theorem dL_law_204 : decode cL_law 204 = .ok (.iadd, 1) := by decide +kernel
theorem dL_law_205 : decode cL_law 205 = .ok (.iaload, 1) := by decide +kernel
theorem dL_law_206 : decode cL_law 206 = .ok (.aload_n 0, 1) := by decide +kernel
theorem dL_law_207 : decode cL_law 207 = .ok (.iload 4, 2) := by decide +kernel
theorem dL_law_209 : decode cL_law 209 = .ok (.iconst 2, 1) := by decide +kernel
theorem dL_law_210 : decode cL_law 210 = .ok (.iadd, 1) := by decide +kernel
theorem dL_law_211 : decode cL_law 211 = .ok (.iaload, 1) := by decide +kernel
theorem dL_law_212 : decode cL_law 212 = .ok (.aload_n 0, 1) := by decide +kernel
theorem dL_law_213 : decode cL_law 213 = .ok (.iload 4, 2) := by decide +kernel
theorem dL_law_215 : decode cL_law 215 = .ok (.iconst 3, 1) := by decide +kernel
theorem dL_law_216 : decode cL_law 216 = .ok (.iadd, 1) := by decide +kernel
theorem dL_law_217 : decode cL_law 217 = .ok (.iaload, 1) := by decide +kernel
theorem dL_law_218 : decode cL_law 218 = .ok (.ifCond .eq 7, 3) := by decide +kernel
theorem dL_law_221 : decode cL_law 221 = .ok (.iconst 1, 1) := by decide +kernel
theorem dL_law_222 : decode cL_law 222 = .ok (.goto 4, 3) := by decide +kernel
theorem dL_law_225 : decode cL_law 225 = .ok (.iconst 0, 1) := by decide +kernel
theorem dL_law_226 : decode cL_law 226 = .ok (.invokevirtual 37, 3) := by decide +kernel
theorem dL_law_229 : decode cL_law 229 = .ok (.aload_n 2, 1) := by decide +kernel
theorem dL_law_230 : decode cL_law 230 = .ok (.aload_n 0, 1) := by decide +kernel
theorem dL_law_231 : decode cL_law 231 = .ok (.iload 4, 2) := by decide +kernel
theorem dL_law_233 : decode cL_law 233 = .ok (.iconst 1, 1) := by decide +kernel
theorem dL_law_234 : decode cL_law 234 = .ok (.iadd, 1) := by decide +kernel
theorem dL_law_235 : decode cL_law 235 = .ok (.iaload, 1) := by decide +kernel
theorem dL_law_236 : decode cL_law 236 = .ok (.aload_n 0, 1) := by decide +kernel
theorem dL_law_237 : decode cL_law 237 = .ok (.iload 4, 2) := by decide +kernel
theorem dL_law_239 : decode cL_law 239 = .ok (.iconst 2, 1) := by decide +kernel
theorem dL_law_240 : decode cL_law 240 = .ok (.iadd, 1) := by decide +kernel
theorem dL_law_241 : decode cL_law 241 = .ok (.iaload, 1) := by decide +kernel
theorem dL_law_242 : decode cL_law 242 = .ok (.aload_n 0, 1) := by decide +kernel
theorem dL_law_243 : decode cL_law 243 = .ok (.iload 4, 2) := by decide +kernel
theorem dL_law_245 : decode cL_law 245 = .ok (.iconst 3, 1) := by decide +kernel
theorem dL_law_246 : decode cL_law 246 = .ok (.iadd, 1) := by decide +kernel
theorem dL_law_247 : decode cL_law 247 = .ok (.iaload, 1) := by decide +kernel
theorem dL_law_248 : decode cL_law 248 = .ok (.ifCond .eq 7, 3) := by decide +kernel
theorem dL_law_251 : decode cL_law 251 = .ok (.iconst 1, 1) := by decide +kernel
theorem dL_law_252 : decode cL_law 252 = .ok (.goto 4, 3) := by decide +kernel
theorem dL_law_255 : decode cL_law 255 = .ok (.iconst 0, 1) := by decide +kernel
theorem dL_law_256 : decode cL_law 256 = .ok (.invokevirtual 41, 3) := by decide +kernel
theorem dL_law_259 : decode cL_law 259 = .ok (.if_icmp .eq 660, 3) := by decide +kernel
theorem dL_law_262 : decode cL_law 262 = .ok (.iconst 0, 1) := by decide +kernel
theorem dL_law_263 : decode cL_law 263 = .ok (.ireturn, 1) := by decide +kernel
theorem dL_law_264 : decode cL_law 264 = .ok (.aload_n 1, 1) := by decide +kernel
theorem dL_law_265 : decode cL_law 265 = .ok (.aload_n 0, 1) := by decide +kernel
theorem dL_law_266 : decode cL_law 266 = .ok (.iload 4, 2) := by decide +kernel
theorem dL_law_268 : decode cL_law 268 = .ok (.iconst 1, 1) := by decide +kernel
theorem dL_law_269 : decode cL_law 269 = .ok (.iadd, 1) := by decide +kernel
theorem dL_law_270 : decode cL_law 270 = .ok (.iaload, 1) := by decide +kernel
theorem dL_law_271 : decode cL_law 271 = .ok (.aload_n 0, 1) := by decide +kernel
theorem dL_law_272 : decode cL_law 272 = .ok (.iload 4, 2) := by decide +kernel
theorem dL_law_274 : decode cL_law 274 = .ok (.iconst 2, 1) := by decide +kernel
theorem dL_law_275 : decode cL_law 275 = .ok (.iadd, 1) := by decide +kernel
theorem dL_law_276 : decode cL_law 276 = .ok (.iaload, 1) := by decide +kernel
theorem dL_law_277 : decode cL_law 277 = .ok (.aload_n 0, 1) := by decide +kernel
theorem dL_law_278 : decode cL_law 278 = .ok (.iload 4, 2) := by decide +kernel
theorem dL_law_280 : decode cL_law 280 = .ok (.iconst 3, 1) := by decide +kernel
theorem dL_law_281 : decode cL_law 281 = .ok (.iadd, 1) := by decide +kernel
theorem dL_law_282 : decode cL_law 282 = .ok (.iaload, 1) := by decide +kernel
theorem dL_law_283 : decode cL_law 283 = .ok (.invokevirtual 42, 3) := by decide +kernel
theorem dL_law_286 : decode cL_law 286 = .ok (.aload_n 2, 1) := by decide +kernel
theorem dL_law_287 : decode cL_law 287 = .ok (.aload_n 0, 1) := by decide +kernel
theorem dL_law_288 : decode cL_law 288 = .ok (.iload 4, 2) := by decide +kernel
theorem dL_law_290 : decode cL_law 290 = .ok (.iconst 1, 1) := by decide +kernel
theorem dL_law_291 : decode cL_law 291 = .ok (.iadd, 1) := by decide +kernel
theorem dL_law_292 : decode cL_law 292 = .ok (.iaload, 1) := by decide +kernel
theorem dL_law_293 : decode cL_law 293 = .ok (.aload_n 0, 1) := by decide +kernel
theorem dL_law_294 : decode cL_law 294 = .ok (.iload 4, 2) := by decide +kernel
theorem dL_law_296 : decode cL_law 296 = .ok (.iconst 2, 1) := by decide +kernel
theorem dL_law_297 : decode cL_law 297 = .ok (.iadd, 1) := by decide +kernel
theorem dL_law_298 : decode cL_law 298 = .ok (.iaload, 1) := by decide +kernel
theorem dL_law_299 : decode cL_law 299 = .ok (.aload_n 0, 1) := by decide +kernel
theorem dL_law_300 : decode cL_law 300 = .ok (.iload 4, 2) := by decide +kernel
theorem dL_law_302 : decode cL_law 302 = .ok (.iconst 3, 1) := by decide +kernel
theorem dL_law_303 : decode cL_law 303 = .ok (.iadd, 1) := by decide +kernel
theorem dL_law_304 : decode cL_law 304 = .ok (.iaload, 1) := by decide +kernel
theorem dL_law_305 : decode cL_law 305 = .ok (.invokevirtual 45, 3) := by decide +kernel
theorem dL_law_308 : decode cL_law 308 = .ok (.if_icmp .eq 611, 3) := by decide +kernel
theorem dL_law_311 : decode cL_law 311 = .ok (.iconst 0, 1) := by decide +kernel
theorem dL_law_312 : decode cL_law 312 = .ok (.ireturn, 1) := by decide +kernel
theorem dL_law_313 : decode cL_law 313 = .ok (.aload_n 1, 1) := by decide +kernel
theorem dL_law_314 : decode cL_law 314 = .ok (.aload_n 0, 1) := by decide +kernel
theorem dL_law_315 : decode cL_law 315 = .ok (.iload 4, 2) := by decide +kernel
theorem dL_law_317 : decode cL_law 317 = .ok (.iconst 1, 1) := by decide +kernel
theorem dL_law_318 : decode cL_law 318 = .ok (.iadd, 1) := by decide +kernel
theorem dL_law_319 : decode cL_law 319 = .ok (.iaload, 1) := by decide +kernel
theorem dL_law_320 : decode cL_law 320 = .ok (.aload_n 0, 1) := by decide +kernel
theorem dL_law_321 : decode cL_law 321 = .ok (.iload 4, 2) := by decide +kernel
theorem dL_law_323 : decode cL_law 323 = .ok (.iconst 2, 1) := by decide +kernel
theorem dL_law_324 : decode cL_law 324 = .ok (.iadd, 1) := by decide +kernel
theorem dL_law_325 : decode cL_law 325 = .ok (.iaload, 1) := by decide +kernel
theorem dL_law_326 : decode cL_law 326 = .ok (.aload_n 0, 1) := by decide +kernel
theorem dL_law_327 : decode cL_law 327 = .ok (.iload 4, 2) := by decide +kernel
theorem dL_law_329 : decode cL_law 329 = .ok (.iconst 3, 1) := by decide +kernel
theorem dL_law_330 : decode cL_law 330 = .ok (.iadd, 1) := by decide +kernel
theorem dL_law_331 : decode cL_law 331 = .ok (.iaload, 1) := by decide +kernel
theorem dL_law_332 : decode cL_law 332 = .ok (.aload_n 0, 1) := by decide +kernel
theorem dL_law_333 : decode cL_law 333 = .ok (.iload 4, 2) := by decide +kernel
theorem dL_law_335 : decode cL_law 335 = .ok (.iconst 4, 1) := by decide +kernel
theorem dL_law_336 : decode cL_law 336 = .ok (.iadd, 1) := by decide +kernel
theorem dL_law_337 : decode cL_law 337 = .ok (.iaload, 1) := by decide +kernel
theorem dL_law_338 : decode cL_law 338 = .ok (.invokevirtual 46, 3) := by decide +kernel
theorem dL_law_341 : decode cL_law 341 = .ok (.aload_n 2, 1) := by decide +kernel
theorem dL_law_342 : decode cL_law 342 = .ok (.aload_n 0, 1) := by decide +kernel
theorem dL_law_343 : decode cL_law 343 = .ok (.iload 4, 2) := by decide +kernel
theorem dL_law_345 : decode cL_law 345 = .ok (.iconst 1, 1) := by decide +kernel
theorem dL_law_346 : decode cL_law 346 = .ok (.iadd, 1) := by decide +kernel
theorem dL_law_347 : decode cL_law 347 = .ok (.iaload, 1) := by decide +kernel
theorem dL_law_348 : decode cL_law 348 = .ok (.aload_n 0, 1) := by decide +kernel
theorem dL_law_349 : decode cL_law 349 = .ok (.iload 4, 2) := by decide +kernel
theorem dL_law_351 : decode cL_law 351 = .ok (.iconst 2, 1) := by decide +kernel
theorem dL_law_352 : decode cL_law 352 = .ok (.iadd, 1) := by decide +kernel
theorem dL_law_353 : decode cL_law 353 = .ok (.iaload, 1) := by decide +kernel
theorem dL_law_354 : decode cL_law 354 = .ok (.aload_n 0, 1) := by decide +kernel
theorem dL_law_355 : decode cL_law 355 = .ok (.iload 4, 2) := by decide +kernel
theorem dL_law_357 : decode cL_law 357 = .ok (.iconst 3, 1) := by decide +kernel
theorem dL_law_358 : decode cL_law 358 = .ok (.iadd, 1) := by decide +kernel
theorem dL_law_359 : decode cL_law 359 = .ok (.iaload, 1) := by decide +kernel
theorem dL_law_360 : decode cL_law 360 = .ok (.aload_n 0, 1) := by decide +kernel
theorem dL_law_361 : decode cL_law 361 = .ok (.iload 4, 2) := by decide +kernel
theorem dL_law_363 : decode cL_law 363 = .ok (.iconst 4, 1) := by decide +kernel
theorem dL_law_364 : decode cL_law 364 = .ok (.iadd, 1) := by decide +kernel
theorem dL_law_365 : decode cL_law 365 = .ok (.iaload, 1) := by decide +kernel
theorem dL_law_366 : decode cL_law 366 = .ok (.invokevirtual 50, 3) := by decide +kernel
theorem dL_law_369 : decode cL_law 369 = .ok (.if_icmp .eq 550, 3) := by decide +kernel
theorem dL_law_372 : decode cL_law 372 = .ok (.iconst 0, 1) := by decide +kernel
theorem dL_law_373 : decode cL_law 373 = .ok (.ireturn, 1) := by decide +kernel
theorem dL_law_374 : decode cL_law 374 = .ok (.aload_n 1, 1) := by decide +kernel
theorem dL_law_375 : decode cL_law 375 = .ok (.aload_n 0, 1) := by decide +kernel
theorem dL_law_376 : decode cL_law 376 = .ok (.iload 4, 2) := by decide +kernel
theorem dL_law_378 : decode cL_law 378 = .ok (.iconst 1, 1) := by decide +kernel
theorem dL_law_379 : decode cL_law 379 = .ok (.iadd, 1) := by decide +kernel
theorem dL_law_380 : decode cL_law 380 = .ok (.iaload, 1) := by decide +kernel
theorem dL_law_381 : decode cL_law 381 = .ok (.aload_n 0, 1) := by decide +kernel
theorem dL_law_382 : decode cL_law 382 = .ok (.iload 4, 2) := by decide +kernel
theorem dL_law_384 : decode cL_law 384 = .ok (.iconst 2, 1) := by decide +kernel
theorem dL_law_385 : decode cL_law 385 = .ok (.iadd, 1) := by decide +kernel
theorem dL_law_386 : decode cL_law 386 = .ok (.iaload, 1) := by decide +kernel
theorem dL_law_387 : decode cL_law 387 = .ok (.invokevirtual 51, 3) := by decide +kernel
theorem dL_law_390 : decode cL_law 390 = .ok (.aload_n 2, 1) := by decide +kernel
theorem dL_law_391 : decode cL_law 391 = .ok (.aload_n 0, 1) := by decide +kernel
theorem dL_law_392 : decode cL_law 392 = .ok (.iload 4, 2) := by decide +kernel
theorem dL_law_394 : decode cL_law 394 = .ok (.iconst 1, 1) := by decide +kernel
theorem dL_law_395 : decode cL_law 395 = .ok (.iadd, 1) := by decide +kernel
theorem dL_law_396 : decode cL_law 396 = .ok (.iaload, 1) := by decide +kernel
theorem dL_law_397 : decode cL_law 397 = .ok (.aload_n 0, 1) := by decide +kernel
theorem dL_law_398 : decode cL_law 398 = .ok (.iload 4, 2) := by decide +kernel
theorem dL_law_400 : decode cL_law 400 = .ok (.iconst 2, 1) := by decide +kernel
theorem dL_law_401 : decode cL_law 401 = .ok (.iadd, 1) := by decide +kernel
theorem dL_law_402 : decode cL_law 402 = .ok (.iaload, 1) := by decide +kernel
theorem dL_law_403 : decode cL_law 403 = .ok (.invokevirtual 54, 3) := by decide +kernel
theorem dL_law_406 : decode cL_law 406 = .ok (.if_icmp .eq 513, 3) := by decide +kernel
theorem dL_law_409 : decode cL_law 409 = .ok (.iconst 0, 1) := by decide +kernel
theorem dL_law_410 : decode cL_law 410 = .ok (.ireturn, 1) := by decide +kernel
theorem dL_law_411 : decode cL_law 411 = .ok (.aload_n 1, 1) := by decide +kernel
theorem dL_law_412 : decode cL_law 412 = .ok (.aload_n 0, 1) := by decide +kernel
theorem dL_law_413 : decode cL_law 413 = .ok (.iload 4, 2) := by decide +kernel
theorem dL_law_415 : decode cL_law 415 = .ok (.iconst 1, 1) := by decide +kernel
theorem dL_law_416 : decode cL_law 416 = .ok (.iadd, 1) := by decide +kernel
theorem dL_law_417 : decode cL_law 417 = .ok (.iaload, 1) := by decide +kernel
theorem dL_law_418 : decode cL_law 418 = .ok (.aload_n 0, 1) := by decide +kernel
theorem dL_law_419 : decode cL_law 419 = .ok (.iload 4, 2) := by decide +kernel
theorem dL_law_421 : decode cL_law 421 = .ok (.iconst 2, 1) := by decide +kernel
theorem dL_law_422 : decode cL_law 422 = .ok (.iadd, 1) := by decide +kernel
theorem dL_law_423 : decode cL_law 423 = .ok (.iaload, 1) := by decide +kernel
theorem dL_law_424 : decode cL_law 424 = .ok (.invokevirtual 55, 3) := by decide +kernel
theorem dL_law_427 : decode cL_law 427 = .ok (.aload_n 2, 1) := by decide +kernel
theorem dL_law_428 : decode cL_law 428 = .ok (.aload_n 0, 1) := by decide +kernel
theorem dL_law_429 : decode cL_law 429 = .ok (.iload 4, 2) := by decide +kernel
theorem dL_law_431 : decode cL_law 431 = .ok (.iconst 1, 1) := by decide +kernel
theorem dL_law_432 : decode cL_law 432 = .ok (.iadd, 1) := by decide +kernel
theorem dL_law_433 : decode cL_law 433 = .ok (.iaload, 1) := by decide +kernel
theorem dL_law_434 : decode cL_law 434 = .ok (.aload_n 0, 1) := by decide +kernel
theorem dL_law_435 : decode cL_law 435 = .ok (.iload 4, 2) := by decide +kernel
theorem dL_law_437 : decode cL_law 437 = .ok (.iconst 2, 1) := by decide +kernel
theorem dL_law_438 : decode cL_law 438 = .ok (.iadd, 1) := by decide +kernel
theorem dL_law_439 : decode cL_law 439 = .ok (.iaload, 1) := by decide +kernel
theorem dL_law_440 : decode cL_law 440 = .ok (.invokevirtual 58, 3) := by decide +kernel
theorem dL_law_443 : decode cL_law 443 = .ok (.if_icmp .eq 476, 3) := by decide +kernel
theorem dL_law_446 : decode cL_law 446 = .ok (.iconst 0, 1) := by decide +kernel
theorem dL_law_447 : decode cL_law 447 = .ok (.ireturn, 1) := by decide +kernel
theorem dL_law_448 : decode cL_law 448 = .ok (.aload_n 1, 1) := by decide +kernel
theorem dL_law_449 : decode cL_law 449 = .ok (.invokevirtual 59, 3) := by decide +kernel
theorem dL_law_452 : decode cL_law 452 = .ok (.aload_n 2, 1) := by decide +kernel
theorem dL_law_453 : decode cL_law 453 = .ok (.invokevirtual 62, 3) := by decide +kernel
theorem dL_law_456 : decode cL_law 456 = .ok (.if_icmp .eq 463, 3) := by decide +kernel
theorem dL_law_459 : decode cL_law 459 = .ok (.iconst 0, 1) := by decide +kernel
theorem dL_law_460 : decode cL_law 460 = .ok (.ireturn, 1) := by decide +kernel
theorem dL_law_461 : decode cL_law 461 = .ok (.aload_n 1, 1) := by decide +kernel
theorem dL_law_462 : decode cL_law 462 = .ok (.aload_n 0, 1) := by decide +kernel
theorem dL_law_463 : decode cL_law 463 = .ok (.iload 4, 2) := by decide +kernel
theorem dL_law_465 : decode cL_law 465 = .ok (.iconst 1, 1) := by decide +kernel
theorem dL_law_466 : decode cL_law 466 = .ok (.iadd, 1) := by decide +kernel
theorem dL_law_467 : decode cL_law 467 = .ok (.iaload, 1) := by decide +kernel
theorem dL_law_468 : decode cL_law 468 = .ok (.aload_n 0, 1) := by decide +kernel
theorem dL_law_469 : decode cL_law 469 = .ok (.iload 4, 2) := by decide +kernel
theorem dL_law_471 : decode cL_law 471 = .ok (.iconst 2, 1) := by decide +kernel
theorem dL_law_472 : decode cL_law 472 = .ok (.iadd, 1) := by decide +kernel
theorem dL_law_473 : decode cL_law 473 = .ok (.iaload, 1) := by decide +kernel
theorem dL_law_474 : decode cL_law 474 = .ok (.aload_n 3, 1) := by decide +kernel
theorem dL_law_475 : decode cL_law 475 = .ok (.invokestatic 63, 3) := by decide +kernel
theorem dL_law_478 : decode cL_law 478 = .ok (.istore 5, 2) := by decide +kernel
theorem dL_law_480 : decode cL_law 480 = .ok (.aload_n 2, 1) := by decide +kernel
theorem dL_law_481 : decode cL_law 481 = .ok (.aload_n 0, 1) := by decide +kernel
theorem dL_law_482 : decode cL_law 482 = .ok (.iload 4, 2) := by decide +kernel
theorem dL_law_484 : decode cL_law 484 = .ok (.iconst 1, 1) := by decide +kernel
theorem dL_law_485 : decode cL_law 485 = .ok (.iadd, 1) := by decide +kernel
theorem dL_law_486 : decode cL_law 486 = .ok (.iaload, 1) := by decide +kernel
theorem dL_law_487 : decode cL_law 487 = .ok (.aload_n 0, 1) := by decide +kernel
theorem dL_law_488 : decode cL_law 488 = .ok (.iload 4, 2) := by decide +kernel
theorem dL_law_490 : decode cL_law 490 = .ok (.iconst 2, 1) := by decide +kernel
theorem dL_law_491 : decode cL_law 491 = .ok (.iadd, 1) := by decide +kernel
theorem dL_law_492 : decode cL_law 492 = .ok (.iaload, 1) := by decide +kernel
theorem dL_law_493 : decode cL_law 493 = .ok (.invokevirtual 68, 3) := by decide +kernel
theorem dL_law_496 : decode cL_law 496 = .ok (.istore 6, 2) := by decide +kernel
theorem dL_law_498 : decode cL_law 498 = .ok (.aload_n 2, 1) := by decide +kernel
theorem dL_law_499 : decode cL_law 499 = .ok (.invokevirtual 69, 3) := by decide +kernel
theorem dL_law_502 : decode cL_law 502 = .ok (.iload 5, 2) := by decide +kernel
theorem dL_law_504 : decode cL_law 504 = .ok (.if_icmp .eq 5, 3) := by decide +kernel
theorem dL_law_507 : decode cL_law 507 = .ok (.iconst 0, 1) := by decide +kernel
theorem dL_law_508 : decode cL_law 508 = .ok (.ireturn, 1) := by decide +kernel
theorem dL_law_509 : decode cL_law 509 = .ok (.iload 5, 2) := by decide +kernel
theorem dL_law_511 : decode cL_law 511 = .ok (.ifCond .ne 15, 3) := by decide +kernel
theorem dL_law_514 : decode cL_law 514 = .ok (.aload_n 3, 1) := by decide +kernel
theorem dL_law_515 : decode cL_law 515 = .ok (.iconst 0, 1) := by decide +kernel
theorem dL_law_516 : decode cL_law 516 = .ok (.laload, 1) := by decide +kernel
theorem dL_law_517 : decode cL_law 517 = .ok (.iload 6, 2) := by decide +kernel
theorem dL_law_519 : decode cL_law 519 = .ok (.i2l, 1) := by decide +kernel
theorem dL_law_520 : decode cL_law 520 = .ok (.lcmp, 1) := by decide +kernel
theorem dL_law_521 : decode cL_law 521 = .ok (.ifCond .eq 5, 3) := by decide +kernel
theorem dL_law_524 : decode cL_law 524 = .ok (.iconst 0, 1) := by decide +kernel
theorem dL_law_525 : decode cL_law 525 = .ok (.ireturn, 1) := by decide +kernel
theorem dL_law_526 : decode cL_law 526 = .ok (.goto 393, 3) := by decide +kernel
theorem dL_law_529 : decode cL_law 529 = .ok (.aload_n 1, 1) := by decide +kernel
theorem dL_law_530 : decode cL_law 530 = .ok (.aload_n 0, 1) := by decide +kernel
theorem dL_law_531 : decode cL_law 531 = .ok (.iload 4, 2) := by decide +kernel
theorem dL_law_533 : decode cL_law 533 = .ok (.iconst 1, 1) := by decide +kernel
theorem dL_law_534 : decode cL_law 534 = .ok (.iadd, 1) := by decide +kernel
theorem dL_law_535 : decode cL_law 535 = .ok (.iaload, 1) := by decide +kernel
theorem dL_law_536 : decode cL_law 536 = .ok (.aload_n 0, 1) := by decide +kernel
theorem dL_law_537 : decode cL_law 537 = .ok (.iload 4, 2) := by decide +kernel
theorem dL_law_539 : decode cL_law 539 = .ok (.iconst 2, 1) := by decide +kernel
theorem dL_law_540 : decode cL_law 540 = .ok (.iadd, 1) := by decide +kernel
theorem dL_law_541 : decode cL_law 541 = .ok (.iaload, 1) := by decide +kernel
theorem dL_law_542 : decode cL_law 542 = .ok (.invokevirtual 72, 3) := by decide +kernel
theorem dL_law_545 : decode cL_law 545 = .ok (.aload_n 2, 1) := by decide +kernel
theorem dL_law_546 : decode cL_law 546 = .ok (.aload_n 0, 1) := by decide +kernel
theorem dL_law_547 : decode cL_law 547 = .ok (.iload 4, 2) := by decide +kernel
theorem dL_law_549 : decode cL_law 549 = .ok (.iconst 1, 1) := by decide +kernel
theorem dL_law_550 : decode cL_law 550 = .ok (.iadd, 1) := by decide +kernel
theorem dL_law_551 : decode cL_law 551 = .ok (.iaload, 1) := by decide +kernel
theorem dL_law_552 : decode cL_law 552 = .ok (.aload_n 0, 1) := by decide +kernel
theorem dL_law_553 : decode cL_law 553 = .ok (.iload 4, 2) := by decide +kernel
theorem dL_law_555 : decode cL_law 555 = .ok (.iconst 2, 1) := by decide +kernel
theorem dL_law_556 : decode cL_law 556 = .ok (.iadd, 1) := by decide +kernel
theorem dL_law_557 : decode cL_law 557 = .ok (.iaload, 1) := by decide +kernel
theorem dL_law_558 : decode cL_law 558 = .ok (.invokevirtual 75, 3) := by decide +kernel
theorem dL_law_561 : decode cL_law 561 = .ok (.if_icmp .eq 358, 3) := by decide +kernel
theorem dL_law_564 : decode cL_law 564 = .ok (.iconst 0, 1) := by decide +kernel
theorem dL_law_565 : decode cL_law 565 = .ok (.ireturn, 1) := by decide +kernel
theorem dL_law_566 : decode cL_law 566 = .ok (.aload_n 1, 1) := by decide +kernel
theorem dL_law_567 : decode cL_law 567 = .ok (.aload_n 0, 1) := by decide +kernel
theorem dL_law_568 : decode cL_law 568 = .ok (.iload 4, 2) := by decide +kernel
theorem dL_law_570 : decode cL_law 570 = .ok (.iconst 1, 1) := by decide +kernel
theorem dL_law_571 : decode cL_law 571 = .ok (.iadd, 1) := by decide +kernel
theorem dL_law_572 : decode cL_law 572 = .ok (.iaload, 1) := by decide +kernel
theorem dL_law_573 : decode cL_law 573 = .ok (.aload_n 0, 1) := by decide +kernel
theorem dL_law_574 : decode cL_law 574 = .ok (.iload 4, 2) := by decide +kernel
theorem dL_law_576 : decode cL_law 576 = .ok (.iconst 2, 1) := by decide +kernel
theorem dL_law_577 : decode cL_law 577 = .ok (.iadd, 1) := by decide +kernel
theorem dL_law_578 : decode cL_law 578 = .ok (.iaload, 1) := by decide +kernel
theorem dL_law_579 : decode cL_law 579 = .ok (.aload_n 0, 1) := by decide +kernel
theorem dL_law_580 : decode cL_law 580 = .ok (.iload 4, 2) := by decide +kernel
theorem dL_law_582 : decode cL_law 582 = .ok (.iconst 3, 1) := by decide +kernel
theorem dL_law_583 : decode cL_law 583 = .ok (.iadd, 1) := by decide +kernel
theorem dL_law_584 : decode cL_law 584 = .ok (.iaload, 1) := by decide +kernel
theorem dL_law_585 : decode cL_law 585 = .ok (.aload_n 3, 1) := by decide +kernel
theorem dL_law_586 : decode cL_law 586 = .ok (.invokestatic 76, 3) := by decide +kernel
theorem dL_law_589 : decode cL_law 589 = .ok (.istore 5, 2) := by decide +kernel
theorem dL_law_591 : decode cL_law 591 = .ok (.aload_n 2, 1) := by decide +kernel
theorem dL_law_592 : decode cL_law 592 = .ok (.aload_n 0, 1) := by decide +kernel
theorem dL_law_593 : decode cL_law 593 = .ok (.iload 4, 2) := by decide +kernel
theorem dL_law_595 : decode cL_law 595 = .ok (.iconst 1, 1) := by decide +kernel
theorem dL_law_596 : decode cL_law 596 = .ok (.iadd, 1) := by decide +kernel
theorem dL_law_597 : decode cL_law 597 = .ok (.iaload, 1) := by decide +kernel
theorem dL_law_598 : decode cL_law 598 = .ok (.aload_n 0, 1) := by decide +kernel
theorem dL_law_599 : decode cL_law 599 = .ok (.iload 4, 2) := by decide +kernel
theorem dL_law_601 : decode cL_law 601 = .ok (.iconst 2, 1) := by decide +kernel
theorem dL_law_602 : decode cL_law 602 = .ok (.iadd, 1) := by decide +kernel
theorem dL_law_603 : decode cL_law 603 = .ok (.iaload, 1) := by decide +kernel
theorem dL_law_604 : decode cL_law 604 = .ok (.aload_n 0, 1) := by decide +kernel
theorem dL_law_605 : decode cL_law 605 = .ok (.iload 4, 2) := by decide +kernel
theorem dL_law_607 : decode cL_law 607 = .ok (.iconst 3, 1) := by decide +kernel
theorem dL_law_608 : decode cL_law 608 = .ok (.iadd, 1) := by decide +kernel
theorem dL_law_609 : decode cL_law 609 = .ok (.iaload, 1) := by decide +kernel
theorem dL_law_610 : decode cL_law 610 = .ok (.invokevirtual 79, 3) := by decide +kernel
theorem dL_law_613 : decode cL_law 613 = .ok (.istore 6, 2) := by decide +kernel
theorem dL_law_615 : decode cL_law 615 = .ok (.aload_n 2, 1) := by decide +kernel
theorem dL_law_616 : decode cL_law 616 = .ok (.invokevirtual 69, 3) := by decide +kernel
theorem dL_law_619 : decode cL_law 619 = .ok (.iload 5, 2) := by decide +kernel
theorem dL_law_621 : decode cL_law 621 = .ok (.if_icmp .eq 5, 3) := by decide +kernel
theorem dL_law_624 : decode cL_law 624 = .ok (.iconst 0, 1) := by decide +kernel
theorem dL_law_625 : decode cL_law 625 = .ok (.ireturn, 1) := by decide +kernel
theorem dL_law_626 : decode cL_law 626 = .ok (.iload 5, 2) := by decide +kernel
theorem dL_law_628 : decode cL_law 628 = .ok (.ifCond .ne 15, 3) := by decide +kernel
theorem dL_law_631 : decode cL_law 631 = .ok (.aload_n 3, 1) := by decide +kernel
theorem dL_law_632 : decode cL_law 632 = .ok (.iconst 0, 1) := by decide +kernel
theorem dL_law_633 : decode cL_law 633 = .ok (.laload, 1) := by decide +kernel
theorem dL_law_634 : decode cL_law 634 = .ok (.iload 6, 2) := by decide +kernel
theorem dL_law_636 : decode cL_law 636 = .ok (.i2l, 1) := by decide +kernel
theorem dL_law_637 : decode cL_law 637 = .ok (.lcmp, 1) := by decide +kernel
theorem dL_law_638 : decode cL_law 638 = .ok (.ifCond .eq 5, 3) := by decide +kernel
theorem dL_law_641 : decode cL_law 641 = .ok (.iconst 0, 1) := by decide +kernel
theorem dL_law_642 : decode cL_law 642 = .ok (.ireturn, 1) := by decide +kernel
theorem dL_law_643 : decode cL_law 643 = .ok (.goto 276, 3) := by decide +kernel
theorem dL_law_646 : decode cL_law 646 = .ok (.aload_n 1, 1) := by decide +kernel
theorem dL_law_647 : decode cL_law 647 = .ok (.invokevirtual 80, 3) := by decide +kernel
theorem dL_law_650 : decode cL_law 650 = .ok (.aload_n 2, 1) := by decide +kernel
theorem dL_law_651 : decode cL_law 651 = .ok (.invokevirtual 83, 3) := by decide +kernel
theorem dL_law_654 : decode cL_law 654 = .ok (.if_icmp .eq 265, 3) := by decide +kernel
theorem dL_law_657 : decode cL_law 657 = .ok (.iconst 0, 1) := by decide +kernel
theorem dL_law_658 : decode cL_law 658 = .ok (.ireturn, 1) := by decide +kernel
theorem dL_law_659 : decode cL_law 659 = .ok (.aload_n 1, 1) := by decide +kernel
theorem dL_law_660 : decode cL_law 660 = .ok (.aload_n 0, 1) := by decide +kernel
theorem dL_law_661 : decode cL_law 661 = .ok (.iload 4, 2) := by decide +kernel
theorem dL_law_663 : decode cL_law 663 = .ok (.iconst 1, 1) := by decide +kernel
theorem dL_law_664 : decode cL_law 664 = .ok (.iadd, 1) := by decide +kernel
theorem dL_law_665 : decode cL_law 665 = .ok (.iaload, 1) := by decide +kernel
theorem dL_law_666 : decode cL_law 666 = .ok (.aload_n 0, 1) := by decide +kernel
theorem dL_law_667 : decode cL_law 667 = .ok (.iload 4, 2) := by decide +kernel
theorem dL_law_669 : decode cL_law 669 = .ok (.iconst 2, 1) := by decide +kernel
theorem dL_law_670 : decode cL_law 670 = .ok (.iadd, 1) := by decide +kernel
theorem dL_law_671 : decode cL_law 671 = .ok (.iaload, 1) := by decide +kernel
theorem dL_law_672 : decode cL_law 672 = .ok (.invokevirtual 84, 3) := by decide +kernel
theorem dL_law_675 : decode cL_law 675 = .ok (.aload_n 2, 1) := by decide +kernel
theorem dL_law_676 : decode cL_law 676 = .ok (.aload_n 0, 1) := by decide +kernel
theorem dL_law_677 : decode cL_law 677 = .ok (.iload 4, 2) := by decide +kernel
theorem dL_law_679 : decode cL_law 679 = .ok (.iconst 1, 1) := by decide +kernel
theorem dL_law_680 : decode cL_law 680 = .ok (.iadd, 1) := by decide +kernel
theorem dL_law_681 : decode cL_law 681 = .ok (.iaload, 1) := by decide +kernel
theorem dL_law_682 : decode cL_law 682 = .ok (.aload_n 0, 1) := by decide +kernel
theorem dL_law_683 : decode cL_law 683 = .ok (.iload 4, 2) := by decide +kernel
theorem dL_law_685 : decode cL_law 685 = .ok (.iconst 2, 1) := by decide +kernel
theorem dL_law_686 : decode cL_law 686 = .ok (.iadd, 1) := by decide +kernel
theorem dL_law_687 : decode cL_law 687 = .ok (.iaload, 1) := by decide +kernel
theorem dL_law_688 : decode cL_law 688 = .ok (.invokevirtual 87, 3) := by decide +kernel
theorem dL_law_691 : decode cL_law 691 = .ok (.if_icmp .eq 228, 3) := by decide +kernel
theorem dL_law_694 : decode cL_law 694 = .ok (.iconst 0, 1) := by decide +kernel
theorem dL_law_695 : decode cL_law 695 = .ok (.ireturn, 1) := by decide +kernel
theorem dL_law_696 : decode cL_law 696 = .ok (.aload_n 1, 1) := by decide +kernel
theorem dL_law_697 : decode cL_law 697 = .ok (.aload_n 0, 1) := by decide +kernel
theorem dL_law_698 : decode cL_law 698 = .ok (.iload 4, 2) := by decide +kernel
theorem dL_law_700 : decode cL_law 700 = .ok (.iconst 1, 1) := by decide +kernel
theorem dL_law_701 : decode cL_law 701 = .ok (.iadd, 1) := by decide +kernel
theorem dL_law_702 : decode cL_law 702 = .ok (.iaload, 1) := by decide +kernel
theorem dL_law_703 : decode cL_law 703 = .ok (.aload_n 0, 1) := by decide +kernel
theorem dL_law_704 : decode cL_law 704 = .ok (.iload 4, 2) := by decide +kernel
theorem dL_law_706 : decode cL_law 706 = .ok (.iconst 2, 1) := by decide +kernel
theorem dL_law_707 : decode cL_law 707 = .ok (.iadd, 1) := by decide +kernel
theorem dL_law_708 : decode cL_law 708 = .ok (.iaload, 1) := by decide +kernel
theorem dL_law_709 : decode cL_law 709 = .ok (.invokevirtual 88, 3) := by decide +kernel
theorem dL_law_712 : decode cL_law 712 = .ok (.aload_n 2, 1) := by decide +kernel
theorem dL_law_713 : decode cL_law 713 = .ok (.aload_n 0, 1) := by decide +kernel
theorem dL_law_714 : decode cL_law 714 = .ok (.iload 4, 2) := by decide +kernel
theorem dL_law_716 : decode cL_law 716 = .ok (.iconst 1, 1) := by decide +kernel
theorem dL_law_717 : decode cL_law 717 = .ok (.iadd, 1) := by decide +kernel
theorem dL_law_718 : decode cL_law 718 = .ok (.iaload, 1) := by decide +kernel
theorem dL_law_719 : decode cL_law 719 = .ok (.aload_n 0, 1) := by decide +kernel
theorem dL_law_720 : decode cL_law 720 = .ok (.iload 4, 2) := by decide +kernel
theorem dL_law_722 : decode cL_law 722 = .ok (.iconst 2, 1) := by decide +kernel
theorem dL_law_723 : decode cL_law 723 = .ok (.iadd, 1) := by decide +kernel
theorem dL_law_724 : decode cL_law 724 = .ok (.iaload, 1) := by decide +kernel
theorem dL_law_725 : decode cL_law 725 = .ok (.invokevirtual 91, 3) := by decide +kernel
theorem dL_law_728 : decode cL_law 728 = .ok (.if_icmp .eq 191, 3) := by decide +kernel
theorem dL_law_731 : decode cL_law 731 = .ok (.iconst 0, 1) := by decide +kernel
theorem dL_law_732 : decode cL_law 732 = .ok (.ireturn, 1) := by decide +kernel
theorem dL_law_733 : decode cL_law 733 = .ok (.aload_n 1, 1) := by decide +kernel
theorem dL_law_734 : decode cL_law 734 = .ok (.invokevirtual 92, 3) := by decide +kernel
theorem dL_law_737 : decode cL_law 737 = .ok (.aload_n 2, 1) := by decide +kernel
theorem dL_law_738 : decode cL_law 738 = .ok (.invokevirtual 95, 3) := by decide +kernel
theorem dL_law_741 : decode cL_law 741 = .ok (.if_icmp .eq 178, 3) := by decide +kernel
theorem dL_law_744 : decode cL_law 744 = .ok (.iconst 0, 1) := by decide +kernel
theorem dL_law_745 : decode cL_law 745 = .ok (.ireturn, 1) := by decide +kernel
theorem dL_law_746 : decode cL_law 746 = .ok (.aload_n 1, 1) := by decide +kernel
theorem dL_law_747 : decode cL_law 747 = .ok (.aload_n 0, 1) := by decide +kernel
theorem dL_law_748 : decode cL_law 748 = .ok (.iload 4, 2) := by decide +kernel
theorem dL_law_750 : decode cL_law 750 = .ok (.iconst 1, 1) := by decide +kernel
theorem dL_law_751 : decode cL_law 751 = .ok (.iadd, 1) := by decide +kernel
theorem dL_law_752 : decode cL_law 752 = .ok (.iaload, 1) := by decide +kernel
theorem dL_law_753 : decode cL_law 753 = .ok (.aload_n 0, 1) := by decide +kernel
theorem dL_law_754 : decode cL_law 754 = .ok (.iload 4, 2) := by decide +kernel
theorem dL_law_756 : decode cL_law 756 = .ok (.iconst 2, 1) := by decide +kernel
theorem dL_law_757 : decode cL_law 757 = .ok (.iadd, 1) := by decide +kernel
theorem dL_law_758 : decode cL_law 758 = .ok (.iaload, 1) := by decide +kernel
theorem dL_law_759 : decode cL_law 759 = .ok (.aload_n 0, 1) := by decide +kernel
theorem dL_law_760 : decode cL_law 760 = .ok (.iload 4, 2) := by decide +kernel
theorem dL_law_762 : decode cL_law 762 = .ok (.iconst 3, 1) := by decide +kernel
theorem dL_law_763 : decode cL_law 763 = .ok (.iadd, 1) := by decide +kernel
theorem dL_law_764 : decode cL_law 764 = .ok (.iaload, 1) := by decide +kernel
theorem dL_law_765 : decode cL_law 765 = .ok (.invokevirtual 96, 3) := by decide +kernel
theorem dL_law_768 : decode cL_law 768 = .ok (.aload_n 2, 1) := by decide +kernel
theorem dL_law_769 : decode cL_law 769 = .ok (.aload_n 0, 1) := by decide +kernel
theorem dL_law_770 : decode cL_law 770 = .ok (.iload 4, 2) := by decide +kernel
theorem dL_law_772 : decode cL_law 772 = .ok (.iconst 1, 1) := by decide +kernel
theorem dL_law_773 : decode cL_law 773 = .ok (.iadd, 1) := by decide +kernel
theorem dL_law_774 : decode cL_law 774 = .ok (.iaload, 1) := by decide +kernel
theorem dL_law_775 : decode cL_law 775 = .ok (.aload_n 0, 1) := by decide +kernel
theorem dL_law_776 : decode cL_law 776 = .ok (.iload 4, 2) := by decide +kernel
theorem dL_law_778 : decode cL_law 778 = .ok (.iconst 2, 1) := by decide +kernel
theorem dL_law_779 : decode cL_law 779 = .ok (.iadd, 1) := by decide +kernel
theorem dL_law_780 : decode cL_law 780 = .ok (.iaload, 1) := by decide +kernel
theorem dL_law_781 : decode cL_law 781 = .ok (.aload_n 0, 1) := by decide +kernel
theorem dL_law_782 : decode cL_law 782 = .ok (.iload 4, 2) := by decide +kernel
theorem dL_law_784 : decode cL_law 784 = .ok (.iconst 3, 1) := by decide +kernel
theorem dL_law_785 : decode cL_law 785 = .ok (.iadd, 1) := by decide +kernel
theorem dL_law_786 : decode cL_law 786 = .ok (.iaload, 1) := by decide +kernel
theorem dL_law_787 : decode cL_law 787 = .ok (.invokevirtual 99, 3) := by decide +kernel
theorem dL_law_790 : decode cL_law 790 = .ok (.if_icmp .eq 129, 3) := by decide +kernel
theorem dL_law_793 : decode cL_law 793 = .ok (.iconst 0, 1) := by decide +kernel
theorem dL_law_794 : decode cL_law 794 = .ok (.ireturn, 1) := by decide +kernel
theorem dL_law_795 : decode cL_law 795 = .ok (.aload_n 1, 1) := by decide +kernel
theorem dL_law_796 : decode cL_law 796 = .ok (.aload_n 0, 1) := by decide +kernel
theorem dL_law_797 : decode cL_law 797 = .ok (.iload 4, 2) := by decide +kernel
theorem dL_law_799 : decode cL_law 799 = .ok (.iconst 1, 1) := by decide +kernel
theorem dL_law_800 : decode cL_law 800 = .ok (.iadd, 1) := by decide +kernel
theorem dL_law_801 : decode cL_law 801 = .ok (.iaload, 1) := by decide +kernel
theorem dL_law_802 : decode cL_law 802 = .ok (.aload_n 0, 1) := by decide +kernel
theorem dL_law_803 : decode cL_law 803 = .ok (.iload 4, 2) := by decide +kernel
theorem dL_law_805 : decode cL_law 805 = .ok (.iconst 2, 1) := by decide +kernel
theorem dL_law_806 : decode cL_law 806 = .ok (.iadd, 1) := by decide +kernel
theorem dL_law_807 : decode cL_law 807 = .ok (.iaload, 1) := by decide +kernel
theorem dL_law_808 : decode cL_law 808 = .ok (.invokevirtual 100, 3) := by decide +kernel
theorem dL_law_811 : decode cL_law 811 = .ok (.aload_n 2, 1) := by decide +kernel
theorem dL_law_812 : decode cL_law 812 = .ok (.aload_n 0, 1) := by decide +kernel
theorem dL_law_813 : decode cL_law 813 = .ok (.iload 4, 2) := by decide +kernel
theorem dL_law_815 : decode cL_law 815 = .ok (.iconst 1, 1) := by decide +kernel
theorem dL_law_816 : decode cL_law 816 = .ok (.iadd, 1) := by decide +kernel
theorem dL_law_817 : decode cL_law 817 = .ok (.iaload, 1) := by decide +kernel
theorem dL_law_818 : decode cL_law 818 = .ok (.aload_n 0, 1) := by decide +kernel
theorem dL_law_819 : decode cL_law 819 = .ok (.iload 4, 2) := by decide +kernel
theorem dL_law_821 : decode cL_law 821 = .ok (.iconst 2, 1) := by decide +kernel
theorem dL_law_822 : decode cL_law 822 = .ok (.iadd, 1) := by decide +kernel
theorem dL_law_823 : decode cL_law 823 = .ok (.iaload, 1) := by decide +kernel
theorem dL_law_824 : decode cL_law 824 = .ok (.invokevirtual 103, 3) := by decide +kernel
theorem dL_law_827 : decode cL_law 827 = .ok (.if_icmp .eq 92, 3) := by decide +kernel
theorem dL_law_830 : decode cL_law 830 = .ok (.iconst 0, 1) := by decide +kernel
theorem dL_law_831 : decode cL_law 831 = .ok (.ireturn, 1) := by decide +kernel
theorem dL_law_832 : decode cL_law 832 = .ok (.aload_n 1, 1) := by decide +kernel
theorem dL_law_833 : decode cL_law 833 = .ok (.aload_n 0, 1) := by decide +kernel
theorem dL_law_834 : decode cL_law 834 = .ok (.iload 4, 2) := by decide +kernel
theorem dL_law_836 : decode cL_law 836 = .ok (.iconst 1, 1) := by decide +kernel
theorem dL_law_837 : decode cL_law 837 = .ok (.iadd, 1) := by decide +kernel
theorem dL_law_838 : decode cL_law 838 = .ok (.iaload, 1) := by decide +kernel
theorem dL_law_839 : decode cL_law 839 = .ok (.aload_n 0, 1) := by decide +kernel
theorem dL_law_840 : decode cL_law 840 = .ok (.iload 4, 2) := by decide +kernel
theorem dL_law_842 : decode cL_law 842 = .ok (.iconst 2, 1) := by decide +kernel
theorem dL_law_843 : decode cL_law 843 = .ok (.iadd, 1) := by decide +kernel
theorem dL_law_844 : decode cL_law 844 = .ok (.iaload, 1) := by decide +kernel
theorem dL_law_845 : decode cL_law 845 = .ok (.invokevirtual 104, 3) := by decide +kernel
theorem dL_law_848 : decode cL_law 848 = .ok (.aload_n 2, 1) := by decide +kernel
theorem dL_law_849 : decode cL_law 849 = .ok (.aload_n 0, 1) := by decide +kernel
theorem dL_law_850 : decode cL_law 850 = .ok (.iload 4, 2) := by decide +kernel
theorem dL_law_852 : decode cL_law 852 = .ok (.iconst 1, 1) := by decide +kernel
theorem dL_law_853 : decode cL_law 853 = .ok (.iadd, 1) := by decide +kernel
theorem dL_law_854 : decode cL_law 854 = .ok (.iaload, 1) := by decide +kernel
theorem dL_law_855 : decode cL_law 855 = .ok (.aload_n 0, 1) := by decide +kernel
theorem dL_law_856 : decode cL_law 856 = .ok (.iload 4, 2) := by decide +kernel
theorem dL_law_858 : decode cL_law 858 = .ok (.iconst 2, 1) := by decide +kernel
theorem dL_law_859 : decode cL_law 859 = .ok (.iadd, 1) := by decide +kernel
theorem dL_law_860 : decode cL_law 860 = .ok (.iaload, 1) := by decide +kernel
theorem dL_law_861 : decode cL_law 861 = .ok (.invokevirtual 107, 3) := by decide +kernel
theorem dL_law_864 : decode cL_law 864 = .ok (.if_icmp .eq 55, 3) := by decide +kernel
theorem dL_law_867 : decode cL_law 867 = .ok (.iconst 0, 1) := by decide +kernel
theorem dL_law_868 : decode cL_law 868 = .ok (.ireturn, 1) := by decide +kernel
theorem dL_law_869 : decode cL_law 869 = .ok (.aload_n 1, 1) := by decide +kernel
theorem dL_law_870 : decode cL_law 870 = .ok (.aload_n 0, 1) := by decide +kernel
theorem dL_law_871 : decode cL_law 871 = .ok (.iload 4, 2) := by decide +kernel
theorem dL_law_873 : decode cL_law 873 = .ok (.iconst 1, 1) := by decide +kernel
theorem dL_law_874 : decode cL_law 874 = .ok (.iadd, 1) := by decide +kernel
theorem dL_law_875 : decode cL_law 875 = .ok (.iaload, 1) := by decide +kernel
theorem dL_law_876 : decode cL_law 876 = .ok (.invokevirtual 108, 3) := by decide +kernel
theorem dL_law_879 : decode cL_law 879 = .ok (.aload_n 2, 1) := by decide +kernel
theorem dL_law_880 : decode cL_law 880 = .ok (.aload_n 0, 1) := by decide +kernel
theorem dL_law_881 : decode cL_law 881 = .ok (.iload 4, 2) := by decide +kernel
theorem dL_law_883 : decode cL_law 883 = .ok (.iconst 1, 1) := by decide +kernel
theorem dL_law_884 : decode cL_law 884 = .ok (.iadd, 1) := by decide +kernel
theorem dL_law_885 : decode cL_law 885 = .ok (.iaload, 1) := by decide +kernel
theorem dL_law_886 : decode cL_law 886 = .ok (.invokevirtual 111, 3) := by decide +kernel
theorem dL_law_889 : decode cL_law 889 = .ok (.if_icmp .eq 30, 3) := by decide +kernel
theorem dL_law_892 : decode cL_law 892 = .ok (.iconst 0, 1) := by decide +kernel
theorem dL_law_893 : decode cL_law 893 = .ok (.ireturn, 1) := by decide +kernel
theorem dL_law_894 : decode cL_law 894 = .ok (.aload_n 1, 1) := by decide +kernel
theorem dL_law_895 : decode cL_law 895 = .ok (.aload_n 0, 1) := by decide +kernel
theorem dL_law_896 : decode cL_law 896 = .ok (.iload 4, 2) := by decide +kernel
theorem dL_law_898 : decode cL_law 898 = .ok (.iconst 1, 1) := by decide +kernel
theorem dL_law_899 : decode cL_law 899 = .ok (.iadd, 1) := by decide +kernel
theorem dL_law_900 : decode cL_law 900 = .ok (.iaload, 1) := by decide +kernel
theorem dL_law_901 : decode cL_law 901 = .ok (.invokevirtual 112, 3) := by decide +kernel
theorem dL_law_904 : decode cL_law 904 = .ok (.aload_n 2, 1) := by decide +kernel
theorem dL_law_905 : decode cL_law 905 = .ok (.aload_n 0, 1) := by decide +kernel
theorem dL_law_906 : decode cL_law 906 = .ok (.iload 4, 2) := by decide +kernel
theorem dL_law_908 : decode cL_law 908 = .ok (.iconst 1, 1) := by decide +kernel
theorem dL_law_909 : decode cL_law 909 = .ok (.iadd, 1) := by decide +kernel
theorem dL_law_910 : decode cL_law 910 = .ok (.iaload, 1) := by decide +kernel
theorem dL_law_911 : decode cL_law 911 = .ok (.invokevirtual 115, 3) := by decide +kernel
theorem dL_law_914 : decode cL_law 914 = .ok (.if_icmp .eq 5, 3) := by decide +kernel
theorem dL_law_917 : decode cL_law 917 = .ok (.iconst 0, 1) := by decide +kernel
theorem dL_law_918 : decode cL_law 918 = .ok (.ireturn, 1) := by decide +kernel
theorem dL_law_919 : decode cL_law 919 = .ok (.iinc 4 5, 3) := by decide +kernel
theorem dL_law_922 : decode cL_law 922 = .ok (.goto (-899), 3) := by decide +kernel
theorem dL_law_925 : decode cL_law 925 = .ok (.iconst 1, 1) := by decide +kernel
theorem dL_law_926 : decode cL_law 926 = .ok (.ireturn, 1) := by decide +kernel
