theorem dX7_signOf_34 : decode cX7_signOf 34 = .ok (.ireturn, 1) := by decide +kernel
set_option maxRecDepth 20000 in
theorem ggX7_laySix_X7_signOf : GoodIn wsX7_laySix wsX7_signOf := goodIn_r _ [6, 7, 8, 9, 5, 10, 11, 12, 13, 14, 15, 16, 17, 18, 19, 20, 21, 22, 23, 24, 25, 26, 27, 28, 29, 30, 31, 32, 33, 34, 35, 36, 37, 38, 39, 40, 41, 42, 43, 44, 45, 46, 47, 48, 49, 50, 51, 52, 53, 54, 55, 56, 57, 58, 59, 60, 61, 62, 63, 64, 65, 66] (by decide +kernel) (by decide +kernel)
set_option maxRecDepth 20000 in
theorem gX7_laySix_X7_signOf : GoodIn wsX7_laySix (wsV RX7 235 RX7 yX7_signOf wsX7_signOf) := goodIn_app (goodIn_of _ (by decide +kernel)) ggX7_laySix_X7_signOf
theorem dX7_laySix_0 : decode cX7_laySix 0 = .ok (.aload_n 0, 1) := by decide +kernel
theorem dX7_laySix_1 : decode cX7_laySix 1 = .ok (.getfield 86, 3) := by decide +kernel
theorem dX7_laySix_4 : decode cX7_laySix 4 = .ok (.iconst 0, 1) := by decide +kernel
theorem dX7_laySix_5 : decode cX7_laySix 5 = .ok (.aload_n 0, 1) := by decide +kernel
theorem dX7_laySix_6 : decode cX7_laySix 6 = .ok (.iload_n 1, 1) := by decide +kernel
theorem dX7_laySix_7 : decode cX7_laySix 7 = .ok (.iload_n 2, 1) := by decide +kernel
theorem dX7_laySix_8 : decode cX7_laySix 8 = .ok (.iload_n 3, 1) := by decide +kernel
theorem dX7_laySix_9 : decode cX7_laySix 9 = .ok (.invokevirtual 235, 3) := by decide +kernel
theorem dX7_laySix_12 : decode cX7_laySix 12 = .ok (.iastore, 1) := by decide +kernel
theorem dX7_laySix_13 : decode cX7_laySix 13 = .ok (.aload_n 0, 1) := by decide +kernel
theorem dX7_laySix_14 : decode cX7_laySix 14 = .ok (.getfield 86, 3) := by decide +kernel
theorem dX7_laySix_17 : decode cX7_laySix 17 = .ok (.iconst 1, 1) := by decide +kernel
theorem dX7_laySix_18 : decode cX7_laySix 18 = .ok (.aload_n 0, 1) := by decide +kernel
theorem dX7_laySix_19 : decode cX7_laySix 19 = .ok (.iload_n 1, 1) := by decide +kernel
theorem dX7_laySix_20 : decode cX7_laySix 20 = .ok (.iload 4, 2) := by decide +kernel
theorem dX7_laySix_22 : decode cX7_laySix 22 = .ok (.iload 5, 2) := by decide +kernel
theorem dX7_laySix_24 : decode cX7_laySix 24 = .ok (.invokevirtual 235, 3) := by decide +kernel
theorem dX7_laySix_27 : decode cX7_laySix 27 = .ok (.iastore, 1) := by decide +kernel
theorem dX7_laySix_28 : decode cX7_laySix 28 = .ok (.aload_n 0, 1) := by decide +kernel
theorem dX7_laySix_29 : decode cX7_laySix 29 = .ok (.getfield 86, 3) := by decide +kernel
theorem dX7_laySix_32 : decode cX7_laySix 32 = .ok (.iconst 2, 1) := by decide +kernel
theorem dX7_laySix_33 : decode cX7_laySix 33 = .ok (.aload_n 0, 1) := by decide +kernel
theorem dX7_laySix_34 : decode cX7_laySix 34 = .ok (.iload_n 1, 1) := by decide +kernel
theorem dX7_laySix_35 : decode cX7_laySix 35 = .ok (.iload_n 2, 1) := by decide +kernel
theorem dX7_laySix_36 : decode cX7_laySix 36 = .ok (.iload 4, 2) := by decide +kernel
theorem dX7_laySix_38 : decode cX7_laySix 38 = .ok (.invokevirtual 235, 3) := by decide +kernel
theorem dX7_laySix_41 : decode cX7_laySix 41 = .ok (.iastore, 1) := by decide +kernel
theorem dX7_laySix_42 : decode cX7_laySix 42 = .ok (.aload_n 0, 1) := by decide +kernel
theorem dX7_laySix_43 : decode cX7_laySix 43 = .ok (.getfield 86, 3) := by decide +kernel
theorem dX7_laySix_46 : decode cX7_laySix 46 = .ok (.iconst 3, 1) := by decide +kernel
theorem dX7_laySix_47 : decode cX7_laySix 47 = .ok (.aload_n 0, 1) := by decide +kernel
theorem dX7_laySix_48 : decode cX7_laySix 48 = .ok (.iload_n 1, 1) := by decide +kernel
theorem dX7_laySix_49 : decode cX7_laySix 49 = .ok (.iload_n 3, 1) := by decide +kernel
theorem dX7_laySix_50 : decode cX7_laySix 50 = .ok (.iload 5, 2) := by decide +kernel
theorem dX7_laySix_52 : decode cX7_laySix 52 = .ok (.invokevirtual 235, 3) := by decide +kernel
theorem dX7_laySix_55 : decode cX7_laySix 55 = .ok (.iastore, 1) := by decide +kernel
theorem dX7_laySix_56 : decode cX7_laySix 56 = .ok (.aload_n 0, 1) := by decide +kernel
theorem dX7_laySix_57 : decode cX7_laySix 57 = .ok (.getfield 86, 3) := by decide +kernel
theorem dX7_laySix_60 : decode cX7_laySix 60 = .ok (.iconst 4, 1) := by decide +kernel
theorem dX7_laySix_61 : decode cX7_laySix 61 = .ok (.aload_n 0, 1) := by decide +kernel
theorem dX7_laySix_62 : decode cX7_laySix 62 = .ok (.iload_n 1, 1) := by decide +kernel
theorem dX7_laySix_63 : decode cX7_laySix 63 = .ok (.iload_n 2, 1) := by decide +kernel
theorem dX7_laySix_64 : decode cX7_laySix 64 = .ok (.iload 5, 2) := by decide +kernel
theorem dX7_laySix_66 : decode cX7_laySix 66 = .ok (.invokevirtual 235, 3) := by decide +kernel
theorem dX7_laySix_69 : decode cX7_laySix 69 = .ok (.iastore, 1) := by decide +kernel
theorem dX7_laySix_70 : decode cX7_laySix 70 = .ok (.aload_n 0, 1) := by decide +kernel
theorem dX7_laySix_71 : decode cX7_laySix 71 = .ok (.getfield 86, 3) := by decide +kernel
theorem dX7_laySix_74 : decode cX7_laySix 74 = .ok (.iconst 5, 1) := by decide +kernel
theorem dX7_laySix_75 : decode cX7_laySix 75 = .ok (.aload_n 0, 1) := by decide +kernel
theorem dX7_laySix_76 : decode cX7_laySix 76 = .ok (.iload_n 1, 1) := by decide +kernel
theorem dX7_laySix_77 : decode cX7_laySix 77 = .ok (.iload_n 3, 1) := by decide +kernel
theorem dX7_laySix_78 : decode cX7_laySix 78 = .ok (.iload 4, 2) := by decide +kernel
theorem dX7_laySix_80 : decode cX7_laySix 80 = .ok (.invokevirtual 235, 3) := by decide +kernel
theorem dX7_laySix_83 : decode cX7_laySix 83 = .ok (.iastore, 1) := by decide +kernel
theorem dX7_laySix_84 : decode cX7_laySix 84 = .ok (.return_, 1) := by decide +kernel
theorem dX7_term_0 : decode cX7_term 0 = .ok (.iload_n 1, 1) := by decide +kernel
theorem dX7_term_1 : decode cX7_term 1 = .ok (.iconst 1, 1) := by decide +kernel
theorem dX7_term_2 : decode cX7_term 2 = .ok (.if_icmp .ne 20, 3) := by decide +kernel
theorem dX7_term_5 : decode cX7_term 5 = .ok (.aload_n 0, 1) := by decide +kernel
theorem dX7_term_6 : decode cX7_term 6 = .ok (.getfield 86, 3) := by decide +kernel
theorem dX7_term_9 : decode cX7_term 9 = .ok (.iconst 2, 1) := by decide +kernel
theorem dX7_term_10 : decode cX7_term 10 = .ok (.iaload, 1) := by decide +kernel
theorem dX7_term_11 : decode cX7_term 11 = .ok (.ineg, 1) := by decide +kernel
theorem dX7_term_12 : decode cX7_term 12 = .ok (.aload_n 0, 1) := by decide +kernel
theorem dX7_term_13 : decode cX7_term 13 = .ok (.getfield 86, 3) := by decide +kernel
theorem dX7_term_16 : decode cX7_term 16 = .ok (.iconst 3, 1) := by decide +kernel
theorem dX7_term_17 : decode cX7_term 17 = .ok (.iaload, 1) := by decide +kernel
theorem dX7_term_18 : decode cX7_term 18 = .ok (.imul, 1) := by decide +kernel
theorem dX7_term_19 : decode cX7_term 19 = .ok (.goto 22, 3) := by decide +kernel
theorem dX7_term_22 : decode cX7_term 22 = .ok (.aload_n 0, 1) := by decide +kernel
theorem dX7_term_23 : decode cX7_term 23 = .ok (.getfield 86, 3) := by decide +kernel
theorem dX7_term_26 : decode cX7_term 26 = .ok (.iconst 2, 1) := by decide +kernel
theorem dX7_term_27 : decode cX7_term 27 = .ok (.iload_n 1, 1) := by decide +kernel
theorem dX7_term_28 : decode cX7_term 28 = .ok (.imul, 1) := by decide +kernel
theorem dX7_term_29 : decode cX7_term 29 = .ok (.iaload, 1) := by decide +kernel
theorem dX7_term_30 : decode cX7_term 30 = .ok (.aload_n 0, 1) := by decide +kernel
theorem dX7_term_31 : decode cX7_term 31 = .ok (.getfield 86, 3) := by decide +kernel
theorem dX7_term_34 : decode cX7_term 34 = .ok (.iconst 2, 1) := by decide +kernel
theorem dX7_term_35 : decode cX7_term 35 = .ok (.iload_n 1, 1) := by decide +kernel
theorem dX7_term_36 : decode cX7_term 36 = .ok (.imul, 1) := by decide +kernel
theorem dX7_term_37 : decode cX7_term 37 = .ok (.iconst 1, 1) := by decide +kernel
theorem dX7_term_38 : decode cX7_term 38 = .ok (.iadd, 1) := by decide +kernel
theorem dX7_term_39 : decode cX7_term 39 = .ok (.iaload, 1) := by decide +kernel
theorem dX7_term_40 : decode cX7_term 40 = .ok (.imul, 1) := by decide +kernel
theorem dX7_term_41 : decode cX7_term 41 = .ok (.ireturn, 1) := by decide +kernel
set_option maxRecDepth 20000 in
theorem ggX7_work_X7_laySix : GoodIn wsX7_work wsX7_laySix := goodIn_r _ [7, 2, 8, 9, 10, 6, 11, 12, 13, 14, 15, 16, 17, 18, 29, 30, 31, 32, 33, 34, 35, 36, 37, 38, 39, 40, 41, 42, 43, 44, 45, 46, 47, 48, 49, 50, 51, 52, 53, 54, 55, 56, 57, 58, 59, 60, 61, 62, 63, 64, 65, 66, 67, 68, 69, 70, 71, 72, 73, 74, 75, 76, 77, 78, 79, 80, 81] (by decide +kernel) (by decide +kernel)
set_option maxRecDepth 20000 in
theorem gX7_work_X7_laySix : GoodIn wsX7_work (wsV RX7 241 RX7 yX7_laySix wsX7_laySix) := goodIn_app (goodIn_of _ (by decide +kernel)) ggX7_work_X7_laySix
set_option maxRecDepth 20000 in
theorem ggX7_work_X7_term : GoodIn wsX7_work wsX7_term := goodIn_r _ [22, 2, 29, 30, 31, 32, 33, 34, 35, 36, 37, 38, 39, 40, 41, 42, 43, 44, 45, 46, 47, 48, 49, 50, 51, 52, 53, 54, 55, 56, 57, 58, 59, 60, 61, 62, 63, 64, 65, 66, 67, 68, 69, 70, 71, 72, 73, 74, 75, 76, 77, 78, 79, 80, 81] (by decide +kernel) (by decide +kernel)
set_option maxRecDepth 20000 in
theorem gX7_work_X7_term : GoodIn wsX7_work (wsV RX7 245 RX7 yX7_term wsX7_term) := goodIn_app (goodIn_of _ (by decide +kernel)) ggX7_work_X7_term
set_option maxRecDepth 20000 in
theorem ggX7_work_X7_tells : GoodIn wsX7_work wsX7_tells := goodIn_r _ [26, 27, 28, 13, 14, 6, 15, 16, 17, 18, 29, 30, 31, 32, 33, 34, 35, 36, 37, 38, 39, 40, 41, 42, 43, 44, 45, 46, 47, 48, 49, 50, 51, 52, 53, 54, 55, 56, 57, 58, 59, 60, 61, 62, 63, 64, 65, 66, 67, 68, 69, 70, 71, 72, 73, 74, 75, 76, 77, 78, 79, 80, 81] (by decide +kernel) (by decide +kernel)
set_option maxRecDepth 20000 in
theorem gX7_work_X7_tells : GoodIn wsX7_work (wsV RX7 248 RX7 yX7_tells wsX7_tells) := goodIn_app (goodIn_of _ (by decide +kernel)) ggX7_work_X7_tells
theorem dX7_work_0 : decode cX7_work 0 = .ok (.aload_n 0, 1) := by decide +kernel
theorem dX7_work_1 : decode cX7_work 1 = .ok (.iconst 0, 1) := by decide +kernel
theorem dX7_work_2 : decode cX7_work 2 = .ok (.putfield 238, 3) := by decide +kernel
theorem dX7_work_5 : decode cX7_work 5 = .ok (.aload_n 0, 1) := by decide +kernel
theorem dX7_work_6 : decode cX7_work 6 = .ok (.iload_n 1, 1) := by decide +kernel
theorem dX7_work_7 : decode cX7_work 7 = .ok (.iload_n 2, 1) := by decide +kernel
theorem dX7_work_8 : decode cX7_work 8 = .ok (.iload_n 3, 1) := by decide +kernel
theorem dX7_work_9 : decode cX7_work 9 = .ok (.iload 4, 2) := by decide +kernel
theorem dX7_work_11 : decode cX7_work 11 = .ok (.iload 5, 2) := by decide +kernel
theorem dX7_work_13 : decode cX7_work 13 = .ok (.invokevirtual 241, 3) := by decide +kernel
theorem dX7_work_16 : decode cX7_work 16 = .ok (.iconst 0, 1) := by decide +kernel
theorem dX7_work_17 : decode cX7_work 17 = .ok (.istore 6, 2) := by decide +kernel
theorem dX7_work_19 : decode cX7_work 19 = .ok (.iconst 0, 1) := by decide +kernel
theorem dX7_work_20 : decode cX7_work 20 = .ok (.istore 7, 2) := by decide +kernel
theorem dX7_work_22 : decode cX7_work 22 = .ok (.iconst 0, 1) := by decide +kernel
theorem dX7_work_23 : decode cX7_work 23 = .ok (.istore 8, 2) := by decide +kernel
theorem dX7_work_25 : decode cX7_work 25 = .ok (.iload 8, 2) := by decide +kernel
theorem dX7_work_27 : decode cX7_work 27 = .ok (.bipush 6, 2) := by decide +kernel
theorem dX7_work_29 : decode cX7_work 29 = .ok (.if_icmp .ge 28, 3) := by decide +kernel
theorem dX7_work_32 : decode cX7_work 32 = .ok (.aload_n 0, 1) := by decide +kernel
theorem dX7_work_33 : decode cX7_work 33 = .ok (.getfield 86, 3) := by decide +kernel
theorem dX7_work_36 : decode cX7_work 36 = .ok (.iload 8, 2) := by decide +kernel
theorem dX7_work_38 : decode cX7_work 38 = .ok (.iaload, 1) := by decide +kernel
theorem dX7_work_39 : decode cX7_work 39 = .ok (.bipush 9, 2) := by decide +kernel
theorem dX7_work_41 : decode cX7_work 41 = .ok (.if_icmp .ne 10, 3) := by decide +kernel
theorem dX7_work_44 : decode cX7_work 44 = .ok (.iinc 6 1, 3) := by decide +kernel
theorem dX7_work_47 : decode cX7_work 47 = .ok (.iload 8, 2) := by decide +kernel
theorem dX7_work_49 : decode cX7_work 49 = .ok (.istore 7, 2) := by decide +kernel
theorem dX7_work_51 : decode cX7_work 51 = .ok (.iinc 8 1, 3) := by decide +kernel
theorem dX7_work_54 : decode cX7_work 54 = .ok (.goto (-29), 3) := by decide +kernel
theorem dX7_work_57 : decode cX7_work 57 = .ok (.iload 6, 2) := by decide +kernel
theorem dX7_work_59 : decode cX7_work 59 = .ok (.iconst 1, 1) := by decide +kernel
theorem dX7_work_60 : decode cX7_work 60 = .ok (.if_icmp .le 4, 3) := by decide +kernel
theorem dX7_work_63 : decode cX7_work 63 = .ok (.return_, 1) := by decide +kernel
theorem dX7_work_64 : decode cX7_work 64 = .ok (.iconst 0, 1) := by decide +kernel
theorem dX7_work_65 : decode cX7_work 65 = .ok (.istore 8, 2) := by decide +kernel
theorem dX7_work_67 : decode cX7_work 67 = .ok (.iconst 0, 1) := by decide +kernel
theorem dX7_work_68 : decode cX7_work 68 = .ok (.istore 9, 2) := by decide +kernel
theorem dX7_work_70 : decode cX7_work 70 = .ok (.iconst 0, 1) := by decide +kernel
theorem dX7_work_71 : decode cX7_work 71 = .ok (.istore 10, 2) := by decide +kernel
theorem dX7_work_73 : decode cX7_work 73 = .ok (.iload 10, 2) := by decide +kernel
theorem dX7_work_75 : decode cX7_work 75 = .ok (.iconst 3, 1) := by decide +kernel
theorem dX7_work_76 : decode cX7_work 76 = .ok (.if_icmp .ge 61, 3) := by decide +kernel
theorem dX7_work_79 : decode cX7_work 79 = .ok (.iload 6, 2) := by decide +kernel
theorem dX7_work_81 : decode cX7_work 81 = .ok (.ifCond .eq 12, 3) := by decide +kernel
theorem dX7_work_84 : decode cX7_work 84 = .ok (.iload 7, 2) := by decide +kernel
theorem dX7_work_86 : decode cX7_work 86 = .ok (.iconst 2, 1) := by decide +kernel
theorem dX7_work_87 : decode cX7_work 87 = .ok (.idiv, 1) := by decide +kernel
theorem dX7_work_88 : decode cX7_work 88 = .ok (.iload 10, 2) := by decide +kernel
theorem dX7_work_90 : decode cX7_work 90 = .ok (.if_icmp .eq 41, 3) := by decide +kernel
theorem dX7_work_93 : decode cX7_work 93 = .ok (.iload 8, 2) := by decide +kernel
theorem dX7_work_95 : decode cX7_work 95 = .ok (.aload_n 0, 1) := by decide +kernel
theorem dX7_work_96 : decode cX7_work 96 = .ok (.iload 10, 2) := by decide +kernel
theorem dX7_work_98 : decode cX7_work 98 = .ok (.invokevirtual 245, 3) := by decide +kernel
theorem dX7_work_101 : decode cX7_work 101 = .ok (.ifCond .le 7, 3) := by decide +kernel
theorem dX7_work_104 : decode cX7_work 104 = .ok (.iconst 1, 1) := by decide +kernel
theorem dX7_work_105 : decode cX7_work 105 = .ok (.goto 4, 3) := by decide +kernel
theorem dX7_work_108 : decode cX7_work 108 = .ok (.iconst 0, 1) := by decide +kernel
theorem dX7_work_109 : decode cX7_work 109 = .ok (.iadd, 1) := by decide +kernel
theorem dX7_work_110 : decode cX7_work 110 = .ok (.istore 8, 2) := by decide +kernel
theorem dX7_work_112 : decode cX7_work 112 = .ok (.iload 9, 2) := by decide +kernel
theorem dX7_work_114 : decode cX7_work 114 = .ok (.aload_n 0, 1) := by decide +kernel
theorem dX7_work_115 : decode cX7_work 115 = .ok (.iload 10, 2) := by decide +kernel
theorem dX7_work_117 : decode cX7_work 117 = .ok (.invokevirtual 245, 3) := by decide +kernel
theorem dX7_work_120 : decode cX7_work 120 = .ok (.ifCond .ge 7, 3) := by decide +kernel
theorem dX7_work_123 : decode cX7_work 123 = .ok (.iconst 1, 1) := by decide +kernel
theorem dX7_work_124 : decode cX7_work 124 = .ok (.goto 4, 3) := by decide +kernel
theorem dX7_work_127 : decode cX7_work 127 = .ok (.iconst 0, 1) := by decide +kernel
theorem dX7_work_128 : decode cX7_work 128 = .ok (.iadd, 1) := by decide +kernel
theorem dX7_work_129 : decode cX7_work 129 = .ok (.istore 9, 2) := by decide +kernel
theorem dX7_work_131 : decode cX7_work 131 = .ok (.iinc 10 1, 3) := by decide +kernel
theorem dX7_work_134 : decode cX7_work 134 = .ok (.goto (-61), 3) := by decide +kernel
theorem dX7_work_137 : decode cX7_work 137 = .ok (.iload 6, 2) := by decide +kernel
theorem dX7_work_139 : decode cX7_work 139 = .ok (.ifCond .ne 36, 3) := by decide +kernel
theorem dX7_work_142 : decode cX7_work 142 = .ok (.aload_n 0, 1) := by decide +kernel
theorem dX7_work_143 : decode cX7_work 143 = .ok (.iload 8, 2) := by decide +kernel
theorem dX7_work_145 : decode cX7_work 145 = .ok (.ifCond .ne 7, 3) := by decide +kernel
theorem dX7_work_148 : decode cX7_work 148 = .ok (.iconst 1, 1) := by decide +kernel
theorem dX7_work_149 : decode cX7_work 149 = .ok (.goto 4, 3) := by decide +kernel
theorem dX7_work_152 : decode cX7_work 152 = .ok (.iconst 0, 1) := by decide +kernel
theorem dX7_work_153 : decode cX7_work 153 = .ok (.iload 9, 2) := by decide +kernel
theorem dX7_work_155 : decode cX7_work 155 = .ok (.ifCond .ne 7, 3) := by decide +kernel
theorem dX7_work_158 : decode cX7_work 158 = .ok (.iconst 1, 1) := by decide +kernel
theorem dX7_work_159 : decode cX7_work 159 = .ok (.goto 4, 3) := by decide +kernel
theorem dX7_work_162 : decode cX7_work 162 = .ok (.iconst 0, 1) := by decide +kernel
theorem dX7_work_163 : decode cX7_work 163 = .ok (.if_icmp .eq 7, 3) := by decide +kernel
theorem dX7_work_166 : decode cX7_work 166 = .ok (.iconst 1, 1) := by decide +kernel
theorem dX7_work_167 : decode cX7_work 167 = .ok (.goto 4, 3) := by decide +kernel
theorem dX7_work_170 : decode cX7_work 170 = .ok (.iconst 0, 1) := by decide +kernel
theorem dX7_work_171 : decode cX7_work 171 = .ok (.putfield 238, 3) := by decide +kernel
theorem dX7_work_174 : decode cX7_work 174 = .ok (.return_, 1) := by decide +kernel
theorem dX7_work_175 : decode cX7_work 175 = .ok (.aload_n 0, 1) := by decide +kernel
theorem dX7_work_176 : decode cX7_work 176 = .ok (.getfield 86, 3) := by decide +kernel
theorem dX7_work_179 : decode cX7_work 179 = .ok (.iload 7, 2) := by decide +kernel
theorem dX7_work_181 : decode cX7_work 181 = .ok (.iconst 2, 1) := by decide +kernel
theorem dX7_work_182 : decode cX7_work 182 = .ok (.irem, 1) := by decide +kernel
theorem dX7_work_183 : decode cX7_work 183 = .ok (.ifCond .ne 10, 3) := by decide +kernel
theorem dX7_work_186 : decode cX7_work 186 = .ok (.iload 7, 2) := by decide +kernel
theorem dX7_work_188 : decode cX7_work 188 = .ok (.iconst 1, 1) := by decide +kernel
theorem dX7_work_189 : decode cX7_work 189 = .ok (.iadd, 1) := by decide +kernel
theorem dX7_work_190 : decode cX7_work 190 = .ok (.goto 7, 3) := by decide +kernel
theorem dX7_work_193 : decode cX7_work 193 = .ok (.iload 7, 2) := by decide +kernel
theorem dX7_work_195 : decode cX7_work 195 = .ok (.iconst 1, 1) := by decide +kernel
theorem dX7_work_196 : decode cX7_work 196 = .ok (.isub, 1) := by decide +kernel
theorem dX7_work_197 : decode cX7_work 197 = .ok (.iaload, 1) := by decide +kernel
theorem dX7_work_198 : decode cX7_work 198 = .ok (.istore 10, 2) := by decide +kernel
theorem dX7_work_200 : decode cX7_work 200 = .ok (.iload 10, 2) := by decide +kernel
theorem dX7_work_202 : decode cX7_work 202 = .ok (.ifCond .eq 13, 3) := by decide +kernel
theorem dX7_work_205 : decode cX7_work 205 = .ok (.iload 8, 2) := by decide +kernel
theorem dX7_work_207 : decode cX7_work 207 = .ok (.ifCond .le 9, 3) := by decide +kernel
theorem dX7_work_210 : decode cX7_work 210 = .ok (.iload 9, 2) := by decide +kernel
theorem dX7_work_212 : decode cX7_work 212 = .ok (.ifCond .le 4, 3) := by decide +kernel
theorem dX7_work_215 : decode cX7_work 215 = .ok (.return_, 1) := by decide +kernel
theorem dX7_work_216 : decode cX7_work 216 = .ok (.iload 8, 2) := by decide +kernel
theorem dX7_work_218 : decode cX7_work 218 = .ok (.ifCond .le 7, 3) := by decide +kernel
theorem dX7_work_221 : decode cX7_work 221 = .ok (.iconst (-1), 1) := by decide +kernel
theorem dX7_work_222 : decode cX7_work 222 = .ok (.goto 13, 3) := by decide +kernel
theorem dX7_work_225 : decode cX7_work 225 = .ok (.iload 9, 2) := by decide +kernel
theorem dX7_work_227 : decode cX7_work 227 = .ok (.ifCond .le 7, 3) := by decide +kernel
theorem dX7_work_230 : decode cX7_work 230 = .ok (.iconst 1, 1) := by decide +kernel
theorem dX7_work_231 : decode cX7_work 231 = .ok (.goto 4, 3) := by decide +kernel
theorem dX7_work_234 : decode cX7_work 234 = .ok (.iconst 0, 1) := by decide +kernel
theorem dX7_work_235 : decode cX7_work 235 = .ok (.istore 11, 2) := by decide +kernel
theorem dX7_work_237 : decode cX7_work 237 = .ok (.iload 11, 2) := by decide +kernel
theorem dX7_work_239 : decode cX7_work 239 = .ok (.iload 10, 2) := by decide +kernel
theorem dX7_work_241 : decode cX7_work 241 = .ok (.imul, 1) := by decide +kernel
theorem dX7_work_242 : decode cX7_work 242 = .ok (.iload 7, 2) := by decide +kernel
theorem dX7_work_244 : decode cX7_work 244 = .ok (.iconst 2, 1) := by decide +kernel
theorem dX7_work_245 : decode cX7_work 245 = .ok (.idiv, 1) := by decide +kernel
theorem dX7_work_246 : decode cX7_work 246 = .ok (.iconst 1, 1) := by decide +kernel
theorem dX7_work_247 : decode cX7_work 247 = .ok (.if_icmp .ne 7, 3) := by decide +kernel
theorem dX7_work_250 : decode cX7_work 250 = .ok (.iconst (-1), 1) := by decide +kernel
theorem dX7_work_251 : decode cX7_work 251 = .ok (.goto 4, 3) := by decide +kernel
theorem dX7_work_254 : decode cX7_work 254 = .ok (.iconst 1, 1) := by decide +kernel
theorem dX7_work_255 : decode cX7_work 255 = .ok (.imul, 1) := by decide +kernel
theorem dX7_work_256 : decode cX7_work 256 = .ok (.istore 12, 2) := by decide +kernel
theorem dX7_work_258 : decode cX7_work 258 = .ok (.aload_n 0, 1) := by decide +kernel
theorem dX7_work_259 : decode cX7_work 259 = .ok (.iconst 2, 1) := by decide +kernel
theorem dX7_work_260 : decode cX7_work 260 = .ok (.putfield 238, 3) := by decide +kernel
theorem dX7_work_263 : decode cX7_work 263 = .ok (.aload_n 0, 1) := by decide +kernel
theorem dX7_work_264 : decode cX7_work 264 = .ok (.iload 7, 2) := by decide +kernel
theorem dX7_work_266 : decode cX7_work 266 = .ok (.iload 12, 2) := by decide +kernel
theorem dX7_work_268 : decode cX7_work 268 = .ok (.iload_n 1, 1) := by decide +kernel
theorem dX7_work_269 : decode cX7_work 269 = .ok (.iload_n 2, 1) := by decide +kernel
theorem dX7_work_270 : decode cX7_work 270 = .ok (.iload_n 3, 1) := by decide +kernel
theorem dX7_work_271 : decode cX7_work 271 = .ok (.iload 4, 2) := by decide +kernel
theorem dX7_work_273 : decode cX7_work 273 = .ok (.iload 5, 2) := by decide +kernel
theorem dX7_work_275 : decode cX7_work 275 = .ok (.invokevirtual 248, 3) := by decide +kernel
theorem dX7_work_278 : decode cX7_work 278 = .ok (.return_, 1) := by decide +kernel
set_option maxRecDepth 20000 in
theorem ggX7_tells_X7_placeIn : GoodIn wsX7_tells wsX7_placeIn := goodIn_r _ [6] (by decide +kernel) (by decide +kernel)
set_option maxRecDepth 20000 in
theorem gX7_tells_X7_placeIn : GoodIn wsX7_tells (va_wsS RX7 232 yX7_placeIn wsX7_placeIn) := goodIn_app (goodIn_of _ (by decide +kernel)) ggX7_tells_X7_placeIn
set_option maxRecDepth 20000 in
theorem ggX7_tells_X7_turnOf : GoodIn wsX7_tells wsX7_turnOf := goodIn_r _ [9] (by decide +kernel) (by decide +kernel)
set_option maxRecDepth 20000 in
theorem gX7_tells_X7_turnOf : GoodIn wsX7_tells (va_wsS RX7 183 yX7_turnOf wsX7_turnOf) := goodIn_app (goodIn_of _ (by decide +kernel)) ggX7_tells_X7_turnOf
theorem dX7_tells_0 : decode cX7_tells 0 = .ok (.iload_n 1, 1) := by decide +kernel
theorem dX7_tells_1 : decode cX7_tells 1 = .ok (.ifCond .eq 13, 3) := by decide +kernel
theorem dX7_tells_4 : decode cX7_tells 4 = .ok (.iload_n 1, 1) := by decide +kernel
theorem dX7_tells_5 : decode cX7_tells 5 = .ok (.iconst 2, 1) := by decide +kernel
theorem dX7_tells_6 : decode cX7_tells 6 = .ok (.if_icmp .eq 8, 3) := by decide +kernel
theorem dX7_tells_9 : decode cX7_tells 9 = .ok (.iload_n 1, 1) := by decide +kernel
theorem dX7_tells_10 : decode cX7_tells 10 = .ok (.iconst 4, 1) := by decide +kernel
theorem dX7_tells_11 : decode cX7_tells 11 = .ok (.if_icmp .ne 8, 3) := by decide +kernel
theorem dX7_tells_14 : decode cX7_tells 14 = .ok (.iload 4, 2) := by decide +kernel
theorem dX7_tells_16 : decode cX7_tells 16 = .ok (.goto 15, 3) := by decide +kernel
theorem dX7_tells_19 : decode cX7_tells 19 = .ok (.iload_n 1, 1) := by decide +kernel
theorem dX7_tells_20 : decode cX7_tells 20 = .ok (.iconst 1, 1) := by decide +kernel
theorem dX7_tells_21 : decode cX7_tells 21 = .ok (.if_icmp .ne 8, 3) := by decide +kernel
theorem dX7_tells_24 : decode cX7_tells 24 = .ok (.iload 6, 2) := by decide +kernel
theorem dX7_tells_26 : decode cX7_tells 26 = .ok (.goto 5, 3) := by decide +kernel
theorem dX7_tells_29 : decode cX7_tells 29 = .ok (.iload 5, 2) := by decide +kernel
theorem dX7_tells_31 : decode cX7_tells 31 = .ok (.istore 8, 2) := by decide +kernel
theorem dX7_tells_33 : decode cX7_tells 33 = .ok (.iload_n 1, 1) := by decide +kernel
theorem dX7_tells_34 : decode cX7_tells 34 = .ok (.ifCond .ne 8, 3) := by decide +kernel
theorem dX7_tells_37 : decode cX7_tells 37 = .ok (.iload 5, 2) := by decide +kernel
theorem dX7_tells_39 : decode cX7_tells 39 = .ok (.goto 20, 3) := by decide +kernel
theorem dX7_tells_42 : decode cX7_tells 42 = .ok (.iload_n 1, 1) := by decide +kernel
theorem dX7_tells_43 : decode cX7_tells 43 = .ok (.iconst 2, 1) := by decide +kernel
theorem dX7_tells_44 : decode cX7_tells 44 = .ok (.if_icmp .eq 8, 3) := by decide +kernel
theorem dX7_tells_47 : decode cX7_tells 47 = .ok (.iload_n 1, 1) := by decide +kernel
theorem dX7_tells_48 : decode cX7_tells 48 = .ok (.iconst 5, 1) := by decide +kernel
theorem dX7_tells_49 : decode cX7_tells 49 = .ok (.if_icmp .ne 8, 3) := by decide +kernel
theorem dX7_tells_52 : decode cX7_tells 52 = .ok (.iload 6, 2) := by decide +kernel
theorem dX7_tells_54 : decode cX7_tells 54 = .ok (.goto 5, 3) := by decide +kernel
theorem dX7_tells_57 : decode cX7_tells 57 = .ok (.iload 7, 2) := by decide +kernel
theorem dX7_tells_59 : decode cX7_tells 59 = .ok (.istore 9, 2) := by decide +kernel
theorem dX7_tells_61 : decode cX7_tells 61 = .ok (.aload_n 0, 1) := by decide +kernel
theorem dX7_tells_62 : decode cX7_tells 62 = .ok (.iload_n 3, 1) := by decide +kernel
theorem dX7_tells_63 : decode cX7_tells 63 = .ok (.iload 8, 2) := by decide +kernel
theorem dX7_tells_65 : decode cX7_tells 65 = .ok (.iload 9, 2) := by decide +kernel
theorem dX7_tells_67 : decode cX7_tells 67 = .ok (.invokestatic 232, 3) := by decide +kernel
theorem dX7_tells_70 : decode cX7_tells 70 = .ok (.putfield 252, 3) := by decide +kernel
theorem dX7_tells_73 : decode cX7_tells 73 = .ok (.aload_n 0, 1) := by decide +kernel
theorem dX7_tells_74 : decode cX7_tells 74 = .ok (.iload_n 2, 1) := by decide +kernel
theorem dX7_tells_75 : decode cX7_tells 75 = .ok (.iload_n 3, 1) := by decide +kernel
theorem dX7_tells_76 : decode cX7_tells 76 = .ok (.iload 8, 2) := by decide +kernel
theorem dX7_tells_78 : decode cX7_tells 78 = .ok (.iload 9, 2) := by decide +kernel
theorem dX7_tells_80 : decode cX7_tells 80 = .ok (.invokestatic 183, 3) := by decide +kernel
theorem dX7_tells_83 : decode cX7_tells 83 = .ok (.imul, 1) := by decide +kernel
theorem dX7_tells_84 : decode cX7_tells 84 = .ok (.putfield 255, 3) := by decide +kernel
theorem dX7_tells_87 : decode cX7_tells 87 = .ok (.return_, 1) := by decide +kernel
set_option maxRecDepth 20000 in
theorem ggX7_maskAt_X7_maskOf : GoodIn wsX7_maskAt wsX7_maskOf := goodIn_r _ [4] (by decide +kernel) (by decide +kernel)
set_option maxRecDepth 20000 in
theorem gX7_maskAt_X7_maskOf : GoodIn wsX7_maskAt (va_wsS RX7 171 yX7_maskOf wsX7_maskOf) := goodIn_app (goodIn_of _ (by decide +kernel)) ggX7_maskAt_X7_maskOf
theorem dX7_maskAt_0 : decode cX7_maskAt 0 = .ok (.iload_n 0, 1) := by decide +kernel
theorem dX7_maskAt_1 : decode cX7_maskAt 1 = .ok (.bipush 100, 2) := by decide +kernel
theorem dX7_maskAt_3 : decode cX7_maskAt 3 = .ok (.idiv, 1) := by decide +kernel
theorem dX7_maskAt_4 : decode cX7_maskAt 4 = .ok (.iload_n 0, 1) := by decide +kernel
theorem dX7_maskAt_5 : decode cX7_maskAt 5 = .ok (.bipush 10, 2) := by decide +kernel
theorem dX7_maskAt_7 : decode cX7_maskAt 7 = .ok (.idiv, 1) := by decide +kernel
theorem dX7_maskAt_8 : decode cX7_maskAt 8 = .ok (.bipush 10, 2) := by decide +kernel
theorem dX7_maskAt_10 : decode cX7_maskAt 10 = .ok (.irem, 1) := by decide +kernel
theorem dX7_maskAt_11 : decode cX7_maskAt 11 = .ok (.iload_n 0, 1) := by decide +kernel
theorem dX7_maskAt_12 : decode cX7_maskAt 12 = .ok (.bipush 10, 2) := by decide +kernel
theorem dX7_maskAt_14 : decode cX7_maskAt 14 = .ok (.irem, 1) := by decide +kernel
theorem dX7_maskAt_15 : decode cX7_maskAt 15 = .ok (.invokestatic 171, 3) := by decide +kernel
theorem dX7_maskAt_18 : decode cX7_maskAt 18 = .ok (.ireturn, 1) := by decide +kernel
set_option maxRecDepth 20000 in
theorem ggX7_kindThen_X7_maskAt : GoodIn wsX7_kindThen wsX7_maskAt := goodIn_r _ [7, 8, 9, 6, 10] (by decide +kernel) (by decide +kernel)
set_option maxRecDepth 20000 in
theorem gX7_kindThen_X7_maskAt : GoodIn wsX7_kindThen (va_wsS RX7 258 yX7_maskAt wsX7_maskAt) := goodIn_app (goodIn_of _ (by decide +kernel)) ggX7_kindThen_X7_maskAt
set_option maxRecDepth 20000 in
theorem ggX7_kindThen_X7_barAt : GoodIn wsX7_kindThen wsX7_barAt := goodIn_r _ [14, 15, 16, 17, 18, 19, 20, 21, 22, 23, 24, 25, 26, 27, 28, 29, 30, 31, 32, 33, 34, 35, 36, 37, 38, 39, 40, 41, 42, 43, 44, 45, 46, 47, 48, 49, 50, 51, 52, 53, 54, 55, 56, 57, 58, 59, 60, 61, 62, 63, 64, 65, 66, 67, 68, 69] (by decide +kernel) (by decide +kernel)
set_option maxRecDepth 20000 in
theorem gX7_kindThen_X7_barAt : GoodIn wsX7_kindThen (wsV RX7 179 RX7 yX7_barAt wsX7_barAt) := goodIn_app (goodIn_of _ (by decide +kernel)) ggX7_kindThen_X7_barAt
theorem dX7_kindThen_0 : decode cX7_kindThen 0 = .ok (.aload_n 0, 1) := by decide +kernel
theorem dX7_kindThen_1 : decode cX7_kindThen 1 = .ok (.getfield 238, 3) := by decide +kernel
theorem dX7_kindThen_4 : decode cX7_kindThen 4 = .ok (.iconst 1, 1) := by decide +kernel
theorem dX7_kindThen_5 : decode cX7_kindThen 5 = .ok (.if_icmp .ne 7, 3) := by decide +kernel
theorem dX7_kindThen_8 : decode cX7_kindThen 8 = .ok (.iconst 1, 1) := by decide +kernel
theorem dX7_kindThen_9 : decode cX7_kindThen 9 = .ok (.goto 31, 3) := by decide +kernel
theorem dX7_kindThen_12 : decode cX7_kindThen 12 = .ok (.aload_n 0, 1) := by decide +kernel
theorem dX7_kindThen_13 : decode cX7_kindThen 13 = .ok (.getfield 255, 3) := by decide +kernel
theorem dX7_kindThen_16 : decode cX7_kindThen 16 = .ok (.ifCond .ne 23, 3) := by decide +kernel
theorem dX7_kindThen_19 : decode cX7_kindThen 19 = .ok (.aload_n 0, 1) := by decide +kernel
theorem dX7_kindThen_20 : decode cX7_kindThen 20 = .ok (.aload_n 0, 1) := by decide +kernel
theorem dX7_kindThen_21 : decode cX7_kindThen 21 = .ok (.getfield 252, 3) := by decide +kernel
theorem dX7_kindThen_24 : decode cX7_kindThen 24 = .ok (.invokestatic 258, 3) := by decide +kernel
theorem dX7_kindThen_27 : decode cX7_kindThen 27 = .ok (.invokevirtual 179, 3) := by decide +kernel
theorem dX7_kindThen_30 : decode cX7_kindThen 30 = .ok (.bipush (-4), 2) := by decide +kernel
theorem dX7_kindThen_32 : decode cX7_kindThen 32 = .ok (.if_icmp .eq 7, 3) := by decide +kernel
theorem dX7_kindThen_35 : decode cX7_kindThen 35 = .ok (.iconst 2, 1) := by decide +kernel
theorem dX7_kindThen_36 : decode cX7_kindThen 36 = .ok (.goto 4, 3) := by decide +kernel
theorem dX7_kindThen_39 : decode cX7_kindThen 39 = .ok (.iconst 0, 1) := by decide +kernel
theorem dX7_kindThen_40 : decode cX7_kindThen 40 = .ok (.ireturn, 1) := by decide +kernel
set_option maxRecDepth 20000 in
theorem ggX7_makeRow_X7_kindThen : GoodIn wsX7_makeRow wsX7_kindThen := goodIn_r _ [13, 5, 8, 6, 14, 15, 12, 16, 17, 18, 19, 20, 21, 22, 23, 24, 25, 31, 32, 33, 34, 35, 36, 37, 38, 39, 40, 41, 42, 43, 44, 45, 46, 47, 48, 49, 50, 51, 52, 53, 54, 55, 56, 57, 58, 59, 60, 61, 62, 63, 64, 65, 66, 67, 68, 69, 70, 71, 72, 73, 74, 75, 76, 77, 78, 79, 80, 81, 82, 83] (by decide +kernel) (by decide +kernel)
set_option maxRecDepth 20000 in
theorem gX7_makeRow_X7_kindThen : GoodIn wsX7_makeRow (wsV RX7 261 RX7 yX7_kindThen wsX7_kindThen) := goodIn_app (goodIn_of _ (by decide +kernel)) ggX7_makeRow_X7_kindThen
set_option maxRecDepth 20000 in
theorem ggX7_makeRow_X7_layRow : GoodIn wsX7_makeRow wsX7_layRow := goodIn_r _ [29, 1, 30, 4, 7, 31, 32, 33, 34, 35, 36, 37, 38, 39, 40, 41, 42, 43, 44, 45, 46, 47, 48, 49, 50, 51, 52, 53, 54, 55, 56, 57, 58, 59, 60, 61, 62, 63, 64, 65, 66, 67, 68, 69, 70, 71, 72, 73, 74, 75, 76, 77, 78, 79, 80, 81, 82, 83] (by decide +kernel) (by decide +kernel)
set_option maxRecDepth 20000 in
theorem gX7_makeRow_X7_layRow : GoodIn wsX7_makeRow (wsV RX7 229 RX7 yX7_layRow wsX7_layRow) := goodIn_app (goodIn_of _ (by decide +kernel)) ggX7_makeRow_X7_layRow
theorem dX7_makeRow_0 : decode cX7_makeRow 0 = .ok (.aload_n 0, 1) := by decide +kernel
theorem dX7_makeRow_1 : decode cX7_makeRow 1 = .ok (.getfield 74, 3) := by decide +kernel
theorem dX7_makeRow_4 : decode cX7_makeRow 4 = .ok (.aload_n 0, 1) := by decide +kernel
theorem dX7_makeRow_5 : decode cX7_makeRow 5 = .ok (.getfield 155, 3) := by decide +kernel
theorem dX7_makeRow_8 : decode cX7_makeRow 8 = .ok (.aload_n 0, 1) := by decide +kernel
theorem dX7_makeRow_9 : decode cX7_makeRow 9 = .ok (.invokevirtual 261, 3) := by decide +kernel
theorem dX7_makeRow_12 : decode cX7_makeRow 12 = .ok (.iastore, 1) := by decide +kernel
theorem dX7_makeRow_13 : decode cX7_makeRow 13 = .ok (.aload_n 0, 1) := by decide +kernel
theorem dX7_makeRow_14 : decode cX7_makeRow 14 = .ok (.getfield 77, 3) := by decide +kernel
theorem dX7_makeRow_17 : decode cX7_makeRow 17 = .ok (.iconst 5, 1) := by decide +kernel
theorem dX7_makeRow_18 : decode cX7_makeRow 18 = .ok (.aload_n 0, 1) := by decide +kernel
theorem dX7_makeRow_19 : decode cX7_makeRow 19 = .ok (.getfield 155, 3) := by decide +kernel
theorem dX7_makeRow_22 : decode cX7_makeRow 22 = .ok (.imul, 1) := by decide +kernel
theorem dX7_makeRow_23 : decode cX7_makeRow 23 = .ok (.iload_n 1, 1) := by decide +kernel
theorem dX7_makeRow_24 : decode cX7_makeRow 24 = .ok (.iastore, 1) := by decide +kernel
theorem dX7_makeRow_25 : decode cX7_makeRow 25 = .ok (.aload_n 0, 1) := by decide +kernel
theorem dX7_makeRow_26 : decode cX7_makeRow 26 = .ok (.getfield 77, 3) := by decide +kernel
theorem dX7_makeRow_29 : decode cX7_makeRow 29 = .ok (.iconst 5, 1) := by decide +kernel
theorem dX7_makeRow_30 : decode cX7_makeRow 30 = .ok (.aload_n 0, 1) := by decide +kernel
theorem dX7_makeRow_31 : decode cX7_makeRow 31 = .ok (.getfield 155, 3) := by decide +kernel
theorem dX7_makeRow_34 : decode cX7_makeRow 34 = .ok (.imul, 1) := by decide +kernel
theorem dX7_makeRow_35 : decode cX7_makeRow 35 = .ok (.iconst 1, 1) := by decide +kernel
theorem dX7_makeRow_36 : decode cX7_makeRow 36 = .ok (.iadd, 1) := by decide +kernel
theorem dX7_makeRow_37 : decode cX7_makeRow 37 = .ok (.iload_n 2, 1) := by decide +kernel
theorem dX7_makeRow_38 : decode cX7_makeRow 38 = .ok (.iastore, 1) := by decide +kernel
theorem dX7_makeRow_39 : decode cX7_makeRow 39 = .ok (.aload_n 0, 1) := by decide +kernel
theorem dX7_makeRow_40 : decode cX7_makeRow 40 = .ok (.getfield 77, 3) := by decide +kernel
theorem dX7_makeRow_43 : decode cX7_makeRow 43 = .ok (.iconst 5, 1) := by decide +kernel
theorem dX7_makeRow_44 : decode cX7_makeRow 44 = .ok (.aload_n 0, 1) := by decide +kernel
theorem dX7_makeRow_45 : decode cX7_makeRow 45 = .ok (.getfield 155, 3) := by decide +kernel
theorem dX7_makeRow_48 : decode cX7_makeRow 48 = .ok (.imul, 1) := by decide +kernel
theorem dX7_makeRow_49 : decode cX7_makeRow 49 = .ok (.iconst 2, 1) := by decide +kernel
theorem dX7_makeRow_50 : decode cX7_makeRow 50 = .ok (.iadd, 1) := by decide +kernel
theorem dX7_makeRow_51 : decode cX7_makeRow 51 = .ok (.iload_n 3, 1) := by decide +kernel
theorem dX7_makeRow_52 : decode cX7_makeRow 52 = .ok (.iastore, 1) := by decide +kernel
theorem dX7_makeRow_53 : decode cX7_makeRow 53 = .ok (.aload_n 0, 1) := by decide +kernel
theorem dX7_makeRow_54 : decode cX7_makeRow 54 = .ok (.getfield 77, 3) := by decide +kernel
theorem dX7_makeRow_57 : decode cX7_makeRow 57 = .ok (.iconst 5, 1) := by decide +kernel
theorem dX7_makeRow_58 : decode cX7_makeRow 58 = .ok (.aload_n 0, 1) := by decide +kernel
theorem dX7_makeRow_59 : decode cX7_makeRow 59 = .ok (.getfield 155, 3) := by decide +kernel
theorem dX7_makeRow_62 : decode cX7_makeRow 62 = .ok (.imul, 1) := by decide +kernel
theorem dX7_makeRow_63 : decode cX7_makeRow 63 = .ok (.iconst 3, 1) := by decide +kernel
theorem dX7_makeRow_64 : decode cX7_makeRow 64 = .ok (.iadd, 1) := by decide +kernel
theorem dX7_makeRow_65 : decode cX7_makeRow 65 = .ok (.iload 4, 2) := by decide +kernel
theorem dX7_makeRow_67 : decode cX7_makeRow 67 = .ok (.iastore, 1) := by decide +kernel
theorem dX7_makeRow_68 : decode cX7_makeRow 68 = .ok (.aload_n 0, 1) := by decide +kernel
theorem dX7_makeRow_69 : decode cX7_makeRow 69 = .ok (.getfield 77, 3) := by decide +kernel
theorem dX7_makeRow_72 : decode cX7_makeRow 72 = .ok (.iconst 5, 1) := by decide +kernel
theorem dX7_makeRow_73 : decode cX7_makeRow 73 = .ok (.aload_n 0, 1) := by decide +kernel
theorem dX7_makeRow_74 : decode cX7_makeRow 74 = .ok (.getfield 155, 3) := by decide +kernel
theorem dX7_makeRow_77 : decode cX7_makeRow 77 = .ok (.imul, 1) := by decide +kernel
theorem dX7_makeRow_78 : decode cX7_makeRow 78 = .ok (.iconst 4, 1) := by decide +kernel
theorem dX7_makeRow_79 : decode cX7_makeRow 79 = .ok (.iadd, 1) := by decide +kernel
theorem dX7_makeRow_80 : decode cX7_makeRow 80 = .ok (.iload 5, 2) := by decide +kernel
theorem dX7_makeRow_82 : decode cX7_makeRow 82 = .ok (.iastore, 1) := by decide +kernel
theorem dX7_makeRow_83 : decode cX7_makeRow 83 = .ok (.aload_n 0, 1) := by decide +kernel
theorem dX7_makeRow_84 : decode cX7_makeRow 84 = .ok (.getfield 80, 3) := by decide +kernel
theorem dX7_makeRow_87 : decode cX7_makeRow 87 = .ok (.aload_n 0, 1) := by decide +kernel
theorem dX7_makeRow_88 : decode cX7_makeRow 88 = .ok (.getfield 155, 3) := by decide +kernel
theorem dX7_makeRow_91 : decode cX7_makeRow 91 = .ok (.aload_n 0, 1) := by decide +kernel
theorem dX7_makeRow_92 : decode cX7_makeRow 92 = .ok (.getfield 238, 3) := by decide +kernel
theorem dX7_makeRow_95 : decode cX7_makeRow 95 = .ok (.iconst 1, 1) := by decide +kernel
theorem dX7_makeRow_96 : decode cX7_makeRow 96 = .ok (.if_icmp .ne 8, 3) := by decide +kernel
theorem dX7_makeRow_99 : decode cX7_makeRow 99 = .ok (.bipush (-4), 2) := by decide +kernel
theorem dX7_makeRow_101 : decode cX7_makeRow 101 = .ok (.goto 7, 3) := by decide +kernel
theorem dX7_makeRow_104 : decode cX7_makeRow 104 = .ok (.aload_n 0, 1) := by decide +kernel
theorem dX7_makeRow_105 : decode cX7_makeRow 105 = .ok (.getfield 252, 3) := by decide +kernel
theorem dX7_makeRow_108 : decode cX7_makeRow 108 = .ok (.iastore, 1) := by decide +kernel
theorem dX7_makeRow_109 : decode cX7_makeRow 109 = .ok (.aload_n 0, 1) := by decide +kernel
theorem dX7_makeRow_110 : decode cX7_makeRow 110 = .ok (.getfield 83, 3) := by decide +kernel
theorem dX7_makeRow_113 : decode cX7_makeRow 113 = .ok (.aload_n 0, 1) := by decide +kernel
theorem dX7_makeRow_114 : decode cX7_makeRow 114 = .ok (.getfield 155, 3) := by decide +kernel
theorem dX7_makeRow_117 : decode cX7_makeRow 117 = .ok (.aload_n 0, 1) := by decide +kernel
theorem dX7_makeRow_118 : decode cX7_makeRow 118 = .ok (.getfield 238, 3) := by decide +kernel
theorem dX7_makeRow_121 : decode cX7_makeRow 121 = .ok (.iconst 1, 1) := by decide +kernel
theorem dX7_makeRow_122 : decode cX7_makeRow 122 = .ok (.if_icmp .ne 7, 3) := by decide +kernel
theorem dX7_makeRow_125 : decode cX7_makeRow 125 = .ok (.iconst 0, 1) := by decide +kernel
theorem dX7_makeRow_126 : decode cX7_makeRow 126 = .ok (.goto 7, 3) := by decide +kernel
theorem dX7_makeRow_129 : decode cX7_makeRow 129 = .ok (.aload_n 0, 1) := by decide +kernel
theorem dX7_makeRow_130 : decode cX7_makeRow 130 = .ok (.getfield 255, 3) := by decide +kernel
theorem dX7_makeRow_133 : decode cX7_makeRow 133 = .ok (.iastore, 1) := by decide +kernel
theorem dX7_makeRow_134 : decode cX7_makeRow 134 = .ok (.aload_n 0, 1) := by decide +kernel
theorem dX7_makeRow_135 : decode cX7_makeRow 135 = .ok (.aload_n 0, 1) := by decide +kernel
theorem dX7_makeRow_136 : decode cX7_makeRow 136 = .ok (.getfield 155, 3) := by decide +kernel
theorem dX7_makeRow_139 : decode cX7_makeRow 139 = .ok (.invokevirtual 229, 3) := by decide +kernel
theorem dX7_makeRow_142 : decode cX7_makeRow 142 = .ok (.aload_n 0, 1) := by decide +kernel
theorem dX7_makeRow_143 : decode cX7_makeRow 143 = .ok (.dup, 1) := by decide +kernel
theorem dX7_makeRow_144 : decode cX7_makeRow 144 = .ok (.getfield 155, 3) := by decide +kernel
theorem dX7_makeRow_147 : decode cX7_makeRow 147 = .ok (.iconst 1, 1) := by decide +kernel
theorem dX7_makeRow_148 : decode cX7_makeRow 148 = .ok (.iadd, 1) := by decide +kernel
theorem dX7_makeRow_149 : decode cX7_makeRow 149 = .ok (.putfield 155, 3) := by decide +kernel
theorem dX7_makeRow_152 : decode cX7_makeRow 152 = .ok (.return_, 1) := by decide +kernel
set_option maxRecDepth 20000 in
theorem ggX7_follows_X7_work : GoodIn wsX7_follows wsX7_work := goodIn_r _ [7, 2, 8, 9, 10, 11, 6, 12, 13, 14, 15, 16, 17, 18, 19, 20, 21, 22, 23, 24, 25, 26, 27, 28, 29, 30, 31, 32, 33, 63, 64, 65, 66, 67, 68, 69, 70, 71, 72, 73, 74, 75, 76, 77, 78, 79, 80, 81, 82, 83, 84, 85, 86, 87, 88, 89, 90, 91, 92, 93, 94, 95, 96, 97, 98, 99, 100, 101, 102, 103, 104, 105, 106, 107, 108, 109, 110, 111, 112, 113, 114, 115] (by decide +kernel) (by decide +kernel)
set_option maxRecDepth 20000 in
theorem gX7_follows_X7_work : GoodIn wsX7_follows (wsV RX7 264 RX7 yX7_work wsX7_work) := goodIn_app (goodIn_of _ (by decide +kernel)) ggX7_follows_X7_work
set_option maxRecDepth 20000 in
theorem ggX7_follows_X7_makeRow : GoodIn wsX7_follows wsX7_makeRow := goodIn_r _ [37, 38, 39, 40, 41, 2, 32, 42, 33, 43, 44, 45, 6, 46, 47, 48, 49, 50, 51, 52, 53, 54, 55, 56, 57, 58, 59, 60, 61, 62, 17, 63, 64, 65, 66, 67, 68, 69, 70, 71, 72, 73, 74, 75, 76, 77, 78, 79, 80, 81, 82, 83, 84, 85, 86, 87, 88, 89, 90, 91, 92, 93, 94, 95, 96, 97, 98, 99, 100, 101, 102, 103, 104, 105, 106, 107, 108, 109, 110, 111, 112, 113, 114, 115] (by decide +kernel) (by decide +kernel)
set_option maxRecDepth 20000 in
theorem gX7_follows_X7_makeRow : GoodIn wsX7_follows (wsV RX7 267 RX7 yX7_makeRow wsX7_makeRow) := goodIn_app (goodIn_of _ (by decide +kernel)) ggX7_follows_X7_makeRow
theorem dX7_follows_0 : decode cX7_follows 0 = .ok (.iconst 0, 1) := by decide +kernel
theorem dX7_follows_1 : decode cX7_follows 1 = .ok (.istore_n 1, 1) := by decide +kernel
theorem dX7_follows_2 : decode cX7_follows 2 = .ok (.iload_n 1, 1) := by decide +kernel
theorem dX7_follows_3 : decode cX7_follows 3 = .ok (.aload_n 0, 1) := by decide +kernel
theorem dX7_follows_4 : decode cX7_follows 4 = .ok (.getfield 143, 3) := by decide +kernel
theorem dX7_follows_7 : decode cX7_follows 7 = .ok (.if_icmp .ge 137, 3) := by decide +kernel
theorem dX7_follows_10 : decode cX7_follows 10 = .ok (.iconst 0, 1) := by decide +kernel
theorem dX7_follows_11 : decode cX7_follows 11 = .ok (.istore_n 2, 1) := by decide +kernel
theorem dX7_follows_12 : decode cX7_follows 12 = .ok (.iload_n 2, 1) := by decide +kernel
theorem dX7_follows_13 : decode cX7_follows 13 = .ok (.aload_n 0, 1) := by decide +kernel
theorem dX7_follows_14 : decode cX7_follows 14 = .ok (.getfield 143, 3) := by decide +kernel
theorem dX7_follows_17 : decode cX7_follows 17 = .ok (.if_icmp .ge 121, 3) := by decide +kernel
theorem dX7_follows_20 : decode cX7_follows 20 = .ok (.iload_n 2, 1) := by decide +kernel
theorem dX7_follows_21 : decode cX7_follows 21 = .ok (.iconst 1, 1) := by decide +kernel
theorem dX7_follows_22 : decode cX7_follows 22 = .ok (.iadd, 1) := by decide +kernel
theorem dX7_follows_23 : decode cX7_follows 23 = .ok (.istore_n 3, 1) := by decide +kernel
theorem dX7_follows_24 : decode cX7_follows 24 = .ok (.iload_n 3, 1) := by decide +kernel
theorem dX7_follows_25 : decode cX7_follows 25 = .ok (.aload_n 0, 1) := by decide +kernel
theorem dX7_follows_26 : decode cX7_follows 26 = .ok (.getfield 143, 3) := by decide +kernel
theorem dX7_follows_29 : decode cX7_follows 29 = .ok (.if_icmp .ge 103, 3) := by decide +kernel
theorem dX7_follows_32 : decode cX7_follows 32 = .ok (.iload_n 2, 1) := by decide +kernel
theorem dX7_follows_33 : decode cX7_follows 33 = .ok (.iload_n 1, 1) := by decide +kernel
theorem dX7_follows_34 : decode cX7_follows 34 = .ok (.if_icmp .eq 98, 3) := by decide +kernel
theorem dX7_follows_37 : decode cX7_follows 37 = .ok (.iload_n 3, 1) := by decide +kernel
theorem dX7_follows_38 : decode cX7_follows 38 = .ok (.iconst 1, 1) := by decide +kernel
theorem dX7_follows_39 : decode cX7_follows 39 = .ok (.iadd, 1) := by decide +kernel
theorem dX7_follows_40 : decode cX7_follows 40 = .ok (.istore 4, 2) := by decide +kernel
theorem dX7_follows_42 : decode cX7_follows 42 = .ok (.iload 4, 2) := by decide +kernel
theorem dX7_follows_44 : decode cX7_follows 44 = .ok (.aload_n 0, 1) := by decide +kernel
theorem dX7_follows_45 : decode cX7_follows 45 = .ok (.getfield 143, 3) := by decide +kernel
theorem dX7_follows_48 : decode cX7_follows 48 = .ok (.if_icmp .ge 78, 3) := by decide +kernel
theorem dX7_follows_51 : decode cX7_follows 51 = .ok (.iload_n 3, 1) := by decide +kernel
theorem dX7_follows_52 : decode cX7_follows 52 = .ok (.iload_n 1, 1) := by decide +kernel
theorem dX7_follows_53 : decode cX7_follows 53 = .ok (.if_icmp .eq 73, 3) := by decide +kernel
theorem dX7_follows_56 : decode cX7_follows 56 = .ok (.iload 4, 2) := by decide +kernel
theorem dX7_follows_58 : decode cX7_follows 58 = .ok (.iconst 1, 1) := by decide +kernel
theorem dX7_follows_59 : decode cX7_follows 59 = .ok (.iadd, 1) := by decide +kernel
theorem dX7_follows_60 : decode cX7_follows 60 = .ok (.istore 5, 2) := by decide +kernel
theorem dX7_follows_62 : decode cX7_follows 62 = .ok (.iload 5, 2) := by decide +kernel
theorem dX7_follows_64 : decode cX7_follows 64 = .ok (.aload_n 0, 1) := by decide +kernel
theorem dX7_follows_65 : decode cX7_follows 65 = .ok (.getfield 143, 3) := by decide +kernel
theorem dX7_follows_68 : decode cX7_follows 68 = .ok (.if_icmp .ge 52, 3) := by decide +kernel
theorem dX7_follows_71 : decode cX7_follows 71 = .ok (.iload 4, 2) := by decide +kernel
theorem dX7_follows_73 : decode cX7_follows 73 = .ok (.iload_n 1, 1) := by decide +kernel
theorem dX7_follows_74 : decode cX7_follows 74 = .ok (.if_icmp .eq 46, 3) := by decide +kernel
theorem dX7_follows_77 : decode cX7_follows 77 = .ok (.iload 5, 2) := by decide +kernel
theorem dX7_follows_79 : decode cX7_follows 79 = .ok (.iload_n 1, 1) := by decide +kernel
theorem dX7_follows_80 : decode cX7_follows 80 = .ok (.if_icmp .eq 34, 3) := by decide +kernel
theorem dX7_follows_83 : decode cX7_follows 83 = .ok (.aload_n 0, 1) := by decide +kernel
theorem dX7_follows_84 : decode cX7_follows 84 = .ok (.iload_n 1, 1) := by decide +kernel
theorem dX7_follows_85 : decode cX7_follows 85 = .ok (.iload_n 2, 1) := by decide +kernel
theorem dX7_follows_86 : decode cX7_follows 86 = .ok (.iload_n 3, 1) := by decide +kernel
theorem dX7_follows_87 : decode cX7_follows 87 = .ok (.iload 4, 2) := by decide +kernel
theorem dX7_follows_89 : decode cX7_follows 89 = .ok (.iload 5, 2) := by decide +kernel
theorem dX7_follows_91 : decode cX7_follows 91 = .ok (.invokevirtual 264, 3) := by decide +kernel
theorem dX7_follows_94 : decode cX7_follows 94 = .ok (.aload_n 0, 1) := by decide +kernel
theorem dX7_follows_95 : decode cX7_follows 95 = .ok (.getfield 238, 3) := by decide +kernel
theorem dX7_follows_98 : decode cX7_follows 98 = .ok (.ifCond .eq 16, 3) := by decide +kernel
theorem dX7_follows_101 : decode cX7_follows 101 = .ok (.aload_n 0, 1) := by decide +kernel
theorem dX7_follows_102 : decode cX7_follows 102 = .ok (.iload_n 1, 1) := by decide +kernel
theorem dX7_follows_103 : decode cX7_follows 103 = .ok (.iload_n 2, 1) := by decide +kernel
theorem dX7_follows_104 : decode cX7_follows 104 = .ok (.iload_n 3, 1) := by decide +kernel
theorem dX7_follows_105 : decode cX7_follows 105 = .ok (.iload 4, 2) := by decide +kernel
theorem dX7_follows_107 : decode cX7_follows 107 = .ok (.iload 5, 2) := by decide +kernel
theorem dX7_follows_109 : decode cX7_follows 109 = .ok (.invokevirtual 267, 3) := by decide +kernel
theorem dX7_follows_112 : decode cX7_follows 112 = .ok (.iconst 1, 1) := by decide +kernel
theorem dX7_follows_113 : decode cX7_follows 113 = .ok (.ireturn, 1) := by decide +kernel
theorem dX7_follows_114 : decode cX7_follows 114 = .ok (.iinc 5 1, 3) := by decide +kernel
theorem dX7_follows_117 : decode cX7_follows 117 = .ok (.goto (-55), 3) := by decide +kernel
theorem dX7_follows_120 : decode cX7_follows 120 = .ok (.iinc 4 1, 3) := by decide +kernel
theorem dX7_follows_123 : decode cX7_follows 123 = .ok (.goto (-81), 3) := by decide +kernel
theorem dX7_follows_126 : decode cX7_follows 126 = .ok (.iinc 3 1, 3) := by decide +kernel
theorem dX7_follows_129 : decode cX7_follows 129 = .ok (.goto (-105), 3) := by decide +kernel
theorem dX7_follows_132 : decode cX7_follows 132 = .ok (.iinc 2 1, 3) := by decide +kernel
theorem dX7_follows_135 : decode cX7_follows 135 = .ok (.goto (-123), 3) := by decide +kernel
theorem dX7_follows_138 : decode cX7_follows 138 = .ok (.iinc 1 1, 3) := by decide +kernel
theorem dX7_follows_141 : decode cX7_follows 141 = .ok (.goto (-139), 3) := by decide +kernel
theorem dX7_follows_144 : decode cX7_follows 144 = .ok (.iconst 0, 1) := by decide +kernel
theorem dX7_follows_145 : decode cX7_follows 145 = .ok (.ireturn, 1) := by decide +kernel
set_option maxRecDepth 20000 in
theorem ggX7_deduce_X7_layTable : GoodIn wsX7_deduce wsX7_layTable := goodIn_r _ [10, 11, 12, 13, 14, 15, 9, 16, 17, 18, 19, 20, 21, 22, 23, 24, 25, 26, 2, 27, 28, 29, 30, 31, 5, 32, 33, 86, 87, 88, 89, 90, 91, 92, 93, 94, 95, 96, 97, 98, 99, 100, 101, 102, 103, 104, 105, 106, 107, 108, 109, 110, 111, 112, 113, 114, 115, 116, 117, 118, 119, 120, 121, 122, 123, 124, 125, 126, 127, 128, 129, 130, 131, 132, 133, 134, 135, 136, 137, 138] (by decide +kernel) (by decide +kernel)
set_option maxRecDepth 20000 in
theorem gX7_deduce_X7_layTable : GoodIn wsX7_deduce (wsV RX7 270 RX7 yX7_layTable wsX7_layTable) := goodIn_app (goodIn_of _ (by decide +kernel)) ggX7_deduce_X7_layTable
set_option maxRecDepth 20000 in
theorem ggX7_deduce_X7_follows : GoodIn wsX7_deduce wsX7_follows := goodIn_r _ [37, 11, 38, 39, 40, 41, 9, 42, 43, 44, 45, 46, 47, 48, 49, 50, 51, 12, 52, 53, 54, 55, 56, 57, 58, 59, 60, 61, 62, 63, 64, 65, 66, 67, 68, 69, 70, 71, 5, 3, 72, 32, 33, 73, 74, 75, 76, 77, 78, 79, 14, 15, 16, 80, 81, 82, 83, 84, 85, 28, 29, 30, 31, 86, 87, 88, 89, 90, 91, 92, 93, 94, 95, 96, 97, 98, 99, 100, 101, 102, 103, 104, 105, 106, 107, 108, 109, 110, 111, 112, 113, 114, 115, 116, 117, 118, 119, 120, 121, 122, 123, 124, 125, 126, 127, 128, 129, 130, 131, 132, 133, 134, 135, 136, 137, 138] (by decide +kernel) (by decide +kernel)
set_option maxRecDepth 20000 in
theorem gX7_deduce_X7_follows : GoodIn wsX7_deduce (wsV RX7 273 RX7 yX7_follows wsX7_follows) := goodIn_app (goodIn_of _ (by decide +kernel)) ggX7_deduce_X7_follows
theorem dX7_deduce_0 : decode cX7_deduce 0 = .ok (.aload_n 0, 1) := by decide +kernel
theorem dX7_deduce_1 : decode cX7_deduce 1 = .ok (.iconst 0, 1) := by decide +kernel
theorem dX7_deduce_2 : decode cX7_deduce 2 = .ok (.putfield 122, 3) := by decide +kernel
theorem dX7_deduce_5 : decode cX7_deduce 5 = .ok (.aload_n 0, 1) := by decide +kernel
theorem dX7_deduce_6 : decode cX7_deduce 6 = .ok (.getfield 146, 3) := by decide +kernel
theorem dX7_deduce_9 : decode cX7_deduce 9 = .ok (.ifCond .ne 6, 3) := by decide +kernel
theorem dX7_deduce_12 : decode cX7_deduce 12 = .ok (.bipush (-2), 2) := by decide +kernel
theorem dX7_deduce_14 : decode cX7_deduce 14 = .ok (.ireturn, 1) := by decide +kernel
theorem dX7_deduce_15 : decode cX7_deduce 15 = .ok (.aload_n 0, 1) := by decide +kernel
theorem dX7_deduce_16 : decode cX7_deduce 16 = .ok (.iconst 0, 1) := by decide +kernel
theorem dX7_deduce_17 : decode cX7_deduce 17 = .ok (.putfield 155, 3) := by decide +kernel
theorem dX7_deduce_20 : decode cX7_deduce 20 = .ok (.aload_n 0, 1) := by decide +kernel
theorem dX7_deduce_21 : decode cX7_deduce 21 = .ok (.iconst 0, 1) := by decide +kernel
theorem dX7_deduce_22 : decode cX7_deduce 22 = .ok (.invokevirtual 270, 3) := by decide +kernel
theorem dX7_deduce_25 : decode cX7_deduce 25 = .ok (.aload_n 0, 1) := by decide +kernel
theorem dX7_deduce_26 : decode cX7_deduce 26 = .ok (.iconst 3, 1) := by decide +kernel
theorem dX7_deduce_27 : decode cX7_deduce 27 = .ok (.putfield 119, 3) := by decide +kernel
theorem dX7_deduce_30 : decode cX7_deduce 30 = .ok (.aload_n 0, 1) := by decide +kernel
theorem dX7_deduce_31 : decode cX7_deduce 31 = .ok (.getfield 119, 3) := by decide +kernel
theorem dX7_deduce_34 : decode cX7_deduce 34 = .ok (.iconst 3, 1) := by decide +kernel
theorem dX7_deduce_35 : decode cX7_deduce 35 = .ok (.if_icmp .ne 57, 3) := by decide +kernel
theorem dX7_deduce_38 : decode cX7_deduce 38 = .ok (.aload_n 0, 1) := by decide +kernel
theorem dX7_deduce_39 : decode cX7_deduce 39 = .ok (.invokevirtual 273, 3) := by decide +kernel
theorem dX7_deduce_42 : decode cX7_deduce 42 = .ok (.ifCond .ne 11, 3) := by decide +kernel
theorem dX7_deduce_45 : decode cX7_deduce 45 = .ok (.aload_n 0, 1) := by decide +kernel
theorem dX7_deduce_46 : decode cX7_deduce 46 = .ok (.iconst 1, 1) := by decide +kernel
theorem dX7_deduce_47 : decode cX7_deduce 47 = .ok (.putfield 119, 3) := by decide +kernel
theorem dX7_deduce_50 : decode cX7_deduce 50 = .ok (.goto (-20), 3) := by decide +kernel
theorem dX7_deduce_53 : decode cX7_deduce 53 = .ok (.aload_n 0, 1) := by decide +kernel
theorem dX7_deduce_54 : decode cX7_deduce 54 = .ok (.getfield 74, 3) := by decide +kernel
theorem dX7_deduce_57 : decode cX7_deduce 57 = .ok (.aload_n 0, 1) := by decide +kernel
theorem dX7_deduce_58 : decode cX7_deduce 58 = .ok (.getfield 155, 3) := by decide +kernel
theorem dX7_deduce_61 : decode cX7_deduce 61 = .ok (.iconst 1, 1) := by decide +kernel
theorem dX7_deduce_62 : decode cX7_deduce 62 = .ok (.isub, 1) := by decide +kernel
theorem dX7_deduce_63 : decode cX7_deduce 63 = .ok (.iaload, 1) := by decide +kernel
theorem dX7_deduce_64 : decode cX7_deduce 64 = .ok (.ifCond .eq 11, 3) := by decide +kernel
theorem dX7_deduce_67 : decode cX7_deduce 67 = .ok (.aload_n 0, 1) := by decide +kernel
theorem dX7_deduce_68 : decode cX7_deduce 68 = .ok (.iconst 0, 1) := by decide +kernel
theorem dX7_deduce_69 : decode cX7_deduce 69 = .ok (.putfield 119, 3) := by decide +kernel
theorem dX7_deduce_72 : decode cX7_deduce 72 = .ok (.goto (-42), 3) := by decide +kernel
theorem dX7_deduce_75 : decode cX7_deduce 75 = .ok (.aload_n 0, 1) := by decide +kernel
theorem dX7_deduce_76 : decode cX7_deduce 76 = .ok (.getfield 155, 3) := by decide +kernel
theorem dX7_deduce_79 : decode cX7_deduce 79 = .ok (.bipush 60, 2) := by decide +kernel
theorem dX7_deduce_81 : decode cX7_deduce 81 = .ok (.if_icmp .ne (-51), 3) := by decide +kernel
theorem dX7_deduce_84 : decode cX7_deduce 84 = .ok (.aload_n 0, 1) := by decide +kernel
theorem dX7_deduce_85 : decode cX7_deduce 85 = .ok (.iconst 2, 1) := by decide +kernel
theorem dX7_deduce_86 : decode cX7_deduce 86 = .ok (.putfield 119, 3) := by decide +kernel
theorem dX7_deduce_89 : decode cX7_deduce 89 = .ok (.goto (-59), 3) := by decide +kernel
theorem dX7_deduce_92 : decode cX7_deduce 92 = .ok (.aload_n 0, 1) := by decide +kernel
theorem dX7_deduce_93 : decode cX7_deduce 93 = .ok (.getfield 119, 3) := by decide +kernel
theorem dX7_deduce_96 : decode cX7_deduce 96 = .ok (.ireturn, 1) := by decide +kernel
set_option maxRecDepth 20000 in
theorem ggX7_row_X7_isIn : GoodIn wsX7_row wsX7_isIn := goodIn_r _ [10] (by decide +kernel) (by decide +kernel)
set_option maxRecDepth 20000 in
theorem gX7_row_X7_isIn : GoodIn wsX7_row (va_wsS RX7 125 yX7_isIn wsX7_isIn) := goodIn_app (goodIn_of _ (by decide +kernel)) ggX7_row_X7_isIn
theorem dX7_row_0 : decode cX7_row 0 = .ok (.aload_n 0, 1) := by decide +kernel
theorem dX7_row_1 : decode cX7_row 1 = .ok (.iconst 0, 1) := by decide +kernel
theorem dX7_row_2 : decode cX7_row 2 = .ok (.putfield 122, 3) := by decide +kernel
theorem dX7_row_5 : decode cX7_row 5 = .ok (.iload_n 2, 1) := by decide +kernel
theorem dX7_row_6 : decode cX7_row 6 = .ok (.iconst 0, 1) := by decide +kernel
theorem dX7_row_7 : decode cX7_row 7 = .ok (.bipush 9, 2) := by decide +kernel
theorem dX7_row_9 : decode cX7_row 9 = .ok (.invokestatic 125, 3) := by decide +kernel
theorem dX7_row_12 : decode cX7_row 12 = .ok (.ifCond .ne 6, 3) := by decide +kernel
theorem dX7_row_15 : decode cX7_row 15 = .ok (.bipush (-9), 2) := by decide +kernel
theorem dX7_row_17 : decode cX7_row 17 = .ok (.ireturn, 1) := by decide +kernel
theorem dX7_row_18 : decode cX7_row 18 = .ok (.iload_n 1, 1) := by decide +kernel
theorem dX7_row_19 : decode cX7_row 19 = .ok (.iconst 0, 1) := by decide +kernel
theorem dX7_row_20 : decode cX7_row 20 = .ok (.aload_n 0, 1) := by decide +kernel
theorem dX7_row_21 : decode cX7_row 21 = .ok (.getfield 155, 3) := by decide +kernel
theorem dX7_row_24 : decode cX7_row 24 = .ok (.iconst 1, 1) := by decide +kernel
theorem dX7_row_25 : decode cX7_row 25 = .ok (.isub, 1) := by decide +kernel
theorem dX7_row_26 : decode cX7_row 26 = .ok (.invokestatic 125, 3) := by decide +kernel
theorem dX7_row_29 : decode cX7_row 29 = .ok (.ifCond .ne 6, 3) := by decide +kernel
theorem dX7_row_32 : decode cX7_row 32 = .ok (.bipush (-4), 2) := by decide +kernel
theorem dX7_row_34 : decode cX7_row 34 = .ok (.ireturn, 1) := by decide +kernel
theorem dX7_row_35 : decode cX7_row 35 = .ok (.iload_n 2, 1) := by decide +kernel
theorem dX7_row_36 : decode cX7_row 36 = .ok (.ifCond .ne 10, 3) := by decide +kernel
theorem dX7_row_39 : decode cX7_row 39 = .ok (.aload_n 0, 1) := by decide +kernel
theorem dX7_row_40 : decode cX7_row 40 = .ok (.getfield 74, 3) := by decide +kernel
theorem dX7_row_43 : decode cX7_row 43 = .ok (.iload_n 1, 1) := by decide +kernel
theorem dX7_row_44 : decode cX7_row 44 = .ok (.iaload, 1) := by decide +kernel
theorem dX7_row_45 : decode cX7_row 45 = .ok (.ireturn, 1) := by decide +kernel
theorem dX7_row_46 : decode cX7_row 46 = .ok (.iload_n 2, 1) := by decide +kernel
theorem dX7_row_47 : decode cX7_row 47 = .ok (.iconst 5, 1) := by decide +kernel
theorem dX7_row_48 : decode cX7_row 48 = .ok (.if_icmp .gt 16, 3) := by decide +kernel
theorem dX7_row_51 : decode cX7_row 51 = .ok (.aload_n 0, 1) := by decide +kernel
theorem dX7_row_52 : decode cX7_row 52 = .ok (.getfield 77, 3) := by decide +kernel
theorem dX7_row_55 : decode cX7_row 55 = .ok (.iconst 5, 1) := by decide +kernel
theorem dX7_row_56 : decode cX7_row 56 = .ok (.iload_n 1, 1) := by decide +kernel
theorem dX7_row_57 : decode cX7_row 57 = .ok (.imul, 1) := by decide +kernel
theorem dX7_row_58 : decode cX7_row 58 = .ok (.iload_n 2, 1) := by decide +kernel
theorem dX7_row_59 : decode cX7_row 59 = .ok (.iadd, 1) := by decide +kernel
theorem dX7_row_60 : decode cX7_row 60 = .ok (.iconst 1, 1) := by decide +kernel
theorem dX7_row_61 : decode cX7_row 61 = .ok (.isub, 1) := by decide +kernel
theorem dX7_row_62 : decode cX7_row 62 = .ok (.iaload, 1) := by decide +kernel
theorem dX7_row_63 : decode cX7_row 63 = .ok (.ireturn, 1) := by decide +kernel
theorem dX7_row_64 : decode cX7_row 64 = .ok (.iload_n 2, 1) := by decide +kernel
theorem dX7_row_65 : decode cX7_row 65 = .ok (.bipush 9, 2) := by decide +kernel
theorem dX7_row_67 : decode cX7_row 67 = .ok (.if_icmp .ne 10, 3) := by decide +kernel
theorem dX7_row_70 : decode cX7_row 70 = .ok (.aload_n 0, 1) := by decide +kernel
theorem dX7_row_71 : decode cX7_row 71 = .ok (.getfield 83, 3) := by decide +kernel
theorem dX7_row_74 : decode cX7_row 74 = .ok (.iload_n 1, 1) := by decide +kernel
theorem dX7_row_75 : decode cX7_row 75 = .ok (.iaload, 1) := by decide +kernel
theorem dX7_row_76 : decode cX7_row 76 = .ok (.ireturn, 1) := by decide +kernel
theorem dX7_row_77 : decode cX7_row 77 = .ok (.aload_n 0, 1) := by decide +kernel
theorem dX7_row_78 : decode cX7_row 78 = .ok (.getfield 80, 3) := by decide +kernel
theorem dX7_row_81 : decode cX7_row 81 = .ok (.iload_n 1, 1) := by decide +kernel
theorem dX7_row_82 : decode cX7_row 82 = .ok (.iaload, 1) := by decide +kernel
theorem dX7_row_83 : decode cX7_row 83 = .ok (.istore_n 3, 1) := by decide +kernel
theorem dX7_row_84 : decode cX7_row 84 = .ok (.aload_n 0, 1) := by decide +kernel
theorem dX7_row_85 : decode cX7_row 85 = .ok (.getfield 74, 3) := by decide +kernel
theorem dX7_row_88 : decode cX7_row 88 = .ok (.iload_n 1, 1) := by decide +kernel
theorem dX7_row_89 : decode cX7_row 89 = .ok (.iaload, 1) := by decide +kernel
theorem dX7_row_90 : decode cX7_row 90 = .ok (.iconst 1, 1) := by decide +kernel
theorem dX7_row_91 : decode cX7_row 91 = .ok (.if_icmp .ne 8, 3) := by decide +kernel
theorem dX7_row_94 : decode cX7_row 94 = .ok (.bipush (-4), 2) := by decide +kernel
theorem dX7_row_96 : decode cX7_row 96 = .ok (.goto 36, 3) := by decide +kernel
theorem dX7_row_99 : decode cX7_row 99 = .ok (.iload_n 2, 1) := by decide +kernel
theorem dX7_row_100 : decode cX7_row 100 = .ok (.bipush 6, 2) := by decide +kernel
theorem dX7_row_102 : decode cX7_row 102 = .ok (.if_icmp .ne 10, 3) := by decide +kernel
theorem dX7_row_105 : decode cX7_row 105 = .ok (.iload_n 3, 1) := by decide +kernel
theorem dX7_row_106 : decode cX7_row 106 = .ok (.bipush 100, 2) := by decide +kernel
theorem dX7_row_108 : decode cX7_row 108 = .ok (.idiv, 1) := by decide +kernel
theorem dX7_row_109 : decode cX7_row 109 = .ok (.goto 23, 3) := by decide +kernel
theorem dX7_row_112 : decode cX7_row 112 = .ok (.iload_n 2, 1) := by decide +kernel
theorem dX7_row_113 : decode cX7_row 113 = .ok (.bipush 7, 2) := by decide +kernel
theorem dX7_row_115 : decode cX7_row 115 = .ok (.if_icmp .ne 13, 3) := by decide +kernel
theorem dX7_row_118 : decode cX7_row 118 = .ok (.iload_n 3, 1) := by decide +kernel
theorem dX7_row_119 : decode cX7_row 119 = .ok (.bipush 10, 2) := by decide +kernel
theorem dX7_row_121 : decode cX7_row 121 = .ok (.idiv, 1) := by decide +kernel
theorem dX7_row_122 : decode cX7_row 122 = .ok (.bipush 10, 2) := by decide +kernel
theorem dX7_row_124 : decode cX7_row 124 = .ok (.irem, 1) := by decide +kernel
theorem dX7_row_125 : decode cX7_row 125 = .ok (.goto 7, 3) := by decide +kernel
theorem dX7_row_128 : decode cX7_row 128 = .ok (.iload_n 3, 1) := by decide +kernel
theorem dX7_row_129 : decode cX7_row 129 = .ok (.bipush 10, 2) := by decide +kernel
theorem dX7_row_131 : decode cX7_row 131 = .ok (.irem, 1) := by decide +kernel
theorem dX7_row_132 : decode cX7_row 132 = .ok (.ireturn, 1) := by decide +kernel
set_option maxRecDepth 20000 in
theorem ggX7_plant_X7_isIn : GoodIn wsX7_plant wsX7_isIn := goodIn_r _ [8] (by decide +kernel) (by decide +kernel)
set_option maxRecDepth 20000 in
theorem gX7_plant_X7_isIn : GoodIn wsX7_plant (va_wsS RX7 125 yX7_isIn wsX7_isIn) := goodIn_app (goodIn_of _ (by decide +kernel)) ggX7_plant_X7_isIn
theorem dX7_plant_0 : decode cX7_plant 0 = .ok (.aload_n 0, 1) := by decide +kernel
theorem dX7_plant_1 : decode cX7_plant 1 = .ok (.iconst 0, 1) := by decide +kernel
theorem dX7_plant_2 : decode cX7_plant 2 = .ok (.putfield 122, 3) := by decide +kernel
theorem dX7_plant_5 : decode cX7_plant 5 = .ok (.iload_n 2, 1) := by decide +kernel
theorem dX7_plant_6 : decode cX7_plant 6 = .ok (.iconst (-1), 1) := by decide +kernel
theorem dX7_plant_7 : decode cX7_plant 7 = .ok (.iconst 1, 1) := by decide +kernel
theorem dX7_plant_8 : decode cX7_plant 8 = .ok (.invokestatic 125, 3) := by decide +kernel
theorem dX7_plant_11 : decode cX7_plant 11 = .ok (.ifCond .ne 6, 3) := by decide +kernel
theorem dX7_plant_14 : decode cX7_plant 14 = .ok (.bipush (-9), 2) := by decide +kernel
theorem dX7_plant_16 : decode cX7_plant 16 = .ok (.ireturn, 1) := by decide +kernel
theorem dX7_plant_17 : decode cX7_plant 17 = .ok (.iload_n 1, 1) := by decide +kernel
theorem dX7_plant_18 : decode cX7_plant 18 = .ok (.iconst 0, 1) := by decide +kernel
theorem dX7_plant_19 : decode cX7_plant 19 = .ok (.aload_n 0, 1) := by decide +kernel
theorem dX7_plant_20 : decode cX7_plant 20 = .ok (.getfield 155, 3) := by decide +kernel
theorem dX7_plant_23 : decode cX7_plant 23 = .ok (.iconst 1, 1) := by decide +kernel
theorem dX7_plant_24 : decode cX7_plant 24 = .ok (.isub, 1) := by decide +kernel
theorem dX7_plant_25 : decode cX7_plant 25 = .ok (.invokestatic 125, 3) := by decide +kernel
theorem dX7_plant_28 : decode cX7_plant 28 = .ok (.ifCond .eq 13, 3) := by decide +kernel
theorem dX7_plant_31 : decode cX7_plant 31 = .ok (.aload_n 0, 1) := by decide +kernel
theorem dX7_plant_32 : decode cX7_plant 32 = .ok (.getfield 74, 3) := by decide +kernel
theorem dX7_plant_35 : decode cX7_plant 35 = .ok (.iload_n 1, 1) := by decide +kernel
theorem dX7_plant_36 : decode cX7_plant 36 = .ok (.iaload, 1) := by decide +kernel
theorem dX7_plant_37 : decode cX7_plant 37 = .ok (.iconst 1, 1) := by decide +kernel
theorem dX7_plant_38 : decode cX7_plant 38 = .ok (.if_icmp .ne 6, 3) := by decide +kernel
theorem dX7_plant_41 : decode cX7_plant 41 = .ok (.bipush (-4), 2) := by decide +kernel
theorem dX7_plant_43 : decode cX7_plant 43 = .ok (.ireturn, 1) := by decide +kernel
theorem dX7_plant_44 : decode cX7_plant 44 = .ok (.aload_n 0, 1) := by decide +kernel
theorem dX7_plant_45 : decode cX7_plant 45 = .ok (.getfield 83, 3) := by decide +kernel
theorem dX7_plant_48 : decode cX7_plant 48 = .ok (.iload_n 1, 1) := by decide +kernel
theorem dX7_plant_49 : decode cX7_plant 49 = .ok (.iaload, 1) := by decide +kernel
theorem dX7_plant_50 : decode cX7_plant 50 = .ok (.istore_n 3, 1) := by decide +kernel
theorem dX7_plant_51 : decode cX7_plant 51 = .ok (.aload_n 0, 1) := by decide +kernel
theorem dX7_plant_52 : decode cX7_plant 52 = .ok (.getfield 83, 3) := by decide +kernel
theorem dX7_plant_55 : decode cX7_plant 55 = .ok (.iload_n 1, 1) := by decide +kernel
theorem dX7_plant_56 : decode cX7_plant 56 = .ok (.iload_n 2, 1) := by decide +kernel
theorem dX7_plant_57 : decode cX7_plant 57 = .ok (.iastore, 1) := by decide +kernel
theorem dX7_plant_58 : decode cX7_plant 58 = .ok (.iload_n 3, 1) := by decide +kernel
theorem dX7_plant_59 : decode cX7_plant 59 = .ok (.ireturn, 1) := by decide +kernel
set_option maxRecDepth 20000 in
theorem ggX7_proof_X7_layTable : GoodIn wsX7_proof wsX7_layTable := goodIn_r _ [14, 15, 16, 17, 18, 19, 13, 20, 21, 22, 23, 24, 25, 26, 27, 28, 29, 30, 31, 32, 33, 34, 35, 36, 5, 7, 9, 77, 78, 79, 80, 81, 82, 83, 84, 85, 86, 87, 88, 89, 90, 91, 92, 93, 94, 95, 96, 97, 98, 99, 100, 101, 102, 103, 104, 105, 106, 107, 108, 109, 110, 111, 112, 113, 114, 115, 116, 117, 118, 119, 120, 121, 122, 123, 124, 125, 126, 127, 128, 129] (by decide +kernel) (by decide +kernel)
set_option maxRecDepth 20000 in
theorem gX7_proof_X7_layTable : GoodIn wsX7_proof (wsV RX7 270 RX7 yX7_layTable wsX7_layTable) := goodIn_app (goodIn_of _ (by decide +kernel)) ggX7_proof_X7_layTable
set_option maxRecDepth 20000 in
theorem ggX7_proof_X7_work : GoodIn wsX7_proof wsX7_work := goodIn_r _ [40, 4, 41, 42, 43, 44, 13, 45, 46, 47, 48, 49, 16, 50, 51, 52, 53, 54, 55, 56, 57, 58, 59, 60, 61, 62, 63, 6, 8, 77, 78, 79, 80, 81, 82, 83, 84, 85, 86, 87, 88, 89, 90, 91, 92, 93, 94, 95, 96, 97, 98, 99, 100, 101, 102, 103, 104, 105, 106, 107, 108, 109, 110, 111, 112, 113, 114, 115, 116, 117, 118, 119, 120, 121, 122, 123, 124, 125, 126, 127, 128, 129] (by decide +kernel) (by decide +kernel)
set_option maxRecDepth 20000 in
theorem gX7_proof_X7_work : GoodIn wsX7_proof (wsV RX7 264 RX7 yX7_work wsX7_work) := goodIn_app (goodIn_of _ (by decide +kernel)) ggX7_proof_X7_work
set_option maxRecDepth 20000 in
theorem ggX7_proof_X7_kindThen : GoodIn wsX7_proof wsX7_kindThen := goodIn_r _ [67, 4, 8, 6, 68, 69, 13, 70, 18, 19, 20, 71, 72, 73, 74, 75, 76, 77, 78, 79, 80, 81, 82, 83, 84, 85, 86, 87, 88, 89, 90, 91, 92, 93, 94, 95, 96, 97, 98, 99, 100, 101, 102, 103, 104, 105, 106, 107, 108, 109, 110, 111, 112, 113, 114, 115, 116, 117, 118, 119, 120, 121, 122, 123, 124, 125, 126, 127, 128, 129] (by decide +kernel) (by decide +kernel)
set_option maxRecDepth 20000 in
theorem gX7_proof_X7_kindThen : GoodIn wsX7_proof (wsV RX7 261 RX7 yX7_kindThen wsX7_kindThen) := goodIn_app (goodIn_of _ (by decide +kernel)) ggX7_proof_X7_kindThen
set_option maxRecDepth 20000 in
theorem ggX7_proof_X7_layRow : GoodIn wsX7_proof wsX7_layRow := goodIn_r _ [36, 5, 16, 7, 9, 77, 78, 79, 80, 81, 82, 83, 84, 85, 86, 87, 88, 89, 90, 91, 92, 93, 94, 95, 96, 97, 98, 99, 100, 101, 102, 103, 104, 105, 106, 107, 108, 109, 110, 111, 112, 113, 114, 115, 116, 117, 118, 119, 120, 121, 122, 123, 124, 125, 126, 127, 128, 129] (by decide +kernel) (by decide +kernel)
set_option maxRecDepth 20000 in
theorem gX7_proof_X7_layRow : GoodIn wsX7_proof (wsV RX7 229 RX7 yX7_layRow wsX7_layRow) := goodIn_app (goodIn_of _ (by decide +kernel)) ggX7_proof_X7_layRow
theorem dX7_proof_0 : decode cX7_proof 0 = .ok (.aload_n 0, 1) := by decide +kernel
theorem dX7_proof_1 : decode cX7_proof 1 = .ok (.iconst 0, 1) := by decide +kernel
theorem dX7_proof_2 : decode cX7_proof 2 = .ok (.putfield 122, 3) := by decide +kernel
theorem dX7_proof_5 : decode cX7_proof 5 = .ok (.aload_n 0, 1) := by decide +kernel
theorem dX7_proof_6 : decode cX7_proof 6 = .ok (.iconst 0, 1) := by decide +kernel
theorem dX7_proof_7 : decode cX7_proof 7 = .ok (.invokevirtual 270, 3) := by decide +kernel
theorem dX7_proof_10 : decode cX7_proof 10 = .ok (.iconst 1, 1) := by decide +kernel
theorem dX7_proof_11 : decode cX7_proof 11 = .ok (.istore_n 1, 1) := by decide +kernel
theorem dX7_proof_12 : decode cX7_proof 12 = .ok (.iconst 0, 1) := by decide +kernel
theorem dX7_proof_13 : decode cX7_proof 13 = .ok (.istore_n 2, 1) := by decide +kernel
theorem dX7_proof_14 : decode cX7_proof 14 = .ok (.iload_n 2, 1) := by decide +kernel
theorem dX7_proof_15 : decode cX7_proof 15 = .ok (.aload_n 0, 1) := by decide +kernel
theorem dX7_proof_16 : decode cX7_proof 16 = .ok (.getfield 155, 3) := by decide +kernel
theorem dX7_proof_19 : decode cX7_proof 19 = .ok (.if_icmp .ge 130, 3) := by decide +kernel
theorem dX7_proof_22 : decode cX7_proof 22 = .ok (.iload_n 1, 1) := by decide +kernel
theorem dX7_proof_23 : decode cX7_proof 23 = .ok (.ifCond .eq 126, 3) := by decide +kernel
theorem dX7_proof_26 : decode cX7_proof 26 = .ok (.aload_n 0, 1) := by decide +kernel
theorem dX7_proof_27 : decode cX7_proof 27 = .ok (.aload_n 0, 1) := by decide +kernel
theorem dX7_proof_28 : decode cX7_proof 28 = .ok (.getfield 77, 3) := by decide +kernel
theorem dX7_proof_31 : decode cX7_proof 31 = .ok (.iconst 5, 1) := by decide +kernel
theorem dX7_proof_32 : decode cX7_proof 32 = .ok (.iload_n 2, 1) := by decide +kernel
theorem dX7_proof_33 : decode cX7_proof 33 = .ok (.imul, 1) := by decide +kernel
theorem dX7_proof_34 : decode cX7_proof 34 = .ok (.iaload, 1) := by decide +kernel
theorem dX7_proof_35 : decode cX7_proof 35 = .ok (.aload_n 0, 1) := by decide +kernel
theorem dX7_proof_36 : decode cX7_proof 36 = .ok (.getfield 77, 3) := by decide +kernel
theorem dX7_proof_39 : decode cX7_proof 39 = .ok (.iconst 5, 1) := by decide +kernel
theorem dX7_proof_40 : decode cX7_proof 40 = .ok (.iload_n 2, 1) := by decide +kernel
theorem dX7_proof_41 : decode cX7_proof 41 = .ok (.imul, 1) := by decide +kernel
theorem dX7_proof_42 : decode cX7_proof 42 = .ok (.iconst 1, 1) := by decide +kernel
theorem dX7_proof_43 : decode cX7_proof 43 = .ok (.iadd, 1) := by decide +kernel
theorem dX7_proof_44 : decode cX7_proof 44 = .ok (.iaload, 1) := by decide +kernel
theorem dX7_proof_45 : decode cX7_proof 45 = .ok (.aload_n 0, 1) := by decide +kernel
theorem dX7_proof_46 : decode cX7_proof 46 = .ok (.getfield 77, 3) := by decide +kernel
theorem dX7_proof_49 : decode cX7_proof 49 = .ok (.iconst 5, 1) := by decide +kernel
theorem dX7_proof_50 : decode cX7_proof 50 = .ok (.iload_n 2, 1) := by decide +kernel
theorem dX7_proof_51 : decode cX7_proof 51 = .ok (.imul, 1) := by decide +kernel
theorem dX7_proof_52 : decode cX7_proof 52 = .ok (.iconst 2, 1) := by decide +kernel
theorem dX7_proof_53 : decode cX7_proof 53 = .ok (.iadd, 1) := by decide +kernel
theorem dX7_proof_54 : decode cX7_proof 54 = .ok (.iaload, 1) := by decide +kernel
theorem dX7_proof_55 : decode cX7_proof 55 = .ok (.aload_n 0, 1) := by decide +kernel
theorem dX7_proof_56 : decode cX7_proof 56 = .ok (.getfield 77, 3) := by decide +kernel
theorem dX7_proof_59 : decode cX7_proof 59 = .ok (.iconst 5, 1) := by decide +kernel
theorem dX7_proof_60 : decode cX7_proof 60 = .ok (.iload_n 2, 1) := by decide +kernel
theorem dX7_proof_61 : decode cX7_proof 61 = .ok (.imul, 1) := by decide +kernel
theorem dX7_proof_62 : decode cX7_proof 62 = .ok (.iconst 3, 1) := by decide +kernel
theorem dX7_proof_63 : decode cX7_proof 63 = .ok (.iadd, 1) := by decide +kernel
theorem dX7_proof_64 : decode cX7_proof 64 = .ok (.iaload, 1) := by decide +kernel
theorem dX7_proof_65 : decode cX7_proof 65 = .ok (.aload_n 0, 1) := by decide +kernel
theorem dX7_proof_66 : decode cX7_proof 66 = .ok (.getfield 77, 3) := by decide +kernel
theorem dX7_proof_69 : decode cX7_proof 69 = .ok (.iconst 5, 1) := by decide +kernel
theorem dX7_proof_70 : decode cX7_proof 70 = .ok (.iload_n 2, 1) := by decide +kernel
theorem dX7_proof_71 : decode cX7_proof 71 = .ok (.imul, 1) := by decide +kernel
theorem dX7_proof_72 : decode cX7_proof 72 = .ok (.iconst 4, 1) := by decide +kernel
theorem dX7_proof_73 : decode cX7_proof 73 = .ok (.iadd, 1) := by decide +kernel
theorem dX7_proof_74 : decode cX7_proof 74 = .ok (.iaload, 1) := by decide +kernel
theorem dX7_proof_75 : decode cX7_proof 75 = .ok (.invokevirtual 264, 3) := by decide +kernel
theorem dX7_proof_78 : decode cX7_proof 78 = .ok (.aload_n 0, 1) := by decide +kernel
theorem dX7_proof_79 : decode cX7_proof 79 = .ok (.getfield 238, 3) := by decide +kernel
theorem dX7_proof_82 : decode cX7_proof 82 = .ok (.ifCond .eq 54, 3) := by decide +kernel
theorem dX7_proof_85 : decode cX7_proof 85 = .ok (.aload_n 0, 1) := by decide +kernel
theorem dX7_proof_86 : decode cX7_proof 86 = .ok (.invokevirtual 261, 3) := by decide +kernel
theorem dX7_proof_89 : decode cX7_proof 89 = .ok (.aload_n 0, 1) := by decide +kernel
theorem dX7_proof_90 : decode cX7_proof 90 = .ok (.getfield 74, 3) := by decide +kernel
theorem dX7_proof_93 : decode cX7_proof 93 = .ok (.iload_n 2, 1) := by decide +kernel
theorem dX7_proof_94 : decode cX7_proof 94 = .ok (.iaload, 1) := by decide +kernel
theorem dX7_proof_95 : decode cX7_proof 95 = .ok (.if_icmp .ne 41, 3) := by decide +kernel
theorem dX7_proof_98 : decode cX7_proof 98 = .ok (.aload_n 0, 1) := by decide +kernel
theorem dX7_proof_99 : decode cX7_proof 99 = .ok (.getfield 238, 3) := by decide +kernel
theorem dX7_proof_102 : decode cX7_proof 102 = .ok (.iconst 1, 1) := by decide +kernel
theorem dX7_proof_103 : decode cX7_proof 103 = .ok (.if_icmp .eq 29, 3) := by decide +kernel
theorem dX7_proof_106 : decode cX7_proof 106 = .ok (.aload_n 0, 1) := by decide +kernel
theorem dX7_proof_107 : decode cX7_proof 107 = .ok (.getfield 252, 3) := by decide +kernel
theorem dX7_proof_110 : decode cX7_proof 110 = .ok (.aload_n 0, 1) := by decide +kernel
theorem dX7_proof_111 : decode cX7_proof 111 = .ok (.getfield 80, 3) := by decide +kernel
theorem dX7_proof_114 : decode cX7_proof 114 = .ok (.iload_n 2, 1) := by decide +kernel
theorem dX7_proof_115 : decode cX7_proof 115 = .ok (.iaload, 1) := by decide +kernel
theorem dX7_proof_116 : decode cX7_proof 116 = .ok (.if_icmp .ne 20, 3) := by decide +kernel
theorem dX7_proof_119 : decode cX7_proof 119 = .ok (.aload_n 0, 1) := by decide +kernel
theorem dX7_proof_120 : decode cX7_proof 120 = .ok (.getfield 255, 3) := by decide +kernel
theorem dX7_proof_123 : decode cX7_proof 123 = .ok (.aload_n 0, 1) := by decide +kernel
theorem dX7_proof_124 : decode cX7_proof 124 = .ok (.getfield 83, 3) := by decide +kernel
theorem dX7_proof_127 : decode cX7_proof 127 = .ok (.iload_n 2, 1) := by decide +kernel
theorem dX7_proof_128 : decode cX7_proof 128 = .ok (.iaload, 1) := by decide +kernel
theorem dX7_proof_129 : decode cX7_proof 129 = .ok (.if_icmp .ne 7, 3) := by decide +kernel
theorem dX7_proof_132 : decode cX7_proof 132 = .ok (.iconst 1, 1) := by decide +kernel
theorem dX7_proof_133 : decode cX7_proof 133 = .ok (.goto 4, 3) := by decide +kernel
theorem dX7_proof_136 : decode cX7_proof 136 = .ok (.iconst 0, 1) := by decide +kernel
theorem dX7_proof_137 : decode cX7_proof 137 = .ok (.istore_n 1, 1) := by decide +kernel
theorem dX7_proof_138 : decode cX7_proof 138 = .ok (.aload_n 0, 1) := by decide +kernel
theorem dX7_proof_139 : decode cX7_proof 139 = .ok (.iload_n 2, 1) := by decide +kernel
theorem dX7_proof_140 : decode cX7_proof 140 = .ok (.invokevirtual 229, 3) := by decide +kernel
theorem dX7_proof_143 : decode cX7_proof 143 = .ok (.iinc 2 1, 3) := by decide +kernel
theorem dX7_proof_146 : decode cX7_proof 146 = .ok (.goto (-132), 3) := by decide +kernel
theorem dX7_proof_149 : decode cX7_proof 149 = .ok (.iload_n 1, 1) := by decide +kernel
theorem dX7_proof_150 : decode cX7_proof 150 = .ok (.ifCond .eq 7, 3) := by decide +kernel
theorem dX7_proof_153 : decode cX7_proof 153 = .ok (.iconst 1, 1) := by decide +kernel
theorem dX7_proof_154 : decode cX7_proof 154 = .ok (.goto 4, 3) := by decide +kernel
theorem dX7_proof_157 : decode cX7_proof 157 = .ok (.iconst 0, 1) := by decide +kernel
theorem dX7_proof_158 : decode cX7_proof 158 = .ok (.ireturn, 1) := by decide +kernel
set_option maxRecDepth 20000 in
theorem ggX7_known_X7_isTriple : GoodIn wsX7_known wsX7_isTriple := goodIn_r _ [7, 8, 9, 10, 6, 11, 50, 51, 52, 53, 54, 55, 56, 57, 58, 59, 60, 61, 62, 63, 64, 65, 66, 67, 68, 69, 70, 71, 72, 73, 74, 75, 76, 77, 78, 79, 80, 81, 82, 83, 84, 85, 86, 87, 88, 89, 90, 91, 92, 93, 94, 95, 96, 97, 98, 99, 100, 101, 102] (by decide +kernel) (by decide +kernel)
set_option maxRecDepth 20000 in
theorem gX7_known_X7_isTriple : GoodIn wsX7_known (wsV RX7 168 RX7 yX7_isTriple wsX7_isTriple) := goodIn_app (goodIn_of _ (by decide +kernel)) ggX7_known_X7_isTriple
set_option maxRecDepth 20000 in
theorem ggX7_known_X7_layTable : GoodIn wsX7_known wsX7_layTable := goodIn_r _ [15, 8, 16, 17, 18, 19, 6, 20, 21, 22, 23, 24, 25, 26, 27, 28, 29, 30, 31, 32, 33, 34, 35, 36, 37, 38, 39, 50, 51, 52, 53, 54, 55, 56, 57, 58, 59, 60, 61, 62, 63, 64, 65, 66, 67, 68, 69, 70, 71, 72, 73, 74, 75, 76, 77, 78, 79, 80, 81, 82, 83, 84, 85, 86, 87, 88, 89, 90, 91, 92, 93, 94, 95, 96, 97, 98, 99, 100, 101, 102] (by decide +kernel) (by decide +kernel)
set_option maxRecDepth 20000 in
theorem gX7_known_X7_layTable : GoodIn wsX7_known (wsV RX7 270 RX7 yX7_layTable wsX7_layTable) := goodIn_app (goodIn_of _ (by decide +kernel)) ggX7_known_X7_layTable
set_option maxRecDepth 20000 in
theorem ggX7_known_X7_signOf : GoodIn wsX7_known wsX7_signOf := goodIn_r _ [43, 16, 44, 45, 6, 46, 47, 48, 49, 50, 51, 52, 53, 54, 55, 56, 57, 58, 59, 60, 61, 62, 63, 64, 65, 66, 67, 68, 69, 70, 71, 72, 73, 74, 75, 76, 77, 78, 79, 80, 81, 82, 83, 84, 85, 86, 87, 88, 89, 90, 91, 92, 93, 94, 95, 96, 97, 98, 99, 100, 101, 102] (by decide +kernel) (by decide +kernel)
set_option maxRecDepth 20000 in
theorem gX7_known_X7_signOf : GoodIn wsX7_known (wsV RX7 235 RX7 yX7_signOf wsX7_signOf) := goodIn_app (goodIn_of _ (by decide +kernel)) ggX7_known_X7_signOf
theorem dX7_known_0 : decode cX7_known 0 = .ok (.aload_n 0, 1) := by decide +kernel
theorem dX7_known_1 : decode cX7_known 1 = .ok (.iconst 0, 1) := by decide +kernel
theorem dX7_known_2 : decode cX7_known 2 = .ok (.putfield 122, 3) := by decide +kernel
theorem dX7_known_5 : decode cX7_known 5 = .ok (.aload_n 0, 1) := by decide +kernel
theorem dX7_known_6 : decode cX7_known 6 = .ok (.iload_n 1, 1) := by decide +kernel
theorem dX7_known_7 : decode cX7_known 7 = .ok (.iload_n 2, 1) := by decide +kernel
theorem dX7_known_8 : decode cX7_known 8 = .ok (.iload_n 3, 1) := by decide +kernel
theorem dX7_known_9 : decode cX7_known 9 = .ok (.invokevirtual 168, 3) := by decide +kernel
theorem dX7_known_12 : decode cX7_known 12 = .ok (.ifCond .ne 6, 3) := by decide +kernel
theorem dX7_known_15 : decode cX7_known 15 = .ok (.bipush (-9), 2) := by decide +kernel
theorem dX7_known_17 : decode cX7_known 17 = .ok (.ireturn, 1) := by decide +kernel
theorem dX7_known_18 : decode cX7_known 18 = .ok (.aload_n 0, 1) := by decide +kernel
theorem dX7_known_19 : decode cX7_known 19 = .ok (.aload_n 0, 1) := by decide +kernel
theorem dX7_known_20 : decode cX7_known 20 = .ok (.getfield 155, 3) := by decide +kernel
theorem dX7_known_23 : decode cX7_known 23 = .ok (.invokevirtual 270, 3) := by decide +kernel
theorem dX7_known_26 : decode cX7_known 26 = .ok (.aload_n 0, 1) := by decide +kernel
theorem dX7_known_27 : decode cX7_known 27 = .ok (.iload_n 1, 1) := by decide +kernel
theorem dX7_known_28 : decode cX7_known 28 = .ok (.iload_n 2, 1) := by decide +kernel
theorem dX7_known_29 : decode cX7_known 29 = .ok (.iload_n 3, 1) := by decide +kernel
theorem dX7_known_30 : decode cX7_known 30 = .ok (.invokevirtual 235, 3) := by decide +kernel
theorem dX7_known_33 : decode cX7_known 33 = .ok (.istore 4, 2) := by decide +kernel
theorem dX7_known_35 : decode cX7_known 35 = .ok (.iload 4, 2) := by decide +kernel
theorem dX7_known_37 : decode cX7_known 37 = .ok (.bipush 9, 2) := by decide +kernel
theorem dX7_known_39 : decode cX7_known 39 = .ok (.if_icmp .ne 8, 3) := by decide +kernel
theorem dX7_known_42 : decode cX7_known 42 = .ok (.bipush (-4), 2) := by decide +kernel
theorem dX7_known_44 : decode cX7_known 44 = .ok (.goto 5, 3) := by decide +kernel
theorem dX7_known_47 : decode cX7_known 47 = .ok (.iload 4, 2) := by decide +kernel
theorem dX7_known_49 : decode cX7_known 49 = .ok (.ireturn, 1) := by decide +kernel
set_option maxRecDepth 20000 in
theorem ggX7_certificate_X7_isIn : GoodIn wsX7_certificate wsX7_isIn := goodIn_r _ [8] (by decide +kernel) (by decide +kernel)
set_option maxRecDepth 20000 in
theorem gX7_certificate_X7_isIn : GoodIn wsX7_certificate (va_wsS RX7 125 yX7_isIn wsX7_isIn) := goodIn_app (goodIn_of _ (by decide +kernel)) ggX7_certificate_X7_isIn
set_option maxRecDepth 20000 in
theorem ggX7_certificate_X7_layTable : GoodIn wsX7_certificate wsX7_layTable := goodIn_r _ [12, 13, 14, 15, 16, 17, 7, 18, 19, 20, 21, 22, 23, 24, 25, 26, 27, 28, 29, 30, 31, 32, 33, 34, 35, 36, 37, 56, 57, 58, 59, 60, 61, 62, 63, 64, 65, 66, 67, 68, 69, 70, 71, 72, 73, 74, 75, 76, 77, 78, 79, 80, 81, 82, 83, 84, 85, 86, 87, 88, 89, 90, 91, 92, 93, 94, 95, 96, 97, 98, 99, 100, 101, 102, 103, 104, 105, 106, 107, 108] (by decide +kernel) (by decide +kernel)
set_option maxRecDepth 20000 in
theorem gX7_certificate_X7_layTable : GoodIn wsX7_certificate (wsV RX7 270 RX7 yX7_layTable wsX7_layTable) := goodIn_app (goodIn_of _ (by decide +kernel)) ggX7_certificate_X7_layTable
set_option maxRecDepth 20000 in
theorem ggX7_certificate_X7_laySix : GoodIn wsX7_certificate wsX7_laySix := goodIn_r _ [41, 4, 42, 43, 44, 7, 45, 14, 46, 47, 48, 49, 50, 51, 56, 57, 58, 59, 60, 61, 62, 63, 64, 65, 66, 67, 68, 69, 70, 71, 72, 73, 74, 75, 76, 77, 78, 79, 80, 81, 82, 83, 84, 85, 86, 87, 88, 89, 90, 91, 92, 93, 94, 95, 96, 97, 98, 99, 100, 101, 102, 103, 104, 105, 106, 107, 108] (by decide +kernel) (by decide +kernel)
set_option maxRecDepth 20000 in
theorem gX7_certificate_X7_laySix : GoodIn wsX7_certificate (wsV RX7 241 RX7 yX7_laySix wsX7_laySix) := goodIn_app (goodIn_of _ (by decide +kernel)) ggX7_certificate_X7_laySix
set_option maxRecDepth 20000 in
theorem ggX7_certificate_X7_term : GoodIn wsX7_certificate wsX7_term := goodIn_r _ [55, 4, 56, 57, 58, 59, 60, 61, 62, 63, 64, 65, 66, 67, 68, 69, 70, 71, 72, 73, 74, 75, 76, 77, 78, 79, 80, 81, 82, 83, 84, 85, 86, 87, 88, 89, 90, 91, 92, 93, 94, 95, 96, 97, 98, 99, 100, 101, 102, 103, 104, 105, 106, 107, 108] (by decide +kernel) (by decide +kernel)
set_option maxRecDepth 20000 in
theorem gX7_certificate_X7_term : GoodIn wsX7_certificate (wsV RX7 245 RX7 yX7_term wsX7_term) := goodIn_app (goodIn_of _ (by decide +kernel)) ggX7_certificate_X7_term
theorem dX7_certificate_0 : decode cX7_certificate 0 = .ok (.aload_n 0, 1) := by decide +kernel
theorem dX7_certificate_1 : decode cX7_certificate 1 = .ok (.iconst 0, 1) := by decide +kernel
theorem dX7_certificate_2 : decode cX7_certificate 2 = .ok (.putfield 122, 3) := by decide +kernel
theorem dX7_certificate_5 : decode cX7_certificate 5 = .ok (.iload_n 1, 1) := by decide +kernel
theorem dX7_certificate_6 : decode cX7_certificate 6 = .ok (.iconst 0, 1) := by decide +kernel
theorem dX7_certificate_7 : decode cX7_certificate 7 = .ok (.iconst 2, 1) := by decide +kernel
theorem dX7_certificate_8 : decode cX7_certificate 8 = .ok (.invokestatic 125, 3) := by decide +kernel
theorem dX7_certificate_11 : decode cX7_certificate 11 = .ok (.ifCond .eq 12, 3) := by decide +kernel
theorem dX7_certificate_14 : decode cX7_certificate 14 = .ok (.iload_n 2, 1) := by decide +kernel
theorem dX7_certificate_15 : decode cX7_certificate 15 = .ok (.iconst 0, 1) := by decide +kernel
theorem dX7_certificate_16 : decode cX7_certificate 16 = .ok (.iconst 2, 1) := by decide +kernel
theorem dX7_certificate_17 : decode cX7_certificate 17 = .ok (.invokestatic 125, 3) := by decide +kernel
theorem dX7_certificate_20 : decode cX7_certificate 20 = .ok (.ifCond .ne 6, 3) := by decide +kernel
theorem dX7_certificate_23 : decode cX7_certificate 23 = .ok (.bipush (-9), 2) := by decide +kernel
theorem dX7_certificate_25 : decode cX7_certificate 25 = .ok (.ireturn, 1) := by decide +kernel
theorem dX7_certificate_26 : decode cX7_certificate 26 = .ok (.aload_n 0, 1) := by decide +kernel
theorem dX7_certificate_27 : decode cX7_certificate 27 = .ok (.getfield 155, 3) := by decide +kernel
theorem dX7_certificate_30 : decode cX7_certificate 30 = .ok (.ifCond .ne 6, 3) := by decide +kernel
theorem dX7_certificate_33 : decode cX7_certificate 33 = .ok (.bipush (-2), 2) := by decide +kernel
theorem dX7_certificate_35 : decode cX7_certificate 35 = .ok (.ireturn, 1) := by decide +kernel
theorem dX7_certificate_36 : decode cX7_certificate 36 = .ok (.aload_n 0, 1) := by decide +kernel
theorem dX7_certificate_37 : decode cX7_certificate 37 = .ok (.aload_n 0, 1) := by decide +kernel
theorem dX7_certificate_38 : decode cX7_certificate 38 = .ok (.getfield 155, 3) := by decide +kernel
theorem dX7_certificate_41 : decode cX7_certificate 41 = .ok (.invokevirtual 270, 3) := by decide +kernel
theorem dX7_certificate_44 : decode cX7_certificate 44 = .ok (.iconst 5, 1) := by decide +kernel
theorem dX7_certificate_45 : decode cX7_certificate 45 = .ok (.aload_n 0, 1) := by decide +kernel
theorem dX7_certificate_46 : decode cX7_certificate 46 = .ok (.getfield 155, 3) := by decide +kernel
theorem dX7_certificate_49 : decode cX7_certificate 49 = .ok (.iconst 1, 1) := by decide +kernel
theorem dX7_certificate_50 : decode cX7_certificate 50 = .ok (.isub, 1) := by decide +kernel
theorem dX7_certificate_51 : decode cX7_certificate 51 = .ok (.imul, 1) := by decide +kernel
theorem dX7_certificate_52 : decode cX7_certificate 52 = .ok (.istore_n 3, 1) := by decide +kernel
theorem dX7_certificate_53 : decode cX7_certificate 53 = .ok (.aload_n 0, 1) := by decide +kernel
theorem dX7_certificate_54 : decode cX7_certificate 54 = .ok (.aload_n 0, 1) := by decide +kernel
theorem dX7_certificate_55 : decode cX7_certificate 55 = .ok (.getfield 77, 3) := by decide +kernel
theorem dX7_certificate_58 : decode cX7_certificate 58 = .ok (.iload_n 3, 1) := by decide +kernel
theorem dX7_certificate_59 : decode cX7_certificate 59 = .ok (.iaload, 1) := by decide +kernel
theorem dX7_certificate_60 : decode cX7_certificate 60 = .ok (.aload_n 0, 1) := by decide +kernel
theorem dX7_certificate_61 : decode cX7_certificate 61 = .ok (.getfield 77, 3) := by decide +kernel
theorem dX7_certificate_64 : decode cX7_certificate 64 = .ok (.iload_n 3, 1) := by decide +kernel
theorem dX7_certificate_65 : decode cX7_certificate 65 = .ok (.iconst 1, 1) := by decide +kernel
theorem dX7_certificate_66 : decode cX7_certificate 66 = .ok (.iadd, 1) := by decide +kernel
theorem dX7_certificate_67 : decode cX7_certificate 67 = .ok (.iaload, 1) := by decide +kernel
theorem dX7_certificate_68 : decode cX7_certificate 68 = .ok (.aload_n 0, 1) := by decide +kernel
theorem dX7_certificate_69 : decode cX7_certificate 69 = .ok (.getfield 77, 3) := by decide +kernel
theorem dX7_certificate_72 : decode cX7_certificate 72 = .ok (.iload_n 3, 1) := by decide +kernel
theorem dX7_certificate_73 : decode cX7_certificate 73 = .ok (.iconst 2, 1) := by decide +kernel
theorem dX7_certificate_74 : decode cX7_certificate 74 = .ok (.iadd, 1) := by decide +kernel
theorem dX7_certificate_75 : decode cX7_certificate 75 = .ok (.iaload, 1) := by decide +kernel
theorem dX7_certificate_76 : decode cX7_certificate 76 = .ok (.aload_n 0, 1) := by decide +kernel
theorem dX7_certificate_77 : decode cX7_certificate 77 = .ok (.getfield 77, 3) := by decide +kernel
theorem dX7_certificate_80 : decode cX7_certificate 80 = .ok (.iload_n 3, 1) := by decide +kernel
theorem dX7_certificate_81 : decode cX7_certificate 81 = .ok (.iconst 3, 1) := by decide +kernel
theorem dX7_certificate_82 : decode cX7_certificate 82 = .ok (.iadd, 1) := by decide +kernel
theorem dX7_certificate_83 : decode cX7_certificate 83 = .ok (.iaload, 1) := by decide +kernel
theorem dX7_certificate_84 : decode cX7_certificate 84 = .ok (.aload_n 0, 1) := by decide +kernel
theorem dX7_certificate_85 : decode cX7_certificate 85 = .ok (.getfield 77, 3) := by decide +kernel
theorem dX7_certificate_88 : decode cX7_certificate 88 = .ok (.iload_n 3, 1) := by decide +kernel
theorem dX7_certificate_89 : decode cX7_certificate 89 = .ok (.iconst 4, 1) := by decide +kernel
theorem dX7_certificate_90 : decode cX7_certificate 90 = .ok (.iadd, 1) := by decide +kernel
theorem dX7_certificate_91 : decode cX7_certificate 91 = .ok (.iaload, 1) := by decide +kernel
theorem dX7_certificate_92 : decode cX7_certificate 92 = .ok (.invokevirtual 241, 3) := by decide +kernel
theorem dX7_certificate_95 : decode cX7_certificate 95 = .ok (.iload_n 2, 1) := by decide +kernel
theorem dX7_certificate_96 : decode cX7_certificate 96 = .ok (.iconst 2, 1) := by decide +kernel
theorem dX7_certificate_97 : decode cX7_certificate 97 = .ok (.if_icmp .ge 34, 3) := by decide +kernel
theorem dX7_certificate_100 : decode cX7_certificate 100 = .ok (.aload_n 0, 1) := by decide +kernel
theorem dX7_certificate_101 : decode cX7_certificate 101 = .ok (.getfield 86, 3) := by decide +kernel
theorem dX7_certificate_104 : decode cX7_certificate 104 = .ok (.iconst 2, 1) := by decide +kernel
theorem dX7_certificate_105 : decode cX7_certificate 105 = .ok (.iload_n 1, 1) := by decide +kernel
theorem dX7_certificate_106 : decode cX7_certificate 106 = .ok (.imul, 1) := by decide +kernel
theorem dX7_certificate_107 : decode cX7_certificate 107 = .ok (.iload_n 2, 1) := by decide +kernel
theorem dX7_certificate_108 : decode cX7_certificate 108 = .ok (.iadd, 1) := by decide +kernel
theorem dX7_certificate_109 : decode cX7_certificate 109 = .ok (.iaload, 1) := by decide +kernel
theorem dX7_certificate_110 : decode cX7_certificate 110 = .ok (.bipush 9, 2) := by decide +kernel
theorem dX7_certificate_112 : decode cX7_certificate 112 = .ok (.if_icmp .ne 8, 3) := by decide +kernel
theorem dX7_certificate_115 : decode cX7_certificate 115 = .ok (.bipush (-4), 2) := by decide +kernel
theorem dX7_certificate_117 : decode cX7_certificate 117 = .ok (.goto 13, 3) := by decide +kernel
theorem dX7_certificate_120 : decode cX7_certificate 120 = .ok (.aload_n 0, 1) := by decide +kernel
theorem dX7_certificate_121 : decode cX7_certificate 121 = .ok (.getfield 86, 3) := by decide +kernel
theorem dX7_certificate_124 : decode cX7_certificate 124 = .ok (.iconst 2, 1) := by decide +kernel
theorem dX7_certificate_125 : decode cX7_certificate 125 = .ok (.iload_n 1, 1) := by decide +kernel
theorem dX7_certificate_126 : decode cX7_certificate 126 = .ok (.imul, 1) := by decide +kernel
theorem dX7_certificate_127 : decode cX7_certificate 127 = .ok (.iload_n 2, 1) := by decide +kernel
theorem dX7_certificate_128 : decode cX7_certificate 128 = .ok (.iadd, 1) := by decide +kernel
theorem dX7_certificate_129 : decode cX7_certificate 129 = .ok (.iaload, 1) := by decide +kernel
theorem dX7_certificate_130 : decode cX7_certificate 130 = .ok (.ireturn, 1) := by decide +kernel
theorem dX7_certificate_131 : decode cX7_certificate 131 = .ok (.aload_n 0, 1) := by decide +kernel
theorem dX7_certificate_132 : decode cX7_certificate 132 = .ok (.getfield 86, 3) := by decide +kernel
theorem dX7_certificate_135 : decode cX7_certificate 135 = .ok (.iconst 2, 1) := by decide +kernel
theorem dX7_certificate_136 : decode cX7_certificate 136 = .ok (.iload_n 1, 1) := by decide +kernel
theorem dX7_certificate_137 : decode cX7_certificate 137 = .ok (.imul, 1) := by decide +kernel
theorem dX7_certificate_138 : decode cX7_certificate 138 = .ok (.iaload, 1) := by decide +kernel
theorem dX7_certificate_139 : decode cX7_certificate 139 = .ok (.bipush 9, 2) := by decide +kernel
theorem dX7_certificate_141 : decode cX7_certificate 141 = .ok (.if_icmp .eq 18, 3) := by decide +kernel
theorem dX7_certificate_144 : decode cX7_certificate 144 = .ok (.aload_n 0, 1) := by decide +kernel
theorem dX7_certificate_145 : decode cX7_certificate 145 = .ok (.getfield 86, 3) := by decide +kernel
theorem dX7_certificate_148 : decode cX7_certificate 148 = .ok (.iconst 2, 1) := by decide +kernel
theorem dX7_certificate_149 : decode cX7_certificate 149 = .ok (.iload_n 1, 1) := by decide +kernel
theorem dX7_certificate_150 : decode cX7_certificate 150 = .ok (.imul, 1) := by decide +kernel
theorem dX7_certificate_151 : decode cX7_certificate 151 = .ok (.iconst 1, 1) := by decide +kernel
theorem dX7_certificate_152 : decode cX7_certificate 152 = .ok (.iadd, 1) := by decide +kernel
theorem dX7_certificate_153 : decode cX7_certificate 153 = .ok (.iaload, 1) := by decide +kernel
theorem dX7_certificate_154 : decode cX7_certificate 154 = .ok (.bipush 9, 2) := by decide +kernel
theorem dX7_certificate_156 : decode cX7_certificate 156 = .ok (.if_icmp .ne 8, 3) := by decide +kernel
theorem dX7_certificate_159 : decode cX7_certificate 159 = .ok (.bipush (-4), 2) := by decide +kernel
theorem dX7_certificate_161 : decode cX7_certificate 161 = .ok (.goto 8, 3) := by decide +kernel
theorem dX7_certificate_164 : decode cX7_certificate 164 = .ok (.aload_n 0, 1) := by decide +kernel
theorem dX7_certificate_165 : decode cX7_certificate 165 = .ok (.iload_n 1, 1) := by decide +kernel
theorem dX7_certificate_166 : decode cX7_certificate 166 = .ok (.invokevirtual 245, 3) := by decide +kernel
theorem dX7_certificate_169 : decode cX7_certificate 169 = .ok (.ireturn, 1) := by decide +kernel
theorem dX7_factorial_0 : decode cX7_factorial 0 = .ok (.iconst 1, 1) := by decide +kernel
theorem dX7_factorial_1 : decode cX7_factorial 1 = .ok (.istore_n 1, 1) := by decide +kernel
theorem dX7_factorial_2 : decode cX7_factorial 2 = .ok (.iconst 2, 1) := by decide +kernel
theorem dX7_factorial_3 : decode cX7_factorial 3 = .ok (.istore_n 2, 1) := by decide +kernel
theorem dX7_factorial_4 : decode cX7_factorial 4 = .ok (.iload_n 2, 1) := by decide +kernel
theorem dX7_factorial_5 : decode cX7_factorial 5 = .ok (.iload_n 0, 1) := by decide +kernel
theorem dX7_factorial_6 : decode cX7_factorial 6 = .ok (.if_icmp .gt 13, 3) := by decide +kernel
theorem dX7_factorial_9 : decode cX7_factorial 9 = .ok (.iload_n 1, 1) := by decide +kernel
theorem dX7_factorial_10 : decode cX7_factorial 10 = .ok (.iload_n 2, 1) := by decide +kernel
theorem dX7_factorial_11 : decode cX7_factorial 11 = .ok (.imul, 1) := by decide +kernel
theorem dX7_factorial_12 : decode cX7_factorial 12 = .ok (.istore_n 1, 1) := by decide +kernel
theorem dX7_factorial_13 : decode cX7_factorial 13 = .ok (.iinc 2 1, 3) := by decide +kernel
theorem dX7_factorial_16 : decode cX7_factorial 16 = .ok (.goto (-12), 3) := by decide +kernel
theorem dX7_factorial_19 : decode cX7_factorial 19 = .ok (.iload_n 1, 1) := by decide +kernel
theorem dX7_factorial_20 : decode cX7_factorial 20 = .ok (.ireturn, 1) := by decide +kernel
set_option maxRecDepth 20000 in
theorem ggX7_layNames_X7_factorial : GoodIn wsX7_layNames wsX7_factorial := goodIn_r _ [6] (by decide +kernel) (by decide +kernel)
set_option maxRecDepth 20000 in
theorem gX7_layNames_X7_factorial : GoodIn wsX7_layNames (va_wsS RX7 277 yX7_factorial wsX7_factorial) := goodIn_app (goodIn_of _ (by decide +kernel)) ggX7_layNames_X7_factorial
theorem dX7_layNames_0 : decode cX7_layNames 0 = .ok (.iload_n 2, 1) := by decide +kernel
theorem dX7_layNames_1 : decode cX7_layNames 1 = .ok (.istore_n 3, 1) := by decide +kernel
theorem dX7_layNames_2 : decode cX7_layNames 2 = .ok (.iconst 0, 1) := by decide +kernel
theorem dX7_layNames_3 : decode cX7_layNames 3 = .ok (.istore 4, 2) := by decide +kernel
theorem dX7_layNames_5 : decode cX7_layNames 5 = .ok (.iload 4, 2) := by decide +kernel
theorem dX7_layNames_7 : decode cX7_layNames 7 = .ok (.iload_n 1, 1) := by decide +kernel
theorem dX7_layNames_8 : decode cX7_layNames 8 = .ok (.if_icmp .ge 18, 3) := by decide +kernel
theorem dX7_layNames_11 : decode cX7_layNames 11 = .ok (.aload_n 0, 1) := by decide +kernel
theorem dX7_layNames_12 : decode cX7_layNames 12 = .ok (.getfield 95, 3) := by decide +kernel
theorem dX7_layNames_15 : decode cX7_layNames 15 = .ok (.iload 4, 2) := by decide +kernel
theorem dX7_layNames_17 : decode cX7_layNames 17 = .ok (.iload 4, 2) := by decide +kernel
theorem dX7_layNames_19 : decode cX7_layNames 19 = .ok (.iastore, 1) := by decide +kernel
theorem dX7_layNames_20 : decode cX7_layNames 20 = .ok (.iinc 4 1, 3) := by decide +kernel
theorem dX7_layNames_23 : decode cX7_layNames 23 = .ok (.goto (-18), 3) := by decide +kernel
theorem dX7_layNames_26 : decode cX7_layNames 26 = .ok (.iconst 0, 1) := by decide +kernel
theorem dX7_layNames_27 : decode cX7_layNames 27 = .ok (.istore 4, 2) := by decide +kernel
theorem dX7_layNames_29 : decode cX7_layNames 29 = .ok (.iload 4, 2) := by decide +kernel
theorem dX7_layNames_31 : decode cX7_layNames 31 = .ok (.iload_n 1, 1) := by decide +kernel
theorem dX7_layNames_32 : decode cX7_layNames 32 = .ok (.if_icmp .ge 82, 3) := by decide +kernel
theorem dX7_layNames_35 : decode cX7_layNames 35 = .ok (.iload_n 1, 1) := by decide +kernel
theorem dX7_layNames_36 : decode cX7_layNames 36 = .ok (.iconst 1, 1) := by decide +kernel
theorem dX7_layNames_37 : decode cX7_layNames 37 = .ok (.isub, 1) := by decide +kernel
theorem dX7_layNames_38 : decode cX7_layNames 38 = .ok (.iload 4, 2) := by decide +kernel
theorem dX7_layNames_40 : decode cX7_layNames 40 = .ok (.isub, 1) := by decide +kernel
theorem dX7_layNames_41 : decode cX7_layNames 41 = .ok (.invokestatic 277, 3) := by decide +kernel
theorem dX7_layNames_44 : decode cX7_layNames 44 = .ok (.istore 5, 2) := by decide +kernel
theorem dX7_layNames_46 : decode cX7_layNames 46 = .ok (.iload_n 3, 1) := by decide +kernel
theorem dX7_layNames_47 : decode cX7_layNames 47 = .ok (.iload 5, 2) := by decide +kernel
theorem dX7_layNames_49 : decode cX7_layNames 49 = .ok (.idiv, 1) := by decide +kernel
theorem dX7_layNames_50 : decode cX7_layNames 50 = .ok (.istore 6, 2) := by decide +kernel
theorem dX7_layNames_52 : decode cX7_layNames 52 = .ok (.iload_n 3, 1) := by decide +kernel
theorem dX7_layNames_53 : decode cX7_layNames 53 = .ok (.iload 5, 2) := by decide +kernel
theorem dX7_layNames_55 : decode cX7_layNames 55 = .ok (.irem, 1) := by decide +kernel
theorem dX7_layNames_56 : decode cX7_layNames 56 = .ok (.istore_n 3, 1) := by decide +kernel
theorem dX7_layNames_57 : decode cX7_layNames 57 = .ok (.aload_n 0, 1) := by decide +kernel
theorem dX7_layNames_58 : decode cX7_layNames 58 = .ok (.getfield 89, 3) := by decide +kernel
theorem dX7_layNames_61 : decode cX7_layNames 61 = .ok (.iload 4, 2) := by decide +kernel
theorem dX7_layNames_63 : decode cX7_layNames 63 = .ok (.aload_n 0, 1) := by decide +kernel
theorem dX7_layNames_64 : decode cX7_layNames 64 = .ok (.getfield 95, 3) := by decide +kernel
theorem dX7_layNames_67 : decode cX7_layNames 67 = .ok (.iload 6, 2) := by decide +kernel
theorem dX7_layNames_69 : decode cX7_layNames 69 = .ok (.iaload, 1) := by decide +kernel
theorem dX7_layNames_70 : decode cX7_layNames 70 = .ok (.iastore, 1) := by decide +kernel
theorem dX7_layNames_71 : decode cX7_layNames 71 = .ok (.iload 6, 2) := by decide +kernel
theorem dX7_layNames_73 : decode cX7_layNames 73 = .ok (.iconst 1, 1) := by decide +kernel
theorem dX7_layNames_74 : decode cX7_layNames 74 = .ok (.iadd, 1) := by decide +kernel
theorem dX7_layNames_75 : decode cX7_layNames 75 = .ok (.istore 7, 2) := by decide +kernel
theorem dX7_layNames_77 : decode cX7_layNames 77 = .ok (.iload 7, 2) := by decide +kernel
theorem dX7_layNames_79 : decode cX7_layNames 79 = .ok (.iload_n 1, 1) := by decide +kernel
theorem dX7_layNames_80 : decode cX7_layNames 80 = .ok (.iload 4, 2) := by decide +kernel
theorem dX7_layNames_82 : decode cX7_layNames 82 = .ok (.isub, 1) := by decide +kernel
theorem dX7_layNames_83 : decode cX7_layNames 83 = .ok (.if_icmp .ge 25, 3) := by decide +kernel
theorem dX7_layNames_86 : decode cX7_layNames 86 = .ok (.aload_n 0, 1) := by decide +kernel
theorem dX7_layNames_87 : decode cX7_layNames 87 = .ok (.getfield 95, 3) := by decide +kernel
theorem dX7_layNames_90 : decode cX7_layNames 90 = .ok (.iload 7, 2) := by decide +kernel
theorem dX7_layNames_92 : decode cX7_layNames 92 = .ok (.iconst 1, 1) := by decide +kernel
theorem dX7_layNames_93 : decode cX7_layNames 93 = .ok (.isub, 1) := by decide +kernel
theorem dX7_layNames_94 : decode cX7_layNames 94 = .ok (.aload_n 0, 1) := by decide +kernel
theorem dX7_layNames_95 : decode cX7_layNames 95 = .ok (.getfield 95, 3) := by decide +kernel
theorem dX7_layNames_98 : decode cX7_layNames 98 = .ok (.iload 7, 2) := by decide +kernel
theorem dX7_layNames_100 : decode cX7_layNames 100 = .ok (.iaload, 1) := by decide +kernel
theorem dX7_layNames_101 : decode cX7_layNames 101 = .ok (.iastore, 1) := by decide +kernel
theorem dX7_layNames_102 : decode cX7_layNames 102 = .ok (.iinc 7 1, 3) := by decide +kernel
theorem dX7_layNames_105 : decode cX7_layNames 105 = .ok (.goto (-28), 3) := by decide +kernel
theorem dX7_layNames_108 : decode cX7_layNames 108 = .ok (.iinc 4 1, 3) := by decide +kernel
theorem dX7_layNames_111 : decode cX7_layNames 111 = .ok (.goto (-82), 3) := by decide +kernel
theorem dX7_layNames_114 : decode cX7_layNames 114 = .ok (.return_, 1) := by decide +kernel
theorem dX7_renamed_0 : decode cX7_renamed 0 = .ok (.iconst 0, 1) := by decide +kernel
theorem dX7_renamed_1 : decode cX7_renamed 1 = .ok (.istore_n 3, 1) := by decide +kernel
theorem dX7_renamed_2 : decode cX7_renamed 2 = .ok (.iconst 0, 1) := by decide +kernel
theorem dX7_renamed_3 : decode cX7_renamed 3 = .ok (.istore 4, 2) := by decide +kernel
theorem dX7_renamed_5 : decode cX7_renamed 5 = .ok (.iload 4, 2) := by decide +kernel
theorem dX7_renamed_7 : decode cX7_renamed 7 = .ok (.iload_n 2, 1) := by decide +kernel
theorem dX7_renamed_8 : decode cX7_renamed 8 = .ok (.if_icmp .ge 26, 3) := by decide +kernel
theorem dX7_renamed_11 : decode cX7_renamed 11 = .ok (.iload_n 3, 1) := by decide +kernel
theorem dX7_renamed_12 : decode cX7_renamed 12 = .ok (.iload_n 1, 1) := by decide +kernel
theorem dX7_renamed_13 : decode cX7_renamed 13 = .ok (.iload 4, 2) := by decide +kernel
theorem dX7_renamed_15 : decode cX7_renamed 15 = .ok (.ishr, 1) := by decide +kernel
theorem dX7_renamed_16 : decode cX7_renamed 16 = .ok (.iconst 1, 1) := by decide +kernel
theorem dX7_renamed_17 : decode cX7_renamed 17 = .ok (.iand, 1) := by decide +kernel
theorem dX7_renamed_18 : decode cX7_renamed 18 = .ok (.aload_n 0, 1) := by decide +kernel
theorem dX7_renamed_19 : decode cX7_renamed 19 = .ok (.getfield 89, 3) := by decide +kernel
theorem dX7_renamed_22 : decode cX7_renamed 22 = .ok (.iload 4, 2) := by decide +kernel
theorem dX7_renamed_24 : decode cX7_renamed 24 = .ok (.iaload, 1) := by decide +kernel
theorem dX7_renamed_25 : decode cX7_renamed 25 = .ok (.ishl, 1) := by decide +kernel
theorem dX7_renamed_26 : decode cX7_renamed 26 = .ok (.ior, 1) := by decide +kernel
theorem dX7_renamed_27 : decode cX7_renamed 27 = .ok (.istore_n 3, 1) := by decide +kernel
theorem dX7_renamed_28 : decode cX7_renamed 28 = .ok (.iinc 4 1, 3) := by decide +kernel
theorem dX7_renamed_31 : decode cX7_renamed 31 = .ok (.goto (-26), 3) := by decide +kernel
theorem dX7_renamed_34 : decode cX7_renamed 34 = .ok (.iload_n 3, 1) := by decide +kernel
theorem dX7_renamed_35 : decode cX7_renamed 35 = .ok (.ireturn, 1) := by decide +kernel
theorem dX7_sortForm_0 : decode cX7_sortForm 0 = .ok (.iconst 1, 1) := by decide +kernel
theorem dX7_sortForm_1 : decode cX7_sortForm 1 = .ok (.istore_n 2, 1) := by decide +kernel
theorem dX7_sortForm_2 : decode cX7_sortForm 2 = .ok (.iload_n 2, 1) := by decide +kernel
theorem dX7_sortForm_3 : decode cX7_sortForm 3 = .ok (.iload_n 1, 1) := by decide +kernel
theorem dX7_sortForm_4 : decode cX7_sortForm 4 = .ok (.if_icmp .ge 67, 3) := by decide +kernel
theorem dX7_sortForm_7 : decode cX7_sortForm 7 = .ok (.aload_n 0, 1) := by decide +kernel
theorem dX7_sortForm_8 : decode cX7_sortForm 8 = .ok (.getfield 98, 3) := by decide +kernel
theorem dX7_sortForm_11 : decode cX7_sortForm 11 = .ok (.iload_n 2, 1) := by decide +kernel
theorem dX7_sortForm_12 : decode cX7_sortForm 12 = .ok (.iaload, 1) := by decide +kernel
theorem dX7_sortForm_13 : decode cX7_sortForm 13 = .ok (.istore_n 3, 1) := by decide +kernel
theorem dX7_sortForm_14 : decode cX7_sortForm 14 = .ok (.iload_n 2, 1) := by decide +kernel
theorem dX7_sortForm_15 : decode cX7_sortForm 15 = .ok (.istore 4, 2) := by decide +kernel
theorem dX7_sortForm_17 : decode cX7_sortForm 17 = .ok (.iload 4, 2) := by decide +kernel
theorem dX7_sortForm_19 : decode cX7_sortForm 19 = .ok (.ifCond .le 38, 3) := by decide +kernel
theorem dX7_sortForm_22 : decode cX7_sortForm 22 = .ok (.aload_n 0, 1) := by decide +kernel
theorem dX7_sortForm_23 : decode cX7_sortForm 23 = .ok (.getfield 98, 3) := by decide +kernel
theorem dX7_sortForm_26 : decode cX7_sortForm 26 = .ok (.iload 4, 2) := by decide +kernel
theorem dX7_sortForm_28 : decode cX7_sortForm 28 = .ok (.iconst 1, 1) := by decide +kernel
theorem dX7_sortForm_29 : decode cX7_sortForm 29 = .ok (.isub, 1) := by decide +kernel
theorem dX7_sortForm_30 : decode cX7_sortForm 30 = .ok (.iaload, 1) := by decide +kernel
theorem dX7_sortForm_31 : decode cX7_sortForm 31 = .ok (.iload_n 3, 1) := by decide +kernel
theorem dX7_sortForm_32 : decode cX7_sortForm 32 = .ok (.if_icmp .le 25, 3) := by decide +kernel
theorem dX7_sortForm_35 : decode cX7_sortForm 35 = .ok (.aload_n 0, 1) := by decide +kernel
theorem dX7_sortForm_36 : decode cX7_sortForm 36 = .ok (.getfield 98, 3) := by decide +kernel
theorem dX7_sortForm_39 : decode cX7_sortForm 39 = .ok (.iload 4, 2) := by decide +kernel
theorem dX7_sortForm_41 : decode cX7_sortForm 41 = .ok (.aload_n 0, 1) := by decide +kernel
theorem dX7_sortForm_42 : decode cX7_sortForm 42 = .ok (.getfield 98, 3) := by decide +kernel
theorem dX7_sortForm_45 : decode cX7_sortForm 45 = .ok (.iload 4, 2) := by decide +kernel
theorem dX7_sortForm_47 : decode cX7_sortForm 47 = .ok (.iconst 1, 1) := by decide +kernel
theorem dX7_sortForm_48 : decode cX7_sortForm 48 = .ok (.isub, 1) := by decide +kernel
theorem dX7_sortForm_49 : decode cX7_sortForm 49 = .ok (.iaload, 1) := by decide +kernel
theorem dX7_sortForm_50 : decode cX7_sortForm 50 = .ok (.iastore, 1) := by decide +kernel
theorem dX7_sortForm_51 : decode cX7_sortForm 51 = .ok (.iinc 4 (-1), 3) := by decide +kernel
theorem dX7_sortForm_54 : decode cX7_sortForm 54 = .ok (.goto (-37), 3) := by decide +kernel
theorem dX7_sortForm_57 : decode cX7_sortForm 57 = .ok (.aload_n 0, 1) := by decide +kernel
theorem dX7_sortForm_58 : decode cX7_sortForm 58 = .ok (.getfield 98, 3) := by decide +kernel
theorem dX7_sortForm_61 : decode cX7_sortForm 61 = .ok (.iload 4, 2) := by decide +kernel
theorem dX7_sortForm_63 : decode cX7_sortForm 63 = .ok (.iload_n 3, 1) := by decide +kernel
theorem dX7_sortForm_64 : decode cX7_sortForm 64 = .ok (.iastore, 1) := by decide +kernel
theorem dX7_sortForm_65 : decode cX7_sortForm 65 = .ok (.iinc 2 1, 3) := by decide +kernel
theorem dX7_sortForm_68 : decode cX7_sortForm 68 = .ok (.goto (-66), 3) := by decide +kernel
theorem dX7_sortForm_71 : decode cX7_sortForm 71 = .ok (.return_, 1) := by decide +kernel
theorem dX7_compareForm_0 : decode cX7_compareForm 0 = .ok (.iconst 0, 1) := by decide +kernel
theorem dX7_compareForm_1 : decode cX7_compareForm 1 = .ok (.istore_n 3, 1) := by decide +kernel
theorem dX7_compareForm_2 : decode cX7_compareForm 2 = .ok (.iconst 0, 1) := by decide +kernel
theorem dX7_compareForm_3 : decode cX7_compareForm 3 = .ok (.istore 4, 2) := by decide +kernel
theorem dX7_compareForm_5 : decode cX7_compareForm 5 = .ok (.iload 4, 2) := by decide +kernel
theorem dX7_compareForm_7 : decode cX7_compareForm 7 = .ok (.iload_n 2, 1) := by decide +kernel
theorem dX7_compareForm_8 : decode cX7_compareForm 8 = .ok (.if_icmp .ge 51, 3) := by decide +kernel
theorem dX7_compareForm_11 : decode cX7_compareForm 11 = .ok (.iload_n 3, 1) := by decide +kernel
theorem dX7_compareForm_12 : decode cX7_compareForm 12 = .ok (.ifCond .ne 47, 3) := by decide +kernel
theorem dX7_compareForm_15 : decode cX7_compareForm 15 = .ok (.aload_n 0, 1) := by decide +kernel
theorem dX7_compareForm_16 : decode cX7_compareForm 16 = .ok (.getfield 98, 3) := by decide +kernel
theorem dX7_compareForm_19 : decode cX7_compareForm 19 = .ok (.iload 4, 2) := by decide +kernel
theorem dX7_compareForm_21 : decode cX7_compareForm 21 = .ok (.iaload, 1) := by decide +kernel
theorem dX7_compareForm_22 : decode cX7_compareForm 22 = .ok (.aload_n 1, 1) := by decide +kernel
theorem dX7_compareForm_23 : decode cX7_compareForm 23 = .ok (.iload 4, 2) := by decide +kernel
theorem dX7_compareForm_25 : decode cX7_compareForm 25 = .ok (.iaload, 1) := by decide +kernel
theorem dX7_compareForm_26 : decode cX7_compareForm 26 = .ok (.if_icmp .ge 7, 3) := by decide +kernel
theorem dX7_compareForm_29 : decode cX7_compareForm 29 = .ok (.iconst (-1), 1) := by decide +kernel
theorem dX7_compareForm_30 : decode cX7_compareForm 30 = .ok (.goto 22, 3) := by decide +kernel
theorem dX7_compareForm_33 : decode cX7_compareForm 33 = .ok (.aload_n 0, 1) := by decide +kernel
theorem dX7_compareForm_34 : decode cX7_compareForm 34 = .ok (.getfield 98, 3) := by decide +kernel
theorem dX7_compareForm_37 : decode cX7_compareForm 37 = .ok (.iload 4, 2) := by decide +kernel
theorem dX7_compareForm_39 : decode cX7_compareForm 39 = .ok (.iaload, 1) := by decide +kernel
theorem dX7_compareForm_40 : decode cX7_compareForm 40 = .ok (.aload_n 1, 1) := by decide +kernel
theorem dX7_compareForm_41 : decode cX7_compareForm 41 = .ok (.iload 4, 2) := by decide +kernel
theorem dX7_compareForm_43 : decode cX7_compareForm 43 = .ok (.iaload, 1) := by decide +kernel
theorem dX7_compareForm_44 : decode cX7_compareForm 44 = .ok (.if_icmp .le 7, 3) := by decide +kernel
theorem dX7_compareForm_47 : decode cX7_compareForm 47 = .ok (.iconst 1, 1) := by decide +kernel
theorem dX7_compareForm_48 : decode cX7_compareForm 48 = .ok (.goto 4, 3) := by decide +kernel
theorem dX7_compareForm_51 : decode cX7_compareForm 51 = .ok (.iconst 0, 1) := by decide +kernel
theorem dX7_compareForm_52 : decode cX7_compareForm 52 = .ok (.istore_n 3, 1) := by decide +kernel
theorem dX7_compareForm_53 : decode cX7_compareForm 53 = .ok (.iinc 4 1, 3) := by decide +kernel
theorem dX7_compareForm_56 : decode cX7_compareForm 56 = .ok (.goto (-51), 3) := by decide +kernel
theorem dX7_compareForm_59 : decode cX7_compareForm 59 = .ok (.iload_n 3, 1) := by decide +kernel
theorem dX7_compareForm_60 : decode cX7_compareForm 60 = .ok (.ireturn, 1) := by decide +kernel
theorem dX7_orderOf_0 : decode cX7_orderOf 0 = .ok (.iconst 0, 1) := by decide +kernel
theorem dX7_orderOf_1 : decode cX7_orderOf 1 = .ok (.istore_n 2, 1) := by decide +kernel
theorem dX7_orderOf_2 : decode cX7_orderOf 2 = .ok (.iload_n 2, 1) := by decide +kernel
theorem dX7_orderOf_3 : decode cX7_orderOf 3 = .ok (.iload_n 1, 1) := by decide +kernel
theorem dX7_orderOf_4 : decode cX7_orderOf 4 = .ok (.if_icmp .ge 21, 3) := by decide +kernel
theorem dX7_orderOf_7 : decode cX7_orderOf 7 = .ok (.aload_n 0, 1) := by decide +kernel
theorem dX7_orderOf_8 : decode cX7_orderOf 8 = .ok (.getfield 92, 3) := by decide +kernel
theorem dX7_orderOf_11 : decode cX7_orderOf 11 = .ok (.iload_n 2, 1) := by decide +kernel
theorem dX7_orderOf_12 : decode cX7_orderOf 12 = .ok (.aload_n 0, 1) := by decide +kernel
theorem dX7_orderOf_13 : decode cX7_orderOf 13 = .ok (.getfield 89, 3) := by decide +kernel
theorem dX7_orderOf_16 : decode cX7_orderOf 16 = .ok (.iload_n 2, 1) := by decide +kernel
theorem dX7_orderOf_17 : decode cX7_orderOf 17 = .ok (.iaload, 1) := by decide +kernel
theorem dX7_orderOf_18 : decode cX7_orderOf 18 = .ok (.iastore, 1) := by decide +kernel
theorem dX7_orderOf_19 : decode cX7_orderOf 19 = .ok (.iinc 2 1, 3) := by decide +kernel
theorem dX7_orderOf_22 : decode cX7_orderOf 22 = .ok (.goto (-20), 3) := by decide +kernel
theorem dX7_orderOf_25 : decode cX7_orderOf 25 = .ok (.iconst 1, 1) := by decide +kernel
theorem dX7_orderOf_26 : decode cX7_orderOf 26 = .ok (.istore_n 2, 1) := by decide +kernel
theorem dX7_orderOf_27 : decode cX7_orderOf 27 = .ok (.iconst 0, 1) := by decide +kernel
theorem dX7_orderOf_28 : decode cX7_orderOf 28 = .ok (.istore_n 3, 1) := by decide +kernel
theorem dX7_orderOf_29 : decode cX7_orderOf 29 = .ok (.iload_n 3, 1) := by decide +kernel
theorem dX7_orderOf_30 : decode cX7_orderOf 30 = .ok (.ifCond .ne 84, 3) := by decide +kernel
theorem dX7_orderOf_33 : decode cX7_orderOf 33 = .ok (.iconst 1, 1) := by decide +kernel
theorem dX7_orderOf_34 : decode cX7_orderOf 34 = .ok (.istore_n 3, 1) := by decide +kernel
theorem dX7_orderOf_35 : decode cX7_orderOf 35 = .ok (.iconst 0, 1) := by decide +kernel
theorem dX7_orderOf_36 : decode cX7_orderOf 36 = .ok (.istore 4, 2) := by decide +kernel
theorem dX7_orderOf_38 : decode cX7_orderOf 38 = .ok (.iload 4, 2) := by decide +kernel
theorem dX7_orderOf_40 : decode cX7_orderOf 40 = .ok (.iload_n 1, 1) := by decide +kernel
theorem dX7_orderOf_41 : decode cX7_orderOf 41 = .ok (.if_icmp .ge 29, 3) := by decide +kernel
theorem dX7_orderOf_44 : decode cX7_orderOf 44 = .ok (.iload_n 3, 1) := by decide +kernel
theorem dX7_orderOf_45 : decode cX7_orderOf 45 = .ok (.aload_n 0, 1) := by decide +kernel
theorem dX7_orderOf_46 : decode cX7_orderOf 46 = .ok (.getfield 92, 3) := by decide +kernel
theorem dX7_orderOf_49 : decode cX7_orderOf 49 = .ok (.iload 4, 2) := by decide +kernel
theorem dX7_orderOf_51 : decode cX7_orderOf 51 = .ok (.iaload, 1) := by decide +kernel
theorem dX7_orderOf_52 : decode cX7_orderOf 52 = .ok (.iload 4, 2) := by decide +kernel
theorem dX7_orderOf_54 : decode cX7_orderOf 54 = .ok (.if_icmp .ne 7, 3) := by decide +kernel
theorem dX7_orderOf_57 : decode cX7_orderOf 57 = .ok (.iconst 1, 1) := by decide +kernel
theorem dX7_orderOf_58 : decode cX7_orderOf 58 = .ok (.goto 4, 3) := by decide +kernel
theorem dX7_orderOf_61 : decode cX7_orderOf 61 = .ok (.iconst 0, 1) := by decide +kernel
theorem dX7_orderOf_62 : decode cX7_orderOf 62 = .ok (.iand, 1) := by decide +kernel
theorem dX7_orderOf_63 : decode cX7_orderOf 63 = .ok (.istore_n 3, 1) := by decide +kernel
theorem dX7_orderOf_64 : decode cX7_orderOf 64 = .ok (.iinc 4 1, 3) := by decide +kernel
theorem dX7_orderOf_67 : decode cX7_orderOf 67 = .ok (.goto (-29), 3) := by decide +kernel
theorem dX7_orderOf_70 : decode cX7_orderOf 70 = .ok (.iload_n 3, 1) := by decide +kernel
theorem dX7_orderOf_71 : decode cX7_orderOf 71 = .ok (.ifCond .ne (-42), 3) := by decide +kernel
theorem dX7_orderOf_74 : decode cX7_orderOf 74 = .ok (.iinc 2 1, 3) := by decide +kernel
theorem dX7_orderOf_77 : decode cX7_orderOf 77 = .ok (.iconst 0, 1) := by decide +kernel
theorem dX7_orderOf_78 : decode cX7_orderOf 78 = .ok (.istore 4, 2) := by decide +kernel
theorem dX7_orderOf_80 : decode cX7_orderOf 80 = .ok (.iload 4, 2) := by decide +kernel
theorem dX7_orderOf_82 : decode cX7_orderOf 82 = .ok (.iload_n 1, 1) := by decide +kernel
theorem dX7_orderOf_83 : decode cX7_orderOf 83 = .ok (.if_icmp .ge 28, 3) := by decide +kernel
theorem dX7_orderOf_86 : decode cX7_orderOf 86 = .ok (.aload_n 0, 1) := by decide +kernel
theorem dX7_orderOf_87 : decode cX7_orderOf 87 = .ok (.getfield 92, 3) := by decide +kernel
theorem dX7_orderOf_90 : decode cX7_orderOf 90 = .ok (.iload 4, 2) := by decide +kernel
theorem dX7_orderOf_92 : decode cX7_orderOf 92 = .ok (.aload_n 0, 1) := by decide +kernel
theorem dX7_orderOf_93 : decode cX7_orderOf 93 = .ok (.getfield 89, 3) := by decide +kernel
theorem dX7_orderOf_96 : decode cX7_orderOf 96 = .ok (.aload_n 0, 1) := by decide +kernel
theorem dX7_orderOf_97 : decode cX7_orderOf 97 = .ok (.getfield 92, 3) := by decide +kernel
theorem dX7_orderOf_100 : decode cX7_orderOf 100 = .ok (.iload 4, 2) := by decide +kernel
theorem dX7_orderOf_102 : decode cX7_orderOf 102 = .ok (.iaload, 1) := by decide +kernel
theorem dX7_orderOf_103 : decode cX7_orderOf 103 = .ok (.iaload, 1) := by decide +kernel
theorem dX7_orderOf_104 : decode cX7_orderOf 104 = .ok (.iastore, 1) := by decide +kernel
theorem dX7_orderOf_105 : decode cX7_orderOf 105 = .ok (.iinc 4 1, 3) := by decide +kernel
theorem dX7_orderOf_108 : decode cX7_orderOf 108 = .ok (.goto (-28), 3) := by decide +kernel
theorem dX7_orderOf_111 : decode cX7_orderOf 111 = .ok (.goto (-82), 3) := by decide +kernel
theorem dX7_orderOf_114 : decode cX7_orderOf 114 = .ok (.iload_n 2, 1) := by decide +kernel
theorem dX7_orderOf_115 : decode cX7_orderOf 115 = .ok (.ireturn, 1) := by decide +kernel
set_option maxRecDepth 20000 in
theorem ggX7_nameAll_X7_sortForm : GoodIn wsX7_nameAll wsX7_sortForm := goodIn_r _ [13, 3, 36, 37, 38, 39, 40, 41, 42, 43, 44, 45, 46, 47, 48, 49, 50, 51, 52, 53, 54, 55, 56, 57, 58, 59, 60, 61, 62, 63, 64, 65, 66, 67, 68, 69, 70, 71, 72, 73, 74, 75, 76, 77, 78, 79, 80, 81, 82, 83, 84, 85, 86, 87, 88] (by decide +kernel) (by decide +kernel)
set_option maxRecDepth 20000 in
theorem gX7_nameAll_X7_sortForm : GoodIn wsX7_nameAll (wsV RX7 280 RX7 yX7_sortForm wsX7_sortForm) := goodIn_app (goodIn_of _ (by decide +kernel)) ggX7_nameAll_X7_sortForm
set_option maxRecDepth 20000 in
theorem ggX7_nameAll_X7_factorial : GoodIn wsX7_nameAll wsX7_factorial := goodIn_r _ [16] (by decide +kernel) (by decide +kernel)
set_option maxRecDepth 20000 in
theorem gX7_nameAll_X7_factorial : GoodIn wsX7_nameAll (va_wsS RX7 277 yX7_factorial wsX7_factorial) := goodIn_app (goodIn_of _ (by decide +kernel)) ggX7_nameAll_X7_factorial
set_option maxRecDepth 20000 in
theorem ggX7_nameAll_X7_layNames : GoodIn wsX7_nameAll wsX7_layNames := goodIn_r _ [20, 21, 22, 14, 15, 12, 16, 36, 37, 38, 39, 40, 41, 42, 43, 44, 45, 46, 47, 48, 49, 50, 51, 52, 53, 54, 55, 56, 57, 58, 59, 60, 61, 62, 63, 64, 65, 66, 67, 68, 69, 70, 71, 72, 73, 74, 75, 76, 77, 78, 79, 80, 81, 82, 83, 84, 85, 86, 87, 88] (by decide +kernel) (by decide +kernel)
set_option maxRecDepth 20000 in
theorem gX7_nameAll_X7_layNames : GoodIn wsX7_nameAll (wsV RX7 283 RX7 yX7_layNames wsX7_layNames) := goodIn_app (goodIn_of _ (by decide +kernel)) ggX7_nameAll_X7_layNames
set_option maxRecDepth 20000 in
theorem ggX7_nameAll_X7_renamed : GoodIn wsX7_nameAll wsX7_renamed := goodIn_r _ [26, 22, 36, 37, 38, 39, 40, 41, 42, 43, 44, 45, 46, 47, 48, 49, 50, 51, 52, 53, 54, 55, 56, 57, 58, 59, 60, 61, 62, 63, 64, 65, 66, 67, 68, 69, 70, 71, 72, 73, 74, 75, 76, 77, 78, 79, 80, 81, 82, 83, 84, 85, 86, 87, 88] (by decide +kernel) (by decide +kernel)
set_option maxRecDepth 20000 in
theorem gX7_nameAll_X7_renamed : GoodIn wsX7_nameAll (wsV RX7 287 RX7 yX7_renamed wsX7_renamed) := goodIn_app (goodIn_of _ (by decide +kernel)) ggX7_nameAll_X7_renamed
set_option maxRecDepth 20000 in
theorem ggX7_nameAll_X7_compareForm : GoodIn wsX7_nameAll wsX7_compareForm := goodIn_r _ [30, 3, 36, 37, 38, 39, 40, 41, 42, 43, 44, 45, 46, 47, 48, 49, 50, 51, 52, 53, 54, 55, 56, 57, 58, 59, 60, 61, 62, 63, 64, 65, 66, 67, 68, 69, 70, 71, 72, 73, 74, 75, 76, 77, 78, 79, 80, 81, 82, 83, 84, 85, 86, 87, 88] (by decide +kernel) (by decide +kernel)
set_option maxRecDepth 20000 in
theorem gX7_nameAll_X7_compareForm : GoodIn wsX7_nameAll (wsV RX7 290 RX7 yX7_compareForm wsX7_compareForm) := goodIn_app (goodIn_of _ (by decide +kernel)) ggX7_nameAll_X7_compareForm
set_option maxRecDepth 20000 in
theorem ggX7_nameAll_X7_orderOf : GoodIn wsX7_nameAll wsX7_orderOf := goodIn_r _ [34, 35, 22, 36, 37, 38, 39, 40, 41, 42, 43, 44, 45, 46, 47, 48, 49, 50, 51, 52, 53, 54, 55, 56, 57, 58, 59, 60, 61, 62, 63, 64, 65, 66, 67, 68, 69, 70, 71, 72, 73, 74, 75, 76, 77, 78, 79, 80, 81, 82, 83, 84, 85, 86, 87, 88] (by decide +kernel) (by decide +kernel)
set_option maxRecDepth 20000 in
theorem gX7_nameAll_X7_orderOf : GoodIn wsX7_nameAll (wsV RX7 294 RX7 yX7_orderOf wsX7_orderOf) := goodIn_app (goodIn_of _ (by decide +kernel)) ggX7_nameAll_X7_orderOf
theorem dX7_nameAll_0 : decode cX7_nameAll 0 = .ok (.iconst 0, 1) := by decide +kernel
theorem dX7_nameAll_1 : decode cX7_nameAll 1 = .ok (.istore_n 1, 1) := by decide +kernel
theorem dX7_nameAll_2 : decode cX7_nameAll 2 = .ok (.iload_n 1, 1) := by decide +kernel
theorem dX7_nameAll_3 : decode cX7_nameAll 3 = .ok (.bipush 13, 2) := by decide +kernel
theorem dX7_nameAll_5 : decode cX7_nameAll 5 = .ok (.if_icmp .ge 16, 3) := by decide +kernel
theorem dX7_nameAll_8 : decode cX7_nameAll 8 = .ok (.aload_n 0, 1) := by decide +kernel
theorem dX7_nameAll_9 : decode cX7_nameAll 9 = .ok (.getfield 107, 3) := by decide +kernel
theorem dX7_nameAll_12 : decode cX7_nameAll 12 = .ok (.iload_n 1, 1) := by decide +kernel
theorem dX7_nameAll_13 : decode cX7_nameAll 13 = .ok (.iconst 0, 1) := by decide +kernel
theorem dX7_nameAll_14 : decode cX7_nameAll 14 = .ok (.iastore, 1) := by decide +kernel
theorem dX7_nameAll_15 : decode cX7_nameAll 15 = .ok (.iinc 1 1, 3) := by decide +kernel
theorem dX7_nameAll_18 : decode cX7_nameAll 18 = .ok (.goto (-16), 3) := by decide +kernel
theorem dX7_nameAll_21 : decode cX7_nameAll 21 = .ok (.iconst 0, 1) := by decide +kernel
theorem dX7_nameAll_22 : decode cX7_nameAll 22 = .ok (.istore_n 1, 1) := by decide +kernel
theorem dX7_nameAll_23 : decode cX7_nameAll 23 = .ok (.iload_n 1, 1) := by decide +kernel
theorem dX7_nameAll_24 : decode cX7_nameAll 24 = .ok (.aload_n 0, 1) := by decide +kernel
theorem dX7_nameAll_25 : decode cX7_nameAll 25 = .ok (.getfield 146, 3) := by decide +kernel
theorem dX7_nameAll_28 : decode cX7_nameAll 28 = .ok (.if_icmp .ge 21, 3) := by decide +kernel
theorem dX7_nameAll_31 : decode cX7_nameAll 31 = .ok (.aload_n 0, 1) := by decide +kernel
theorem dX7_nameAll_32 : decode cX7_nameAll 32 = .ok (.getfield 98, 3) := by decide +kernel
theorem dX7_nameAll_35 : decode cX7_nameAll 35 = .ok (.iload_n 1, 1) := by decide +kernel
theorem dX7_nameAll_36 : decode cX7_nameAll 36 = .ok (.aload_n 0, 1) := by decide +kernel
theorem dX7_nameAll_37 : decode cX7_nameAll 37 = .ok (.getfield 25, 3) := by decide +kernel
theorem dX7_nameAll_40 : decode cX7_nameAll 40 = .ok (.iload_n 1, 1) := by decide +kernel
theorem dX7_nameAll_41 : decode cX7_nameAll 41 = .ok (.iaload, 1) := by decide +kernel
theorem dX7_nameAll_42 : decode cX7_nameAll 42 = .ok (.iastore, 1) := by decide +kernel
theorem dX7_nameAll_43 : decode cX7_nameAll 43 = .ok (.iinc 1 1, 3) := by decide +kernel
theorem dX7_nameAll_46 : decode cX7_nameAll 46 = .ok (.goto (-23), 3) := by decide +kernel
theorem dX7_nameAll_49 : decode cX7_nameAll 49 = .ok (.aload_n 0, 1) := by decide +kernel
theorem dX7_nameAll_50 : decode cX7_nameAll 50 = .ok (.aload_n 0, 1) := by decide +kernel
theorem dX7_nameAll_51 : decode cX7_nameAll 51 = .ok (.getfield 146, 3) := by decide +kernel
theorem dX7_nameAll_54 : decode cX7_nameAll 54 = .ok (.invokevirtual 280, 3) := by decide +kernel
theorem dX7_nameAll_57 : decode cX7_nameAll 57 = .ok (.iconst 0, 1) := by decide +kernel
theorem dX7_nameAll_58 : decode cX7_nameAll 58 = .ok (.istore_n 1, 1) := by decide +kernel
theorem dX7_nameAll_59 : decode cX7_nameAll 59 = .ok (.iload_n 1, 1) := by decide +kernel
theorem dX7_nameAll_60 : decode cX7_nameAll 60 = .ok (.aload_n 0, 1) := by decide +kernel
theorem dX7_nameAll_61 : decode cX7_nameAll 61 = .ok (.getfield 146, 3) := by decide +kernel
theorem dX7_nameAll_64 : decode cX7_nameAll 64 = .ok (.if_icmp .ge 33, 3) := by decide +kernel
theorem dX7_nameAll_67 : decode cX7_nameAll 67 = .ok (.aload_n 0, 1) := by decide +kernel
theorem dX7_nameAll_68 : decode cX7_nameAll 68 = .ok (.getfield 104, 3) := by decide +kernel
theorem dX7_nameAll_71 : decode cX7_nameAll 71 = .ok (.iload_n 1, 1) := by decide +kernel
theorem dX7_nameAll_72 : decode cX7_nameAll 72 = .ok (.aload_n 0, 1) := by decide +kernel
theorem dX7_nameAll_73 : decode cX7_nameAll 73 = .ok (.getfield 98, 3) := by decide +kernel
theorem dX7_nameAll_76 : decode cX7_nameAll 76 = .ok (.iload_n 1, 1) := by decide +kernel
theorem dX7_nameAll_77 : decode cX7_nameAll 77 = .ok (.iaload, 1) := by decide +kernel
theorem dX7_nameAll_78 : decode cX7_nameAll 78 = .ok (.iastore, 1) := by decide +kernel
theorem dX7_nameAll_79 : decode cX7_nameAll 79 = .ok (.aload_n 0, 1) := by decide +kernel
theorem dX7_nameAll_80 : decode cX7_nameAll 80 = .ok (.getfield 101, 3) := by decide +kernel
theorem dX7_nameAll_83 : decode cX7_nameAll 83 = .ok (.iload_n 1, 1) := by decide +kernel
theorem dX7_nameAll_84 : decode cX7_nameAll 84 = .ok (.aload_n 0, 1) := by decide +kernel
theorem dX7_nameAll_85 : decode cX7_nameAll 85 = .ok (.getfield 98, 3) := by decide +kernel
theorem dX7_nameAll_88 : decode cX7_nameAll 88 = .ok (.iload_n 1, 1) := by decide +kernel
theorem dX7_nameAll_89 : decode cX7_nameAll 89 = .ok (.iaload, 1) := by decide +kernel
theorem dX7_nameAll_90 : decode cX7_nameAll 90 = .ok (.iastore, 1) := by decide +kernel
theorem dX7_nameAll_91 : decode cX7_nameAll 91 = .ok (.iinc 1 1, 3) := by decide +kernel
theorem dX7_nameAll_94 : decode cX7_nameAll 94 = .ok (.goto (-35), 3) := by decide +kernel
theorem dX7_nameAll_97 : decode cX7_nameAll 97 = .ok (.iconst 0, 1) := by decide +kernel
theorem dX7_nameAll_98 : decode cX7_nameAll 98 = .ok (.istore_n 1, 1) := by decide +kernel
theorem dX7_nameAll_99 : decode cX7_nameAll 99 = .ok (.iload_n 1, 1) := by decide +kernel
theorem dX7_nameAll_100 : decode cX7_nameAll 100 = .ok (.aload_n 0, 1) := by decide +kernel
theorem dX7_nameAll_101 : decode cX7_nameAll 101 = .ok (.getfield 143, 3) := by decide +kernel
theorem dX7_nameAll_104 : decode cX7_nameAll 104 = .ok (.invokestatic 277, 3) := by decide +kernel
theorem dX7_nameAll_107 : decode cX7_nameAll 107 = .ok (.if_icmp .ge 147, 3) := by decide +kernel
theorem dX7_nameAll_110 : decode cX7_nameAll 110 = .ok (.aload_n 0, 1) := by decide +kernel
theorem dX7_nameAll_111 : decode cX7_nameAll 111 = .ok (.aload_n 0, 1) := by decide +kernel
theorem dX7_nameAll_112 : decode cX7_nameAll 112 = .ok (.getfield 143, 3) := by decide +kernel
theorem dX7_nameAll_115 : decode cX7_nameAll 115 = .ok (.iload_n 1, 1) := by decide +kernel
theorem dX7_nameAll_116 : decode cX7_nameAll 116 = .ok (.invokevirtual 283, 3) := by decide +kernel
theorem dX7_nameAll_119 : decode cX7_nameAll 119 = .ok (.iconst 0, 1) := by decide +kernel
theorem dX7_nameAll_120 : decode cX7_nameAll 120 = .ok (.istore_n 2, 1) := by decide +kernel
theorem dX7_nameAll_121 : decode cX7_nameAll 121 = .ok (.iload_n 2, 1) := by decide +kernel
theorem dX7_nameAll_122 : decode cX7_nameAll 122 = .ok (.aload_n 0, 1) := by decide +kernel
theorem dX7_nameAll_123 : decode cX7_nameAll 123 = .ok (.getfield 146, 3) := by decide +kernel
theorem dX7_nameAll_126 : decode cX7_nameAll 126 = .ok (.if_icmp .ge 29, 3) := by decide +kernel
theorem dX7_nameAll_129 : decode cX7_nameAll 129 = .ok (.aload_n 0, 1) := by decide +kernel
theorem dX7_nameAll_130 : decode cX7_nameAll 130 = .ok (.getfield 98, 3) := by decide +kernel
theorem dX7_nameAll_133 : decode cX7_nameAll 133 = .ok (.iload_n 2, 1) := by decide +kernel
theorem dX7_nameAll_134 : decode cX7_nameAll 134 = .ok (.aload_n 0, 1) := by decide +kernel
theorem dX7_nameAll_135 : decode cX7_nameAll 135 = .ok (.aload_n 0, 1) := by decide +kernel
theorem dX7_nameAll_136 : decode cX7_nameAll 136 = .ok (.getfield 25, 3) := by decide +kernel
theorem dX7_nameAll_139 : decode cX7_nameAll 139 = .ok (.iload_n 2, 1) := by decide +kernel
theorem dX7_nameAll_140 : decode cX7_nameAll 140 = .ok (.iaload, 1) := by decide +kernel
theorem dX7_nameAll_141 : decode cX7_nameAll 141 = .ok (.aload_n 0, 1) := by decide +kernel
theorem dX7_nameAll_142 : decode cX7_nameAll 142 = .ok (.getfield 143, 3) := by decide +kernel
theorem dX7_nameAll_145 : decode cX7_nameAll 145 = .ok (.invokevirtual 287, 3) := by decide +kernel
theorem dX7_nameAll_148 : decode cX7_nameAll 148 = .ok (.iastore, 1) := by decide +kernel
theorem dX7_nameAll_149 : decode cX7_nameAll 149 = .ok (.iinc 2 1, 3) := by decide +kernel
theorem dX7_nameAll_152 : decode cX7_nameAll 152 = .ok (.goto (-31), 3) := by decide +kernel
theorem dX7_nameAll_155 : decode cX7_nameAll 155 = .ok (.aload_n 0, 1) := by decide +kernel
theorem dX7_nameAll_156 : decode cX7_nameAll 156 = .ok (.aload_n 0, 1) := by decide +kernel
theorem dX7_nameAll_157 : decode cX7_nameAll 157 = .ok (.getfield 146, 3) := by decide +kernel
theorem dX7_nameAll_160 : decode cX7_nameAll 160 = .ok (.invokevirtual 280, 3) := by decide +kernel
theorem dX7_nameAll_163 : decode cX7_nameAll 163 = .ok (.aload_n 0, 1) := by decide +kernel
theorem dX7_nameAll_164 : decode cX7_nameAll 164 = .ok (.aload_n 0, 1) := by decide +kernel
theorem dX7_nameAll_165 : decode cX7_nameAll 165 = .ok (.getfield 104, 3) := by decide +kernel
theorem dX7_nameAll_168 : decode cX7_nameAll 168 = .ok (.aload_n 0, 1) := by decide +kernel
theorem dX7_nameAll_169 : decode cX7_nameAll 169 = .ok (.getfield 146, 3) := by decide +kernel
theorem dX7_nameAll_172 : decode cX7_nameAll 172 = .ok (.invokevirtual 290, 3) := by decide +kernel
theorem dX7_nameAll_175 : decode cX7_nameAll 175 = .ok (.ifCond .ne 30, 3) := by decide +kernel
theorem dX7_nameAll_178 : decode cX7_nameAll 178 = .ok (.aload_n 0, 1) := by decide +kernel
theorem dX7_nameAll_179 : decode cX7_nameAll 179 = .ok (.getfield 107, 3) := by decide +kernel
theorem dX7_nameAll_182 : decode cX7_nameAll 182 = .ok (.aload_n 0, 1) := by decide +kernel
theorem dX7_nameAll_183 : decode cX7_nameAll 183 = .ok (.aload_n 0, 1) := by decide +kernel
theorem dX7_nameAll_184 : decode cX7_nameAll 184 = .ok (.getfield 143, 3) := by decide +kernel
theorem dX7_nameAll_187 : decode cX7_nameAll 187 = .ok (.invokevirtual 294, 3) := by decide +kernel
theorem dX7_nameAll_190 : decode cX7_nameAll 190 = .ok (.dup2, 1) := by decide +kernel
theorem dX7_nameAll_191 : decode cX7_nameAll 191 = .ok (.iaload, 1) := by decide +kernel
theorem dX7_nameAll_192 : decode cX7_nameAll 192 = .ok (.iconst 1, 1) := by decide +kernel
theorem dX7_nameAll_193 : decode cX7_nameAll 193 = .ok (.iadd, 1) := by decide +kernel
theorem dX7_nameAll_194 : decode cX7_nameAll 194 = .ok (.iastore, 1) := by decide +kernel
theorem dX7_nameAll_195 : decode cX7_nameAll 195 = .ok (.aload_n 0, 1) := by decide +kernel
theorem dX7_nameAll_196 : decode cX7_nameAll 196 = .ok (.getfield 107, 3) := by decide +kernel
theorem dX7_nameAll_199 : decode cX7_nameAll 199 = .ok (.iconst 0, 1) := by decide +kernel
theorem dX7_nameAll_200 : decode cX7_nameAll 200 = .ok (.dup2, 1) := by decide +kernel
theorem dX7_nameAll_201 : decode cX7_nameAll 201 = .ok (.iaload, 1) := by decide +kernel
theorem dX7_nameAll_202 : decode cX7_nameAll 202 = .ok (.iconst 1, 1) := by decide +kernel
theorem dX7_nameAll_203 : decode cX7_nameAll 203 = .ok (.iadd, 1) := by decide +kernel
theorem dX7_nameAll_204 : decode cX7_nameAll 204 = .ok (.iastore, 1) := by decide +kernel
theorem dX7_nameAll_205 : decode cX7_nameAll 205 = .ok (.aload_n 0, 1) := by decide +kernel
theorem dX7_nameAll_206 : decode cX7_nameAll 206 = .ok (.aload_n 0, 1) := by decide +kernel
theorem dX7_nameAll_207 : decode cX7_nameAll 207 = .ok (.getfield 101, 3) := by decide +kernel
theorem dX7_nameAll_210 : decode cX7_nameAll 210 = .ok (.aload_n 0, 1) := by decide +kernel
theorem dX7_nameAll_211 : decode cX7_nameAll 211 = .ok (.getfield 146, 3) := by decide +kernel
theorem dX7_nameAll_214 : decode cX7_nameAll 214 = .ok (.invokevirtual 290, 3) := by decide +kernel
theorem dX7_nameAll_217 : decode cX7_nameAll 217 = .ok (.ifCond .ge 31, 3) := by decide +kernel
theorem dX7_nameAll_220 : decode cX7_nameAll 220 = .ok (.iconst 0, 1) := by decide +kernel
theorem dX7_nameAll_221 : decode cX7_nameAll 221 = .ok (.istore_n 2, 1) := by decide +kernel
theorem dX7_nameAll_222 : decode cX7_nameAll 222 = .ok (.iload_n 2, 1) := by decide +kernel
theorem dX7_nameAll_223 : decode cX7_nameAll 223 = .ok (.aload_n 0, 1) := by decide +kernel
theorem dX7_nameAll_224 : decode cX7_nameAll 224 = .ok (.getfield 146, 3) := by decide +kernel
theorem dX7_nameAll_227 : decode cX7_nameAll 227 = .ok (.if_icmp .ge 21, 3) := by decide +kernel
theorem dX7_nameAll_230 : decode cX7_nameAll 230 = .ok (.aload_n 0, 1) := by decide +kernel
theorem dX7_nameAll_231 : decode cX7_nameAll 231 = .ok (.getfield 101, 3) := by decide +kernel
theorem dX7_nameAll_234 : decode cX7_nameAll 234 = .ok (.iload_n 2, 1) := by decide +kernel
theorem dX7_nameAll_235 : decode cX7_nameAll 235 = .ok (.aload_n 0, 1) := by decide +kernel
theorem dX7_nameAll_236 : decode cX7_nameAll 236 = .ok (.getfield 98, 3) := by decide +kernel
theorem dX7_nameAll_239 : decode cX7_nameAll 239 = .ok (.iload_n 2, 1) := by decide +kernel
theorem dX7_nameAll_240 : decode cX7_nameAll 240 = .ok (.iaload, 1) := by decide +kernel
theorem dX7_nameAll_241 : decode cX7_nameAll 241 = .ok (.iastore, 1) := by decide +kernel
theorem dX7_nameAll_242 : decode cX7_nameAll 242 = .ok (.iinc 2 1, 3) := by decide +kernel
theorem dX7_nameAll_245 : decode cX7_nameAll 245 = .ok (.goto (-23), 3) := by decide +kernel
theorem dX7_nameAll_248 : decode cX7_nameAll 248 = .ok (.iinc 1 1, 3) := by decide +kernel
theorem dX7_nameAll_251 : decode cX7_nameAll 251 = .ok (.goto (-152), 3) := by decide +kernel
theorem dX7_nameAll_254 : decode cX7_nameAll 254 = .ok (.aload_n 0, 1) := by decide +kernel
theorem dX7_nameAll_255 : decode cX7_nameAll 255 = .ok (.iconst 1, 1) := by decide +kernel
theorem dX7_nameAll_256 : decode cX7_nameAll 256 = .ok (.putfield 162, 3) := by decide +kernel
theorem dX7_nameAll_259 : decode cX7_nameAll 259 = .ok (.return_, 1) := by decide +kernel
set_option maxRecDepth 20000 in
theorem ggX7_mayName_X7_nameAll : GoodIn wsX7_mayName wsX7_nameAll := goodIn_r _ [8, 9, 1, 10, 11, 12, 13, 2, 3, 14, 15, 16, 7, 17, 18, 19, 20, 21, 22, 23, 24, 25, 26, 27, 28, 29, 30, 31, 32, 33, 34, 35, 36, 37, 38, 39, 40, 41, 42, 43, 44, 45, 46, 47, 48, 49, 50, 51, 52, 53, 54, 55, 56, 57, 58, 59, 60, 61, 62, 63, 64, 65, 66, 67, 68, 69, 70, 71, 72, 73, 74, 75, 76, 77, 78, 79, 80, 81, 82, 83, 84, 85, 86, 87, 88, 89, 90, 91, 92] (by decide +kernel) (by decide +kernel)
set_option maxRecDepth 20000 in
theorem gX7_mayName_X7_nameAll : GoodIn wsX7_mayName (wsV RX7 297 RX7 yX7_nameAll wsX7_nameAll) := goodIn_app (goodIn_of _ (by decide +kernel)) ggX7_mayName_X7_nameAll
theorem dX7_mayName_0 : decode cX7_mayName 0 = .ok (.aload_n 0, 1) := by decide +kernel
theorem dX7_mayName_1 : decode cX7_mayName 1 = .ok (.getfield 146, 3) := by decide +kernel
theorem dX7_mayName_4 : decode cX7_mayName 4 = .ok (.ifCond .eq 12, 3) := by decide +kernel
theorem dX7_mayName_7 : decode cX7_mayName 7 = .ok (.aload_n 0, 1) := by decide +kernel
theorem dX7_mayName_8 : decode cX7_mayName 8 = .ok (.getfield 143, 3) := by decide +kernel
theorem dX7_mayName_11 : decode cX7_mayName 11 = .ok (.bipush 7, 2) := by decide +kernel
theorem dX7_mayName_13 : decode cX7_mayName 13 = .ok (.if_icmp .le 5, 3) := by decide +kernel
theorem dX7_mayName_16 : decode cX7_mayName 16 = .ok (.iconst 0, 1) := by decide +kernel
theorem dX7_mayName_17 : decode cX7_mayName 17 = .ok (.ireturn, 1) := by decide +kernel
theorem dX7_mayName_18 : decode cX7_mayName 18 = .ok (.aload_n 0, 1) := by decide +kernel
theorem dX7_mayName_19 : decode cX7_mayName 19 = .ok (.getfield 162, 3) := by decide +kernel
theorem dX7_mayName_22 : decode cX7_mayName 22 = .ok (.ifCond .ne 7, 3) := by decide +kernel
theorem dX7_mayName_25 : decode cX7_mayName 25 = .ok (.aload_n 0, 1) := by decide +kernel
theorem dX7_mayName_26 : decode cX7_mayName 26 = .ok (.invokevirtual 297, 3) := by decide +kernel
theorem dX7_mayName_29 : decode cX7_mayName 29 = .ok (.iconst 1, 1) := by decide +kernel
theorem dX7_mayName_30 : decode cX7_mayName 30 = .ok (.ireturn, 1) := by decide +kernel
set_option maxRecDepth 20000 in
theorem ggX7_canonical_X7_mayName : GoodIn wsX7_canonical wsX7_mayName := goodIn_r _ [8, 2, 9, 10, 11, 12, 13, 7, 14, 15, 16, 17, 18, 3, 19, 20, 21, 22, 23, 24, 25, 26, 27, 28, 29, 30, 31, 32, 33, 34, 35, 36, 37, 38, 39, 40, 41, 42, 43, 44, 48, 49, 50, 51, 52, 53, 54, 55, 56, 57, 58, 59, 60, 61, 62, 63, 64, 65, 66, 67, 68, 69, 70, 71, 72, 73, 74, 75, 76, 77, 78, 79, 80, 81, 82, 83, 84, 85, 86, 87, 88, 89, 90, 91, 92, 93, 94, 95, 96, 97, 98, 99, 100] (by decide +kernel) (by decide +kernel)
set_option maxRecDepth 20000 in
theorem gX7_canonical_X7_mayName : GoodIn wsX7_canonical (wsV RX7 300 RX7 yX7_mayName wsX7_mayName) := goodIn_app (goodIn_of _ (by decide +kernel)) ggX7_canonical_X7_mayName
set_option maxRecDepth 20000 in
theorem ggX7_canonical_X7_isIn : GoodIn wsX7_canonical wsX7_isIn := goodIn_r _ [47] (by decide +kernel) (by decide +kernel)
set_option maxRecDepth 20000 in
theorem gX7_canonical_X7_isIn : GoodIn wsX7_canonical (va_wsS RX7 125 yX7_isIn wsX7_isIn) := goodIn_app (goodIn_of _ (by decide +kernel)) ggX7_canonical_X7_isIn
theorem dX7_canonical_0 : decode cX7_canonical 0 = .ok (.aload_n 0, 1) := by decide +kernel
theorem dX7_canonical_1 : decode cX7_canonical 1 = .ok (.iconst 0, 1) := by decide +kernel
theorem dX7_canonical_2 : decode cX7_canonical 2 = .ok (.putfield 122, 3) := by decide +kernel
theorem dX7_canonical_5 : decode cX7_canonical 5 = .ok (.aload_n 0, 1) := by decide +kernel
theorem dX7_canonical_6 : decode cX7_canonical 6 = .ok (.invokevirtual 300, 3) := by decide +kernel
theorem dX7_canonical_9 : decode cX7_canonical 9 = .ok (.ifCond .ne 6, 3) := by decide +kernel
theorem dX7_canonical_12 : decode cX7_canonical 12 = .ok (.bipush (-2), 2) := by decide +kernel
theorem dX7_canonical_14 : decode cX7_canonical 14 = .ok (.ireturn, 1) := by decide +kernel
theorem dX7_canonical_15 : decode cX7_canonical 15 = .ok (.iload_n 1, 1) := by decide +kernel
theorem dX7_canonical_16 : decode cX7_canonical 16 = .ok (.iconst 0, 1) := by decide +kernel
theorem dX7_canonical_17 : decode cX7_canonical 17 = .ok (.aload_n 0, 1) := by decide +kernel
theorem dX7_canonical_18 : decode cX7_canonical 18 = .ok (.getfield 146, 3) := by decide +kernel
theorem dX7_canonical_21 : decode cX7_canonical 21 = .ok (.iconst 1, 1) := by decide +kernel
theorem dX7_canonical_22 : decode cX7_canonical 22 = .ok (.isub, 1) := by decide +kernel
theorem dX7_canonical_23 : decode cX7_canonical 23 = .ok (.invokestatic 125, 3) := by decide +kernel
theorem dX7_canonical_26 : decode cX7_canonical 26 = .ok (.ifCond .eq 12, 3) := by decide +kernel
theorem dX7_canonical_29 : decode cX7_canonical 29 = .ok (.aload_n 0, 1) := by decide +kernel
theorem dX7_canonical_30 : decode cX7_canonical 30 = .ok (.getfield 101, 3) := by decide +kernel
theorem dX7_canonical_33 : decode cX7_canonical 33 = .ok (.iload_n 1, 1) := by decide +kernel
theorem dX7_canonical_34 : decode cX7_canonical 34 = .ok (.iaload, 1) := by decide +kernel
theorem dX7_canonical_35 : decode cX7_canonical 35 = .ok (.goto 5, 3) := by decide +kernel
theorem dX7_canonical_38 : decode cX7_canonical 38 = .ok (.bipush (-4), 2) := by decide +kernel
theorem dX7_canonical_40 : decode cX7_canonical 40 = .ok (.ireturn, 1) := by decide +kernel
set_option maxRecDepth 20000 in
theorem ggX7_orbit_X7_mayName : GoodIn wsX7_orbit wsX7_mayName := goodIn_r _ [7, 8, 9, 10, 11, 12, 13, 6, 14, 2, 15, 16, 17, 18, 19, 20, 21, 22, 23, 24, 25, 26, 27, 28, 29, 30, 31, 32, 33, 34, 35, 36, 37, 38, 39, 40, 41, 42, 43, 44, 45, 46, 47, 48, 49, 50, 51, 52, 53, 54, 55, 56, 57, 58, 59, 60, 61, 62, 63, 64, 65, 66, 67, 68, 69, 70, 71, 72, 73, 74, 75, 76, 77, 78, 79, 80, 81, 82, 83, 84, 85, 86, 87, 88, 89, 90, 91, 92, 93, 94, 95, 96, 97] (by decide +kernel) (by decide +kernel)
set_option maxRecDepth 20000 in
theorem gX7_orbit_X7_mayName : GoodIn wsX7_orbit (wsV RX7 300 RX7 yX7_mayName wsX7_mayName) := goodIn_app (goodIn_of _ (by decide +kernel)) ggX7_orbit_X7_mayName
theorem dX7_orbit_0 : decode cX7_orbit 0 = .ok (.aload_n 0, 1) := by decide +kernel
theorem dX7_orbit_1 : decode cX7_orbit 1 = .ok (.iconst 0, 1) := by decide +kernel
theorem dX7_orbit_2 : decode cX7_orbit 2 = .ok (.putfield 122, 3) := by decide +kernel
theorem dX7_orbit_5 : decode cX7_orbit 5 = .ok (.iload_n 1, 1) := by decide +kernel
theorem dX7_orbit_6 : decode cX7_orbit 6 = .ok (.ifCond .ge 6, 3) := by decide +kernel
theorem dX7_orbit_9 : decode cX7_orbit 9 = .ok (.bipush (-9), 2) := by decide +kernel
theorem dX7_orbit_11 : decode cX7_orbit 11 = .ok (.ireturn, 1) := by decide +kernel
theorem dX7_orbit_12 : decode cX7_orbit 12 = .ok (.aload_n 0, 1) := by decide +kernel
theorem dX7_orbit_13 : decode cX7_orbit 13 = .ok (.invokevirtual 300, 3) := by decide +kernel
theorem dX7_orbit_16 : decode cX7_orbit 16 = .ok (.ifCond .ne 6, 3) := by decide +kernel
theorem dX7_orbit_19 : decode cX7_orbit 19 = .ok (.bipush (-2), 2) := by decide +kernel
theorem dX7_orbit_21 : decode cX7_orbit 21 = .ok (.ireturn, 1) := by decide +kernel
theorem dX7_orbit_22 : decode cX7_orbit 22 = .ok (.iload_n 1, 1) := by decide +kernel
theorem dX7_orbit_23 : decode cX7_orbit 23 = .ok (.bipush 13, 2) := by decide +kernel
theorem dX7_orbit_25 : decode cX7_orbit 25 = .ok (.if_icmp .ge 12, 3) := by decide +kernel
theorem dX7_orbit_28 : decode cX7_orbit 28 = .ok (.aload_n 0, 1) := by decide +kernel
theorem dX7_orbit_29 : decode cX7_orbit 29 = .ok (.getfield 107, 3) := by decide +kernel
theorem dX7_orbit_32 : decode cX7_orbit 32 = .ok (.iload_n 1, 1) := by decide +kernel
theorem dX7_orbit_33 : decode cX7_orbit 33 = .ok (.iaload, 1) := by decide +kernel
theorem dX7_orbit_34 : decode cX7_orbit 34 = .ok (.goto 4, 3) := by decide +kernel
theorem dX7_orbit_37 : decode cX7_orbit 37 = .ok (.iconst 0, 1) := by decide +kernel
theorem dX7_orbit_38 : decode cX7_orbit 38 = .ok (.ireturn, 1) := by decide +kernel
set_option maxRecDepth 20000 in
theorem ggX7_layTriples_X7_maskOf : GoodIn wsX7_layTriples wsX7_maskOf := goodIn_r _ [6] (by decide +kernel) (by decide +kernel)
set_option maxRecDepth 20000 in
theorem gX7_layTriples_X7_maskOf : GoodIn wsX7_layTriples (va_wsS RX7 171 yX7_maskOf wsX7_maskOf) := goodIn_app (goodIn_of _ (by decide +kernel)) ggX7_layTriples_X7_maskOf
theorem dX7_layTriples_0 : decode cX7_layTriples 0 = .ok (.aload_n 0, 1) := by decide +kernel
theorem dX7_layTriples_1 : decode cX7_layTriples 1 = .ok (.iconst 0, 1) := by decide +kernel
theorem dX7_layTriples_2 : decode cX7_layTriples 2 = .ok (.putfield 303, 3) := by decide +kernel
theorem dX7_layTriples_5 : decode cX7_layTriples 5 = .ok (.iconst 0, 1) := by decide +kernel
theorem dX7_layTriples_6 : decode cX7_layTriples 6 = .ok (.istore_n 2, 1) := by decide +kernel
theorem dX7_layTriples_7 : decode cX7_layTriples 7 = .ok (.iload_n 2, 1) := by decide +kernel
theorem dX7_layTriples_8 : decode cX7_layTriples 8 = .ok (.iload_n 1, 1) := by decide +kernel
theorem dX7_layTriples_9 : decode cX7_layTriples 9 = .ok (.if_icmp .ge 67, 3) := by decide +kernel
theorem dX7_layTriples_12 : decode cX7_layTriples 12 = .ok (.iload_n 2, 1) := by decide +kernel
theorem dX7_layTriples_13 : decode cX7_layTriples 13 = .ok (.iconst 1, 1) := by decide +kernel
theorem dX7_layTriples_14 : decode cX7_layTriples 14 = .ok (.iadd, 1) := by decide +kernel
theorem dX7_layTriples_15 : decode cX7_layTriples 15 = .ok (.istore_n 3, 1) := by decide +kernel
theorem dX7_layTriples_16 : decode cX7_layTriples 16 = .ok (.iload_n 3, 1) := by decide +kernel
theorem dX7_layTriples_17 : decode cX7_layTriples 17 = .ok (.iload_n 1, 1) := by decide +kernel
theorem dX7_layTriples_18 : decode cX7_layTriples 18 = .ok (.if_icmp .ge 52, 3) := by decide +kernel
theorem dX7_layTriples_21 : decode cX7_layTriples 21 = .ok (.iload_n 3, 1) := by decide +kernel
theorem dX7_layTriples_22 : decode cX7_layTriples 22 = .ok (.iconst 1, 1) := by decide +kernel
theorem dX7_layTriples_23 : decode cX7_layTriples 23 = .ok (.iadd, 1) := by decide +kernel
theorem dX7_layTriples_24 : decode cX7_layTriples 24 = .ok (.istore 4, 2) := by decide +kernel
theorem dX7_layTriples_26 : decode cX7_layTriples 26 = .ok (.iload 4, 2) := by decide +kernel
theorem dX7_layTriples_28 : decode cX7_layTriples 28 = .ok (.iload_n 1, 1) := by decide +kernel
theorem dX7_layTriples_29 : decode cX7_layTriples 29 = .ok (.if_icmp .ge 35, 3) := by decide +kernel
theorem dX7_layTriples_32 : decode cX7_layTriples 32 = .ok (.aload_n 0, 1) := by decide +kernel
theorem dX7_layTriples_33 : decode cX7_layTriples 33 = .ok (.getfield 113, 3) := by decide +kernel
theorem dX7_layTriples_36 : decode cX7_layTriples 36 = .ok (.aload_n 0, 1) := by decide +kernel
theorem dX7_layTriples_37 : decode cX7_layTriples 37 = .ok (.getfield 303, 3) := by decide +kernel
theorem dX7_layTriples_40 : decode cX7_layTriples 40 = .ok (.iload_n 2, 1) := by decide +kernel
theorem dX7_layTriples_41 : decode cX7_layTriples 41 = .ok (.iload_n 3, 1) := by decide +kernel
theorem dX7_layTriples_42 : decode cX7_layTriples 42 = .ok (.iload 4, 2) := by decide +kernel
theorem dX7_layTriples_44 : decode cX7_layTriples 44 = .ok (.invokestatic 171, 3) := by decide +kernel
theorem dX7_layTriples_47 : decode cX7_layTriples 47 = .ok (.iastore, 1) := by decide +kernel
theorem dX7_layTriples_48 : decode cX7_layTriples 48 = .ok (.aload_n 0, 1) := by decide +kernel
theorem dX7_layTriples_49 : decode cX7_layTriples 49 = .ok (.dup, 1) := by decide +kernel
theorem dX7_layTriples_50 : decode cX7_layTriples 50 = .ok (.getfield 303, 3) := by decide +kernel
theorem dX7_layTriples_53 : decode cX7_layTriples 53 = .ok (.iconst 1, 1) := by decide +kernel
theorem dX7_layTriples_54 : decode cX7_layTriples 54 = .ok (.iadd, 1) := by decide +kernel
theorem dX7_layTriples_55 : decode cX7_layTriples 55 = .ok (.putfield 303, 3) := by decide +kernel
theorem dX7_layTriples_58 : decode cX7_layTriples 58 = .ok (.iinc 4 1, 3) := by decide +kernel
theorem dX7_layTriples_61 : decode cX7_layTriples 61 = .ok (.goto (-35), 3) := by decide +kernel
theorem dX7_layTriples_64 : decode cX7_layTriples 64 = .ok (.iinc 3 1, 3) := by decide +kernel
theorem dX7_layTriples_67 : decode cX7_layTriples 67 = .ok (.goto (-51), 3) := by decide +kernel
theorem dX7_layTriples_70 : decode cX7_layTriples 70 = .ok (.iinc 2 1, 3) := by decide +kernel
theorem dX7_layTriples_73 : decode cX7_layTriples 73 = .ok (.goto (-66), 3) := by decide +kernel
theorem dX7_layTriples_76 : decode cX7_layTriples 76 = .ok (.return_, 1) := by decide +kernel
theorem dX7_isApart_0 : decode cX7_isApart 0 = .ok (.iload_n 0, 1) := by decide +kernel
theorem dX7_isApart_1 : decode cX7_isApart 1 = .ok (.iload_n 1, 1) := by decide +kernel
theorem dX7_isApart_2 : decode cX7_isApart 2 = .ok (.iand, 1) := by decide +kernel
theorem dX7_isApart_3 : decode cX7_isApart 3 = .ok (.istore_n 2, 1) := by decide +kernel
theorem dX7_isApart_4 : decode cX7_isApart 4 = .ok (.iload_n 2, 1) := by decide +kernel
theorem dX7_isApart_5 : decode cX7_isApart 5 = .ok (.iload_n 2, 1) := by decide +kernel
theorem dX7_isApart_6 : decode cX7_isApart 6 = .ok (.iconst 1, 1) := by decide +kernel
theorem dX7_isApart_7 : decode cX7_isApart 7 = .ok (.isub, 1) := by decide +kernel
theorem dX7_isApart_8 : decode cX7_isApart 8 = .ok (.iand, 1) := by decide +kernel
theorem dX7_isApart_9 : decode cX7_isApart 9 = .ok (.ifCond .ne 7, 3) := by decide +kernel
theorem dX7_isApart_12 : decode cX7_isApart 12 = .ok (.iconst 1, 1) := by decide +kernel
theorem dX7_isApart_13 : decode cX7_isApart 13 = .ok (.goto 4, 3) := by decide +kernel
theorem dX7_isApart_16 : decode cX7_isApart 16 = .ok (.iconst 0, 1) := by decide +kernel
theorem dX7_isApart_17 : decode cX7_isApart 17 = .ok (.ireturn, 1) := by decide +kernel
set_option maxRecDepth 20000 in
theorem ggX7_isGoodSet_X7_isApart : GoodIn wsX7_isGoodSet wsX7_isApart := goodIn_r _ [6] (by decide +kernel) (by decide +kernel)
set_option maxRecDepth 20000 in
theorem gX7_isGoodSet_X7_isApart : GoodIn wsX7_isGoodSet (va_wsS RX7 306 yX7_isApart wsX7_isApart) := goodIn_app (goodIn_of _ (by decide +kernel)) ggX7_isGoodSet_X7_isApart
theorem dX7_isGoodSet_0 : decode cX7_isGoodSet 0 = .ok (.iconst 1, 1) := by decide +kernel
theorem dX7_isGoodSet_1 : decode cX7_isGoodSet 1 = .ok (.istore_n 2, 1) := by decide +kernel
theorem dX7_isGoodSet_2 : decode cX7_isGoodSet 2 = .ok (.iconst 0, 1) := by decide +kernel
theorem dX7_isGoodSet_3 : decode cX7_isGoodSet 3 = .ok (.istore_n 3, 1) := by decide +kernel
theorem dX7_isGoodSet_4 : decode cX7_isGoodSet 4 = .ok (.iload_n 3, 1) := by decide +kernel
theorem dX7_isGoodSet_5 : decode cX7_isGoodSet 5 = .ok (.iload_n 1, 1) := by decide +kernel
theorem dX7_isGoodSet_6 : decode cX7_isGoodSet 6 = .ok (.if_icmp .ge 57, 3) := by decide +kernel
theorem dX7_isGoodSet_9 : decode cX7_isGoodSet 9 = .ok (.iload_n 3, 1) := by decide +kernel
theorem dX7_isGoodSet_10 : decode cX7_isGoodSet 10 = .ok (.iconst 1, 1) := by decide +kernel
theorem dX7_isGoodSet_11 : decode cX7_isGoodSet 11 = .ok (.iadd, 1) := by decide +kernel
theorem dX7_isGoodSet_12 : decode cX7_isGoodSet 12 = .ok (.istore 4, 2) := by decide +kernel
theorem dX7_isGoodSet_14 : decode cX7_isGoodSet 14 = .ok (.iload 4, 2) := by decide +kernel
theorem dX7_isGoodSet_16 : decode cX7_isGoodSet 16 = .ok (.iload_n 1, 1) := by decide +kernel
theorem dX7_isGoodSet_17 : decode cX7_isGoodSet 17 = .ok (.if_icmp .ge 40, 3) := by decide +kernel
theorem dX7_isGoodSet_20 : decode cX7_isGoodSet 20 = .ok (.iload_n 2, 1) := by decide +kernel
theorem dX7_isGoodSet_21 : decode cX7_isGoodSet 21 = .ok (.ifCond .eq 36, 3) := by decide +kernel
theorem dX7_isGoodSet_24 : decode cX7_isGoodSet 24 = .ok (.aload_n 0, 1) := by decide +kernel
theorem dX7_isGoodSet_25 : decode cX7_isGoodSet 25 = .ok (.getfield 113, 3) := by decide +kernel
theorem dX7_isGoodSet_28 : decode cX7_isGoodSet 28 = .ok (.aload_n 0, 1) := by decide +kernel
theorem dX7_isGoodSet_29 : decode cX7_isGoodSet 29 = .ok (.getfield 116, 3) := by decide +kernel
theorem dX7_isGoodSet_32 : decode cX7_isGoodSet 32 = .ok (.iload_n 3, 1) := by decide +kernel
theorem dX7_isGoodSet_33 : decode cX7_isGoodSet 33 = .ok (.iaload, 1) := by decide +kernel
theorem dX7_isGoodSet_34 : decode cX7_isGoodSet 34 = .ok (.iaload, 1) := by decide +kernel
theorem dX7_isGoodSet_35 : decode cX7_isGoodSet 35 = .ok (.aload_n 0, 1) := by decide +kernel
theorem dX7_isGoodSet_36 : decode cX7_isGoodSet 36 = .ok (.getfield 113, 3) := by decide +kernel
theorem dX7_isGoodSet_39 : decode cX7_isGoodSet 39 = .ok (.aload_n 0, 1) := by decide +kernel
theorem dX7_isGoodSet_40 : decode cX7_isGoodSet 40 = .ok (.getfield 116, 3) := by decide +kernel
theorem dX7_isGoodSet_43 : decode cX7_isGoodSet 43 = .ok (.iload 4, 2) := by decide +kernel
theorem dX7_isGoodSet_45 : decode cX7_isGoodSet 45 = .ok (.iaload, 1) := by decide +kernel
theorem dX7_isGoodSet_46 : decode cX7_isGoodSet 46 = .ok (.iaload, 1) := by decide +kernel
theorem dX7_isGoodSet_47 : decode cX7_isGoodSet 47 = .ok (.invokestatic 306, 3) := by decide +kernel
theorem dX7_isGoodSet_50 : decode cX7_isGoodSet 50 = .ok (.istore_n 2, 1) := by decide +kernel
theorem dX7_isGoodSet_51 : decode cX7_isGoodSet 51 = .ok (.iinc 4 1, 3) := by decide +kernel
theorem dX7_isGoodSet_54 : decode cX7_isGoodSet 54 = .ok (.goto (-40), 3) := by decide +kernel
theorem dX7_isGoodSet_57 : decode cX7_isGoodSet 57 = .ok (.iinc 3 1, 3) := by decide +kernel
theorem dX7_isGoodSet_60 : decode cX7_isGoodSet 60 = .ok (.goto (-56), 3) := by decide +kernel
theorem dX7_isGoodSet_63 : decode cX7_isGoodSet 63 = .ok (.iload_n 2, 1) := by decide +kernel
theorem dX7_isGoodSet_64 : decode cX7_isGoodSet 64 = .ok (.ireturn, 1) := by decide +kernel
set_option maxRecDepth 20000 in
theorem ggX7_isLeastSet_X7_sortForm : GoodIn wsX7_isLeastSet wsX7_sortForm := goodIn_r _ [9, 1, 27, 28, 29, 30, 31, 32, 33, 34, 35, 36, 37, 38, 39, 40, 41, 42, 43, 44, 45, 46, 47, 48, 49, 50, 51, 52, 53, 54, 55, 56, 57, 58, 59, 60, 61, 62, 63, 64, 65, 66, 67, 68, 69, 70, 71, 72, 73, 74, 75, 76, 77, 78, 79] (by decide +kernel) (by decide +kernel)
set_option maxRecDepth 20000 in
theorem gX7_isLeastSet_X7_sortForm : GoodIn wsX7_isLeastSet (wsV RX7 280 RX7 yX7_sortForm wsX7_sortForm) := goodIn_app (goodIn_of _ (by decide +kernel)) ggX7_isLeastSet_X7_sortForm
set_option maxRecDepth 20000 in
theorem ggX7_isLeastSet_X7_factorial : GoodIn wsX7_isLeastSet wsX7_factorial := goodIn_r _ [12] (by decide +kernel) (by decide +kernel)
set_option maxRecDepth 20000 in
theorem gX7_isLeastSet_X7_factorial : GoodIn wsX7_isLeastSet (va_wsS RX7 277 yX7_factorial wsX7_factorial) := goodIn_app (goodIn_of _ (by decide +kernel)) ggX7_isLeastSet_X7_factorial
set_option maxRecDepth 20000 in
theorem ggX7_isLeastSet_X7_layNames : GoodIn wsX7_isLeastSet wsX7_layNames := goodIn_r _ [16, 17, 18, 10, 11, 8, 12, 27, 28, 29, 30, 31, 32, 33, 34, 35, 36, 37, 38, 39, 40, 41, 42, 43, 44, 45, 46, 47, 48, 49, 50, 51, 52, 53, 54, 55, 56, 57, 58, 59, 60, 61, 62, 63, 64, 65, 66, 67, 68, 69, 70, 71, 72, 73, 74, 75, 76, 77, 78, 79] (by decide +kernel) (by decide +kernel)
set_option maxRecDepth 20000 in
theorem gX7_isLeastSet_X7_layNames : GoodIn wsX7_isLeastSet (wsV RX7 283 RX7 yX7_layNames wsX7_layNames) := goodIn_app (goodIn_of _ (by decide +kernel)) ggX7_isLeastSet_X7_layNames
set_option maxRecDepth 20000 in
theorem ggX7_isLeastSet_X7_renamed : GoodIn wsX7_isLeastSet wsX7_renamed := goodIn_r _ [22, 18, 27, 28, 29, 30, 31, 32, 33, 34, 35, 36, 37, 38, 39, 40, 41, 42, 43, 44, 45, 46, 47, 48, 49, 50, 51, 52, 53, 54, 55, 56, 57, 58, 59, 60, 61, 62, 63, 64, 65, 66, 67, 68, 69, 70, 71, 72, 73, 74, 75, 76, 77, 78, 79] (by decide +kernel) (by decide +kernel)
set_option maxRecDepth 20000 in
theorem gX7_isLeastSet_X7_renamed : GoodIn wsX7_isLeastSet (wsV RX7 287 RX7 yX7_renamed wsX7_renamed) := goodIn_app (goodIn_of _ (by decide +kernel)) ggX7_isLeastSet_X7_renamed
set_option maxRecDepth 20000 in
theorem ggX7_isLeastSet_X7_compareForm : GoodIn wsX7_isLeastSet wsX7_compareForm := goodIn_r _ [26, 1, 27, 28, 29, 30, 31, 32, 33, 34, 35, 36, 37, 38, 39, 40, 41, 42, 43, 44, 45, 46, 47, 48, 49, 50, 51, 52, 53, 54, 55, 56, 57, 58, 59, 60, 61, 62, 63, 64, 65, 66, 67, 68, 69, 70, 71, 72, 73, 74, 75, 76, 77, 78, 79] (by decide +kernel) (by decide +kernel)
set_option maxRecDepth 20000 in
theorem gX7_isLeastSet_X7_compareForm : GoodIn wsX7_isLeastSet (wsV RX7 290 RX7 yX7_compareForm wsX7_compareForm) := goodIn_app (goodIn_of _ (by decide +kernel)) ggX7_isLeastSet_X7_compareForm
theorem dX7_isLeastSet_0 : decode cX7_isLeastSet 0 = .ok (.iconst 0, 1) := by decide +kernel
theorem dX7_isLeastSet_1 : decode cX7_isLeastSet 1 = .ok (.istore_n 3, 1) := by decide +kernel
theorem dX7_isLeastSet_2 : decode cX7_isLeastSet 2 = .ok (.iload_n 3, 1) := by decide +kernel
theorem dX7_isLeastSet_3 : decode cX7_isLeastSet 3 = .ok (.iload_n 2, 1) := by decide +kernel
theorem dX7_isLeastSet_4 : decode cX7_isLeastSet 4 = .ok (.if_icmp .ge 26, 3) := by decide +kernel
theorem dX7_isLeastSet_7 : decode cX7_isLeastSet 7 = .ok (.aload_n 0, 1) := by decide +kernel
theorem dX7_isLeastSet_8 : decode cX7_isLeastSet 8 = .ok (.getfield 98, 3) := by decide +kernel
theorem dX7_isLeastSet_11 : decode cX7_isLeastSet 11 = .ok (.iload_n 3, 1) := by decide +kernel
theorem dX7_isLeastSet_12 : decode cX7_isLeastSet 12 = .ok (.aload_n 0, 1) := by decide +kernel
theorem dX7_isLeastSet_13 : decode cX7_isLeastSet 13 = .ok (.getfield 113, 3) := by decide +kernel
theorem dX7_isLeastSet_16 : decode cX7_isLeastSet 16 = .ok (.aload_n 0, 1) := by decide +kernel
theorem dX7_isLeastSet_17 : decode cX7_isLeastSet 17 = .ok (.getfield 116, 3) := by decide +kernel
theorem dX7_isLeastSet_20 : decode cX7_isLeastSet 20 = .ok (.iload_n 3, 1) := by decide +kernel
theorem dX7_isLeastSet_21 : decode cX7_isLeastSet 21 = .ok (.iaload, 1) := by decide +kernel
theorem dX7_isLeastSet_22 : decode cX7_isLeastSet 22 = .ok (.iaload, 1) := by decide +kernel
theorem dX7_isLeastSet_23 : decode cX7_isLeastSet 23 = .ok (.iastore, 1) := by decide +kernel
theorem dX7_isLeastSet_24 : decode cX7_isLeastSet 24 = .ok (.iinc 3 1, 3) := by decide +kernel
theorem dX7_isLeastSet_27 : decode cX7_isLeastSet 27 = .ok (.goto (-25), 3) := by decide +kernel
theorem dX7_isLeastSet_30 : decode cX7_isLeastSet 30 = .ok (.aload_n 0, 1) := by decide +kernel
theorem dX7_isLeastSet_31 : decode cX7_isLeastSet 31 = .ok (.iload_n 2, 1) := by decide +kernel
theorem dX7_isLeastSet_32 : decode cX7_isLeastSet 32 = .ok (.invokevirtual 280, 3) := by decide +kernel
theorem dX7_isLeastSet_35 : decode cX7_isLeastSet 35 = .ok (.iconst 0, 1) := by decide +kernel
theorem dX7_isLeastSet_36 : decode cX7_isLeastSet 36 = .ok (.istore_n 3, 1) := by decide +kernel
theorem dX7_isLeastSet_37 : decode cX7_isLeastSet 37 = .ok (.iload_n 3, 1) := by decide +kernel
theorem dX7_isLeastSet_38 : decode cX7_isLeastSet 38 = .ok (.iload_n 2, 1) := by decide +kernel
theorem dX7_isLeastSet_39 : decode cX7_isLeastSet 39 = .ok (.if_icmp .ge 21, 3) := by decide +kernel
theorem dX7_isLeastSet_42 : decode cX7_isLeastSet 42 = .ok (.aload_n 0, 1) := by decide +kernel
theorem dX7_isLeastSet_43 : decode cX7_isLeastSet 43 = .ok (.getfield 104, 3) := by decide +kernel
theorem dX7_isLeastSet_46 : decode cX7_isLeastSet 46 = .ok (.iload_n 3, 1) := by decide +kernel
theorem dX7_isLeastSet_47 : decode cX7_isLeastSet 47 = .ok (.aload_n 0, 1) := by decide +kernel
theorem dX7_isLeastSet_48 : decode cX7_isLeastSet 48 = .ok (.getfield 98, 3) := by decide +kernel
theorem dX7_isLeastSet_51 : decode cX7_isLeastSet 51 = .ok (.iload_n 3, 1) := by decide +kernel
theorem dX7_isLeastSet_52 : decode cX7_isLeastSet 52 = .ok (.iaload, 1) := by decide +kernel
theorem dX7_isLeastSet_53 : decode cX7_isLeastSet 53 = .ok (.iastore, 1) := by decide +kernel
theorem dX7_isLeastSet_54 : decode cX7_isLeastSet 54 = .ok (.iinc 3 1, 3) := by decide +kernel
theorem dX7_isLeastSet_57 : decode cX7_isLeastSet 57 = .ok (.goto (-20), 3) := by decide +kernel
theorem dX7_isLeastSet_60 : decode cX7_isLeastSet 60 = .ok (.iconst 1, 1) := by decide +kernel
theorem dX7_isLeastSet_61 : decode cX7_isLeastSet 61 = .ok (.istore_n 3, 1) := by decide +kernel
theorem dX7_isLeastSet_62 : decode cX7_isLeastSet 62 = .ok (.iconst 0, 1) := by decide +kernel
theorem dX7_isLeastSet_63 : decode cX7_isLeastSet 63 = .ok (.istore 4, 2) := by decide +kernel
theorem dX7_isLeastSet_65 : decode cX7_isLeastSet 65 = .ok (.iload 4, 2) := by decide +kernel
theorem dX7_isLeastSet_67 : decode cX7_isLeastSet 67 = .ok (.iload_n 1, 1) := by decide +kernel
theorem dX7_isLeastSet_68 : decode cX7_isLeastSet 68 = .ok (.invokestatic 277, 3) := by decide +kernel
theorem dX7_isLeastSet_71 : decode cX7_isLeastSet 71 = .ok (.if_icmp .ge 77, 3) := by decide +kernel
theorem dX7_isLeastSet_74 : decode cX7_isLeastSet 74 = .ok (.iload_n 3, 1) := by decide +kernel
theorem dX7_isLeastSet_75 : decode cX7_isLeastSet 75 = .ok (.ifCond .eq 73, 3) := by decide +kernel
theorem dX7_isLeastSet_78 : decode cX7_isLeastSet 78 = .ok (.aload_n 0, 1) := by decide +kernel
theorem dX7_isLeastSet_79 : decode cX7_isLeastSet 79 = .ok (.iload_n 1, 1) := by decide +kernel
theorem dX7_isLeastSet_80 : decode cX7_isLeastSet 80 = .ok (.iload 4, 2) := by decide +kernel
theorem dX7_isLeastSet_82 : decode cX7_isLeastSet 82 = .ok (.invokevirtual 283, 3) := by decide +kernel
theorem dX7_isLeastSet_85 : decode cX7_isLeastSet 85 = .ok (.iconst 0, 1) := by decide +kernel
theorem dX7_isLeastSet_86 : decode cX7_isLeastSet 86 = .ok (.istore 5, 2) := by decide +kernel
theorem dX7_isLeastSet_88 : decode cX7_isLeastSet 88 = .ok (.iload 5, 2) := by decide +kernel
theorem dX7_isLeastSet_90 : decode cX7_isLeastSet 90 = .ok (.iload_n 2, 1) := by decide +kernel
theorem dX7_isLeastSet_91 : decode cX7_isLeastSet 91 = .ok (.if_icmp .ge 28, 3) := by decide +kernel
theorem dX7_isLeastSet_94 : decode cX7_isLeastSet 94 = .ok (.aload_n 0, 1) := by decide +kernel
theorem dX7_isLeastSet_95 : decode cX7_isLeastSet 95 = .ok (.getfield 98, 3) := by decide +kernel
theorem dX7_isLeastSet_98 : decode cX7_isLeastSet 98 = .ok (.iload 5, 2) := by decide +kernel
theorem dX7_isLeastSet_100 : decode cX7_isLeastSet 100 = .ok (.aload_n 0, 1) := by decide +kernel
theorem dX7_isLeastSet_101 : decode cX7_isLeastSet 101 = .ok (.aload_n 0, 1) := by decide +kernel
theorem dX7_isLeastSet_102 : decode cX7_isLeastSet 102 = .ok (.getfield 104, 3) := by decide +kernel
theorem dX7_isLeastSet_105 : decode cX7_isLeastSet 105 = .ok (.iload 5, 2) := by decide +kernel
theorem dX7_isLeastSet_107 : decode cX7_isLeastSet 107 = .ok (.iaload, 1) := by decide +kernel
theorem dX7_isLeastSet_108 : decode cX7_isLeastSet 108 = .ok (.iload_n 1, 1) := by decide +kernel
theorem dX7_isLeastSet_109 : decode cX7_isLeastSet 109 = .ok (.invokevirtual 287, 3) := by decide +kernel
theorem dX7_isLeastSet_112 : decode cX7_isLeastSet 112 = .ok (.iastore, 1) := by decide +kernel
theorem dX7_isLeastSet_113 : decode cX7_isLeastSet 113 = .ok (.iinc 5 1, 3) := by decide +kernel
theorem dX7_isLeastSet_116 : decode cX7_isLeastSet 116 = .ok (.goto (-28), 3) := by decide +kernel
theorem dX7_isLeastSet_119 : decode cX7_isLeastSet 119 = .ok (.aload_n 0, 1) := by decide +kernel
theorem dX7_isLeastSet_120 : decode cX7_isLeastSet 120 = .ok (.iload_n 2, 1) := by decide +kernel
theorem dX7_isLeastSet_121 : decode cX7_isLeastSet 121 = .ok (.invokevirtual 280, 3) := by decide +kernel
theorem dX7_isLeastSet_124 : decode cX7_isLeastSet 124 = .ok (.aload_n 0, 1) := by decide +kernel
theorem dX7_isLeastSet_125 : decode cX7_isLeastSet 125 = .ok (.aload_n 0, 1) := by decide +kernel
theorem dX7_isLeastSet_126 : decode cX7_isLeastSet 126 = .ok (.getfield 104, 3) := by decide +kernel
theorem dX7_isLeastSet_129 : decode cX7_isLeastSet 129 = .ok (.iload_n 2, 1) := by decide +kernel
theorem dX7_isLeastSet_130 : decode cX7_isLeastSet 130 = .ok (.invokevirtual 290, 3) := by decide +kernel
theorem dX7_isLeastSet_133 : decode cX7_isLeastSet 133 = .ok (.ifCond .lt 7, 3) := by decide +kernel
theorem dX7_isLeastSet_136 : decode cX7_isLeastSet 136 = .ok (.iconst 1, 1) := by decide +kernel
theorem dX7_isLeastSet_137 : decode cX7_isLeastSet 137 = .ok (.goto 4, 3) := by decide +kernel
theorem dX7_isLeastSet_140 : decode cX7_isLeastSet 140 = .ok (.iconst 0, 1) := by decide +kernel
theorem dX7_isLeastSet_141 : decode cX7_isLeastSet 141 = .ok (.istore_n 3, 1) := by decide +kernel
theorem dX7_isLeastSet_142 : decode cX7_isLeastSet 142 = .ok (.iinc 4 1, 3) := by decide +kernel
theorem dX7_isLeastSet_145 : decode cX7_isLeastSet 145 = .ok (.goto (-80), 3) := by decide +kernel
theorem dX7_isLeastSet_148 : decode cX7_isLeastSet 148 = .ok (.iload_n 3, 1) := by decide +kernel
theorem dX7_isLeastSet_149 : decode cX7_isLeastSet 149 = .ok (.ireturn, 1) := by decide +kernel
theorem dX7_nextSet_0 : decode cX7_nextSet 0 = .ok (.iload_n 1, 1) := by decide +kernel
theorem dX7_nextSet_1 : decode cX7_nextSet 1 = .ok (.iconst 1, 1) := by decide +kernel
theorem dX7_nextSet_2 : decode cX7_nextSet 2 = .ok (.isub, 1) := by decide +kernel
theorem dX7_nextSet_3 : decode cX7_nextSet 3 = .ok (.istore_n 2, 1) := by decide +kernel
theorem dX7_nextSet_4 : decode cX7_nextSet 4 = .ok (.iload_n 2, 1) := by decide +kernel
theorem dX7_nextSet_5 : decode cX7_nextSet 5 = .ok (.ifCond .lt 26, 3) := by decide +kernel
theorem dX7_nextSet_8 : decode cX7_nextSet 8 = .ok (.aload_n 0, 1) := by decide +kernel
theorem dX7_nextSet_9 : decode cX7_nextSet 9 = .ok (.getfield 116, 3) := by decide +kernel
theorem dX7_nextSet_12 : decode cX7_nextSet 12 = .ok (.iload_n 2, 1) := by decide +kernel
theorem dX7_nextSet_13 : decode cX7_nextSet 13 = .ok (.iaload, 1) := by decide +kernel
theorem dX7_nextSet_14 : decode cX7_nextSet 14 = .ok (.aload_n 0, 1) := by decide +kernel
theorem dX7_nextSet_15 : decode cX7_nextSet 15 = .ok (.getfield 303, 3) := by decide +kernel
theorem dX7_nextSet_18 : decode cX7_nextSet 18 = .ok (.iload_n 1, 1) := by decide +kernel
theorem dX7_nextSet_19 : decode cX7_nextSet 19 = .ok (.isub, 1) := by decide +kernel
theorem dX7_nextSet_20 : decode cX7_nextSet 20 = .ok (.iload_n 2, 1) := by decide +kernel
theorem dX7_nextSet_21 : decode cX7_nextSet 21 = .ok (.iadd, 1) := by decide +kernel
theorem dX7_nextSet_22 : decode cX7_nextSet 22 = .ok (.if_icmp .ne 9, 3) := by decide +kernel
theorem dX7_nextSet_25 : decode cX7_nextSet 25 = .ok (.iinc 2 (-1), 3) := by decide +kernel
theorem dX7_nextSet_28 : decode cX7_nextSet 28 = .ok (.goto (-24), 3) := by decide +kernel
theorem dX7_nextSet_31 : decode cX7_nextSet 31 = .ok (.iload_n 2, 1) := by decide +kernel
theorem dX7_nextSet_32 : decode cX7_nextSet 32 = .ok (.ifCond .ge 5, 3) := by decide +kernel
theorem dX7_nextSet_35 : decode cX7_nextSet 35 = .ok (.iconst 0, 1) := by decide +kernel
theorem dX7_nextSet_36 : decode cX7_nextSet 36 = .ok (.ireturn, 1) := by decide +kernel
theorem dX7_nextSet_37 : decode cX7_nextSet 37 = .ok (.aload_n 0, 1) := by decide +kernel
theorem dX7_nextSet_38 : decode cX7_nextSet 38 = .ok (.getfield 116, 3) := by decide +kernel
theorem dX7_nextSet_41 : decode cX7_nextSet 41 = .ok (.iload_n 2, 1) := by decide +kernel
theorem dX7_nextSet_42 : decode cX7_nextSet 42 = .ok (.dup2, 1) := by decide +kernel
theorem dX7_nextSet_43 : decode cX7_nextSet 43 = .ok (.iaload, 1) := by decide +kernel
theorem dX7_nextSet_44 : decode cX7_nextSet 44 = .ok (.iconst 1, 1) := by decide +kernel
theorem dX7_nextSet_45 : decode cX7_nextSet 45 = .ok (.iadd, 1) := by decide +kernel
theorem dX7_nextSet_46 : decode cX7_nextSet 46 = .ok (.iastore, 1) := by decide +kernel
theorem dX7_nextSet_47 : decode cX7_nextSet 47 = .ok (.iload_n 2, 1) := by decide +kernel
theorem dX7_nextSet_48 : decode cX7_nextSet 48 = .ok (.iconst 1, 1) := by decide +kernel
theorem dX7_nextSet_49 : decode cX7_nextSet 49 = .ok (.iadd, 1) := by decide +kernel
theorem dX7_nextSet_50 : decode cX7_nextSet 50 = .ok (.istore_n 3, 1) := by decide +kernel
theorem dX7_nextSet_51 : decode cX7_nextSet 51 = .ok (.iload_n 3, 1) := by decide +kernel
theorem dX7_nextSet_52 : decode cX7_nextSet 52 = .ok (.iload_n 1, 1) := by decide +kernel
theorem dX7_nextSet_53 : decode cX7_nextSet 53 = .ok (.if_icmp .ge 25, 3) := by decide +kernel
theorem dX7_nextSet_56 : decode cX7_nextSet 56 = .ok (.aload_n 0, 1) := by decide +kernel
theorem dX7_nextSet_57 : decode cX7_nextSet 57 = .ok (.getfield 116, 3) := by decide +kernel
theorem dX7_nextSet_60 : decode cX7_nextSet 60 = .ok (.iload_n 3, 1) := by decide +kernel
theorem dX7_nextSet_61 : decode cX7_nextSet 61 = .ok (.aload_n 0, 1) := by decide +kernel
theorem dX7_nextSet_62 : decode cX7_nextSet 62 = .ok (.getfield 116, 3) := by decide +kernel
theorem dX7_nextSet_65 : decode cX7_nextSet 65 = .ok (.iload_n 3, 1) := by decide +kernel
theorem dX7_nextSet_66 : decode cX7_nextSet 66 = .ok (.iconst 1, 1) := by decide +kernel
theorem dX7_nextSet_67 : decode cX7_nextSet 67 = .ok (.isub, 1) := by decide +kernel
theorem dX7_nextSet_68 : decode cX7_nextSet 68 = .ok (.iaload, 1) := by decide +kernel
theorem dX7_nextSet_69 : decode cX7_nextSet 69 = .ok (.iconst 1, 1) := by decide +kernel
theorem dX7_nextSet_70 : decode cX7_nextSet 70 = .ok (.iadd, 1) := by decide +kernel
theorem dX7_nextSet_71 : decode cX7_nextSet 71 = .ok (.iastore, 1) := by decide +kernel
theorem dX7_nextSet_72 : decode cX7_nextSet 72 = .ok (.iinc 3 1, 3) := by decide +kernel
theorem dX7_nextSet_75 : decode cX7_nextSet 75 = .ok (.goto (-24), 3) := by decide +kernel
theorem dX7_nextSet_78 : decode cX7_nextSet 78 = .ok (.iconst 1, 1) := by decide +kernel
theorem dX7_nextSet_79 : decode cX7_nextSet 79 = .ok (.ireturn, 1) := by decide +kernel
set_option maxRecDepth 20000 in
theorem ggX7_kinds_X7_isIn : GoodIn wsX7_kinds wsX7_isIn := goodIn_r _ [9] (by decide +kernel) (by decide +kernel)
set_option maxRecDepth 20000 in
theorem gX7_kinds_X7_isIn : GoodIn wsX7_kinds (va_wsS RX7 125 yX7_isIn wsX7_isIn) := goodIn_app (goodIn_of _ (by decide +kernel)) ggX7_kinds_X7_isIn
set_option maxRecDepth 20000 in
theorem ggX7_kinds_X7_layTriples : GoodIn wsX7_kinds wsX7_layTriples := goodIn_r _ [13, 3, 14, 15, 16, 8, 17, 56, 57, 58, 59, 60, 61, 62, 63, 64, 65, 66, 67, 68, 69, 70, 71, 72, 73, 74, 75, 76, 77, 78, 79, 80, 81, 82, 83, 84, 85, 86, 87, 88, 89, 90, 91, 92, 93, 94, 95, 96, 97, 98, 99, 100, 101, 102, 103, 104, 105, 106, 107, 108] (by decide +kernel) (by decide +kernel)
set_option maxRecDepth 20000 in
theorem gX7_kinds_X7_layTriples : GoodIn wsX7_kinds (wsV RX7 309 RX7 yX7_layTriples wsX7_layTriples) := goodIn_app (goodIn_of _ (by decide +kernel)) ggX7_kinds_X7_layTriples
set_option maxRecDepth 20000 in
theorem ggX7_kinds_X7_isGoodSet : GoodIn wsX7_kinds wsX7_isGoodSet := goodIn_r _ [21, 14, 4, 22, 23, 8, 24, 56, 57, 58, 59, 60, 61, 62, 63, 64, 65, 66, 67, 68, 69, 70, 71, 72, 73, 74, 75, 76, 77, 78, 79, 80, 81, 82, 83, 84, 85, 86, 87, 88, 89, 90, 91, 92, 93, 94, 95, 96, 97, 98, 99, 100, 101, 102, 103, 104, 105, 106, 107, 108] (by decide +kernel) (by decide +kernel)
set_option maxRecDepth 20000 in
theorem gX7_kinds_X7_isGoodSet : GoodIn wsX7_kinds (wsV RX7 312 RX7 yX7_isGoodSet wsX7_isGoodSet) := goodIn_app (goodIn_of _ (by decide +kernel)) ggX7_kinds_X7_isGoodSet
set_option maxRecDepth 20000 in
theorem ggX7_kinds_X7_isLeastSet : GoodIn wsX7_kinds wsX7_isLeastSet := goodIn_r _ [28, 29, 14, 4, 30, 31, 32, 33, 8, 34, 35, 36, 37, 38, 39, 40, 41, 42, 43, 44, 45, 46, 47, 48, 49, 50, 51, 56, 57, 58, 59, 60, 61, 62, 63, 64, 65, 66, 67, 68, 69, 70, 71, 72, 73, 74, 75, 76, 77, 78, 79, 80, 81, 82, 83, 84, 85, 86, 87, 88, 89, 90, 91, 92, 93, 94, 95, 96, 97, 98, 99, 100, 101, 102, 103, 104, 105, 106, 107, 108] (by decide +kernel) (by decide +kernel)
set_option maxRecDepth 20000 in
theorem gX7_kinds_X7_isLeastSet : GoodIn wsX7_kinds (wsV RX7 315 RX7 yX7_isLeastSet wsX7_isLeastSet) := goodIn_app (goodIn_of _ (by decide +kernel)) ggX7_kinds_X7_isLeastSet
set_option maxRecDepth 20000 in
theorem ggX7_kinds_X7_nextSet : GoodIn wsX7_kinds wsX7_nextSet := goodIn_r _ [55, 4, 3, 56, 57, 58, 59, 60, 61, 62, 63, 64, 65, 66, 67, 68, 69, 70, 71, 72, 73, 74, 75, 76, 77, 78, 79, 80, 81, 82, 83, 84, 85, 86, 87, 88, 89, 90, 91, 92, 93, 94, 95, 96, 97, 98, 99, 100, 101, 102, 103, 104, 105, 106, 107, 108] (by decide +kernel) (by decide +kernel)
set_option maxRecDepth 20000 in
theorem gX7_kinds_X7_nextSet : GoodIn wsX7_kinds (wsV RX7 318 RX7 yX7_nextSet wsX7_nextSet) := goodIn_app (goodIn_of _ (by decide +kernel)) ggX7_kinds_X7_nextSet
theorem dX7_kinds_0 : decode cX7_kinds 0 = .ok (.aload_n 0, 1) := by decide +kernel
theorem dX7_kinds_1 : decode cX7_kinds 1 = .ok (.iconst 0, 1) := by decide +kernel
theorem dX7_kinds_2 : decode cX7_kinds 2 = .ok (.putfield 122, 3) := by decide +kernel
theorem dX7_kinds_5 : decode cX7_kinds 5 = .ok (.iload_n 1, 1) := by decide +kernel
theorem dX7_kinds_6 : decode cX7_kinds 6 = .ok (.iconst 3, 1) := by decide +kernel
theorem dX7_kinds_7 : decode cX7_kinds 7 = .ok (.bipush 6, 2) := by decide +kernel
theorem dX7_kinds_9 : decode cX7_kinds 9 = .ok (.invokestatic 125, 3) := by decide +kernel
theorem dX7_kinds_12 : decode cX7_kinds 12 = .ok (.ifCond .eq 12, 3) := by decide +kernel
theorem dX7_kinds_15 : decode cX7_kinds 15 = .ok (.iload_n 2, 1) := by decide +kernel
theorem dX7_kinds_16 : decode cX7_kinds 16 = .ok (.iconst 0, 1) := by decide +kernel
theorem dX7_kinds_17 : decode cX7_kinds 17 = .ok (.iconst 4, 1) := by decide +kernel
theorem dX7_kinds_18 : decode cX7_kinds 18 = .ok (.invokestatic 125, 3) := by decide +kernel
theorem dX7_kinds_21 : decode cX7_kinds 21 = .ok (.ifCond .ne 6, 3) := by decide +kernel
theorem dX7_kinds_24 : decode cX7_kinds 24 = .ok (.bipush (-9), 2) := by decide +kernel
theorem dX7_kinds_26 : decode cX7_kinds 26 = .ok (.ireturn, 1) := by decide +kernel
theorem dX7_kinds_27 : decode cX7_kinds 27 = .ok (.iconst 5, 1) := by decide +kernel
theorem dX7_kinds_28 : decode cX7_kinds 28 = .ok (.iload_n 1, 1) := by decide +kernel
theorem dX7_kinds_29 : decode cX7_kinds 29 = .ok (.imul, 1) := by decide +kernel
theorem dX7_kinds_30 : decode cX7_kinds 30 = .ok (.iload_n 2, 1) := by decide +kernel
theorem dX7_kinds_31 : decode cX7_kinds 31 = .ok (.iadd, 1) := by decide +kernel
theorem dX7_kinds_32 : decode cX7_kinds 32 = .ok (.istore_n 3, 1) := by decide +kernel
theorem dX7_kinds_33 : decode cX7_kinds 33 = .ok (.aload_n 0, 1) := by decide +kernel
theorem dX7_kinds_34 : decode cX7_kinds 34 = .ok (.getfield 110, 3) := by decide +kernel
theorem dX7_kinds_37 : decode cX7_kinds 37 = .ok (.iload_n 3, 1) := by decide +kernel
theorem dX7_kinds_38 : decode cX7_kinds 38 = .ok (.iaload, 1) := by decide +kernel
theorem dX7_kinds_39 : decode cX7_kinds 39 = .ok (.ifCond .ne 107, 3) := by decide +kernel
theorem dX7_kinds_42 : decode cX7_kinds 42 = .ok (.aload_n 0, 1) := by decide +kernel
theorem dX7_kinds_43 : decode cX7_kinds 43 = .ok (.iload_n 1, 1) := by decide +kernel
theorem dX7_kinds_44 : decode cX7_kinds 44 = .ok (.invokevirtual 309, 3) := by decide +kernel
theorem dX7_kinds_47 : decode cX7_kinds 47 = .ok (.iconst 0, 1) := by decide +kernel
theorem dX7_kinds_48 : decode cX7_kinds 48 = .ok (.istore 4, 2) := by decide +kernel
theorem dX7_kinds_50 : decode cX7_kinds 50 = .ok (.iload_n 2, 1) := by decide +kernel
theorem dX7_kinds_51 : decode cX7_kinds 51 = .ok (.aload_n 0, 1) := by decide +kernel
theorem dX7_kinds_52 : decode cX7_kinds 52 = .ok (.getfield 303, 3) := by decide +kernel
theorem dX7_kinds_55 : decode cX7_kinds 55 = .ok (.if_icmp .gt 7, 3) := by decide +kernel
theorem dX7_kinds_58 : decode cX7_kinds 58 = .ok (.iconst 1, 1) := by decide +kernel
theorem dX7_kinds_59 : decode cX7_kinds 59 = .ok (.goto 4, 3) := by decide +kernel
theorem dX7_kinds_62 : decode cX7_kinds 62 = .ok (.iconst 0, 1) := by decide +kernel
theorem dX7_kinds_63 : decode cX7_kinds 63 = .ok (.istore 5, 2) := by decide +kernel
theorem dX7_kinds_65 : decode cX7_kinds 65 = .ok (.iconst 0, 1) := by decide +kernel
theorem dX7_kinds_66 : decode cX7_kinds 66 = .ok (.istore 6, 2) := by decide +kernel
theorem dX7_kinds_68 : decode cX7_kinds 68 = .ok (.iload 6, 2) := by decide +kernel
theorem dX7_kinds_70 : decode cX7_kinds 70 = .ok (.iload_n 2, 1) := by decide +kernel
theorem dX7_kinds_71 : decode cX7_kinds 71 = .ok (.if_icmp .ge 18, 3) := by decide +kernel
theorem dX7_kinds_74 : decode cX7_kinds 74 = .ok (.aload_n 0, 1) := by decide +kernel
theorem dX7_kinds_75 : decode cX7_kinds 75 = .ok (.getfield 116, 3) := by decide +kernel
theorem dX7_kinds_78 : decode cX7_kinds 78 = .ok (.iload 6, 2) := by decide +kernel
theorem dX7_kinds_80 : decode cX7_kinds 80 = .ok (.iload 6, 2) := by decide +kernel
theorem dX7_kinds_82 : decode cX7_kinds 82 = .ok (.iastore, 1) := by decide +kernel
theorem dX7_kinds_83 : decode cX7_kinds 83 = .ok (.iinc 6 1, 3) := by decide +kernel
theorem dX7_kinds_86 : decode cX7_kinds 86 = .ok (.goto (-18), 3) := by decide +kernel
theorem dX7_kinds_89 : decode cX7_kinds 89 = .ok (.iload 5, 2) := by decide +kernel
theorem dX7_kinds_91 : decode cX7_kinds 91 = .ok (.ifCond .eq 40, 3) := by decide +kernel
theorem dX7_kinds_94 : decode cX7_kinds 94 = .ok (.iload 4, 2) := by decide +kernel
theorem dX7_kinds_96 : decode cX7_kinds 96 = .ok (.aload_n 0, 1) := by decide +kernel
theorem dX7_kinds_97 : decode cX7_kinds 97 = .ok (.iload_n 2, 1) := by decide +kernel
theorem dX7_kinds_98 : decode cX7_kinds 98 = .ok (.invokevirtual 312, 3) := by decide +kernel
theorem dX7_kinds_101 : decode cX7_kinds 101 = .ok (.ifCond .eq 16, 3) := by decide +kernel
theorem dX7_kinds_104 : decode cX7_kinds 104 = .ok (.aload_n 0, 1) := by decide +kernel
theorem dX7_kinds_105 : decode cX7_kinds 105 = .ok (.iload_n 1, 1) := by decide +kernel
theorem dX7_kinds_106 : decode cX7_kinds 106 = .ok (.iload_n 2, 1) := by decide +kernel
theorem dX7_kinds_107 : decode cX7_kinds 107 = .ok (.invokevirtual 315, 3) := by decide +kernel
theorem dX7_kinds_110 : decode cX7_kinds 110 = .ok (.ifCond .eq 7, 3) := by decide +kernel
theorem dX7_kinds_113 : decode cX7_kinds 113 = .ok (.iconst 1, 1) := by decide +kernel
theorem dX7_kinds_114 : decode cX7_kinds 114 = .ok (.goto 4, 3) := by decide +kernel
theorem dX7_kinds_117 : decode cX7_kinds 117 = .ok (.iconst 0, 1) := by decide +kernel
theorem dX7_kinds_118 : decode cX7_kinds 118 = .ok (.iadd, 1) := by decide +kernel
theorem dX7_kinds_119 : decode cX7_kinds 119 = .ok (.istore 4, 2) := by decide +kernel
theorem dX7_kinds_121 : decode cX7_kinds 121 = .ok (.aload_n 0, 1) := by decide +kernel
theorem dX7_kinds_122 : decode cX7_kinds 122 = .ok (.iload_n 2, 1) := by decide +kernel
theorem dX7_kinds_123 : decode cX7_kinds 123 = .ok (.invokevirtual 318, 3) := by decide +kernel
theorem dX7_kinds_126 : decode cX7_kinds 126 = .ok (.istore 5, 2) := by decide +kernel
theorem dX7_kinds_128 : decode cX7_kinds 128 = .ok (.goto (-39), 3) := by decide +kernel
theorem dX7_kinds_131 : decode cX7_kinds 131 = .ok (.aload_n 0, 1) := by decide +kernel
theorem dX7_kinds_132 : decode cX7_kinds 132 = .ok (.getfield 110, 3) := by decide +kernel
theorem dX7_kinds_135 : decode cX7_kinds 135 = .ok (.iload_n 3, 1) := by decide +kernel
theorem dX7_kinds_136 : decode cX7_kinds 136 = .ok (.iload 4, 2) := by decide +kernel
theorem dX7_kinds_138 : decode cX7_kinds 138 = .ok (.iconst 1, 1) := by decide +kernel
theorem dX7_kinds_139 : decode cX7_kinds 139 = .ok (.iadd, 1) := by decide +kernel
theorem dX7_kinds_140 : decode cX7_kinds 140 = .ok (.iastore, 1) := by decide +kernel
theorem dX7_kinds_141 : decode cX7_kinds 141 = .ok (.aload_n 0, 1) := by decide +kernel
theorem dX7_kinds_142 : decode cX7_kinds 142 = .ok (.iconst 0, 1) := by decide +kernel
theorem dX7_kinds_143 : decode cX7_kinds 143 = .ok (.putfield 162, 3) := by decide +kernel
theorem dX7_kinds_146 : decode cX7_kinds 146 = .ok (.aload_n 0, 1) := by decide +kernel
theorem dX7_kinds_147 : decode cX7_kinds 147 = .ok (.getfield 110, 3) := by decide +kernel
theorem dX7_kinds_150 : decode cX7_kinds 150 = .ok (.iload_n 3, 1) := by decide +kernel
theorem dX7_kinds_151 : decode cX7_kinds 151 = .ok (.iaload, 1) := by decide +kernel
theorem dX7_kinds_152 : decode cX7_kinds 152 = .ok (.iconst 1, 1) := by decide +kernel
theorem dX7_kinds_153 : decode cX7_kinds 153 = .ok (.isub, 1) := by decide +kernel
theorem dX7_kinds_154 : decode cX7_kinds 154 = .ok (.ireturn, 1) := by decide +kernel
theorem dJ6_compare_7cf53_0 : decode cJ6_compare_7cf53 0 = .ok (.iload_n 0, 1) := by decide +kernel
theorem dJ6_compare_7cf53_1 : decode cJ6_compare_7cf53 1 = .ok (.iload_n 1, 1) := by decide +kernel
theorem dJ6_compare_7cf53_2 : decode cJ6_compare_7cf53 2 = .ok (.if_icmp .ge 7, 3) := by decide +kernel
theorem dJ6_compare_7cf53_5 : decode cJ6_compare_7cf53 5 = .ok (.iconst (-1), 1) := by decide +kernel
theorem dJ6_compare_7cf53_6 : decode cJ6_compare_7cf53 6 = .ok (.goto 13, 3) := by decide +kernel
theorem dJ6_compare_7cf53_9 : decode cJ6_compare_7cf53 9 = .ok (.iload_n 0, 1) := by decide +kernel
theorem dJ6_compare_7cf53_10 : decode cJ6_compare_7cf53 10 = .ok (.iload_n 1, 1) := by decide +kernel
theorem dJ6_compare_7cf53_11 : decode cJ6_compare_7cf53 11 = .ok (.if_icmp .ne 7, 3) := by decide +kernel
theorem dJ6_compare_7cf53_14 : decode cJ6_compare_7cf53 14 = .ok (.iconst 0, 1) := by decide +kernel
theorem dJ6_compare_7cf53_15 : decode cJ6_compare_7cf53 15 = .ok (.goto 4, 3) := by decide +kernel
theorem dJ6_compare_7cf53_18 : decode cJ6_compare_7cf53 18 = .ok (.iconst 1, 1) := by decide +kernel
theorem dJ6_compare_7cf53_19 : decode cJ6_compare_7cf53 19 = .ok (.ireturn, 1) := by decide +kernel
theorem dJ6_bitCount_0f7a4_0 : decode cJ6_bitCount_0f7a4 0 = .ok (.iload_n 0, 1) := by decide +kernel
theorem dJ6_bitCount_0f7a4_1 : decode cJ6_bitCount_0f7a4 1 = .ok (.iload_n 0, 1) := by decide +kernel
theorem dJ6_bitCount_0f7a4_2 : decode cJ6_bitCount_0f7a4 2 = .ok (.iconst 1, 1) := by decide +kernel
theorem dJ6_bitCount_0f7a4_3 : decode cJ6_bitCount_0f7a4 3 = .ok (.iushr, 1) := by decide +kernel
theorem dJ6_bitCount_0f7a4_4 : decode cJ6_bitCount_0f7a4 4 = .ok (.ldc_w 265, 3) := by decide +kernel
theorem dJ6_bitCount_0f7a4_7 : decode cJ6_bitCount_0f7a4 7 = .ok (.iand, 1) := by decide +kernel
theorem dJ6_bitCount_0f7a4_8 : decode cJ6_bitCount_0f7a4 8 = .ok (.isub, 1) := by decide +kernel
theorem dJ6_bitCount_0f7a4_9 : decode cJ6_bitCount_0f7a4 9 = .ok (.istore_n 0, 1) := by decide +kernel
theorem dJ6_bitCount_0f7a4_10 : decode cJ6_bitCount_0f7a4 10 = .ok (.iload_n 0, 1) := by decide +kernel
theorem dJ6_bitCount_0f7a4_11 : decode cJ6_bitCount_0f7a4 11 = .ok (.ldc_w 266, 3) := by decide +kernel
theorem dJ6_bitCount_0f7a4_14 : decode cJ6_bitCount_0f7a4 14 = .ok (.iand, 1) := by decide +kernel
theorem dJ6_bitCount_0f7a4_15 : decode cJ6_bitCount_0f7a4 15 = .ok (.iload_n 0, 1) := by decide +kernel
theorem dJ6_bitCount_0f7a4_16 : decode cJ6_bitCount_0f7a4 16 = .ok (.iconst 2, 1) := by decide +kernel
theorem dJ6_bitCount_0f7a4_17 : decode cJ6_bitCount_0f7a4 17 = .ok (.iushr, 1) := by decide +kernel
theorem dJ6_bitCount_0f7a4_18 : decode cJ6_bitCount_0f7a4 18 = .ok (.ldc_w 266, 3) := by decide +kernel
theorem dJ6_bitCount_0f7a4_21 : decode cJ6_bitCount_0f7a4 21 = .ok (.iand, 1) := by decide +kernel
theorem dJ6_bitCount_0f7a4_22 : decode cJ6_bitCount_0f7a4 22 = .ok (.iadd, 1) := by decide +kernel
theorem dJ6_bitCount_0f7a4_23 : decode cJ6_bitCount_0f7a4 23 = .ok (.istore_n 0, 1) := by decide +kernel
theorem dJ6_bitCount_0f7a4_24 : decode cJ6_bitCount_0f7a4 24 = .ok (.iload_n 0, 1) := by decide +kernel
theorem dJ6_bitCount_0f7a4_25 : decode cJ6_bitCount_0f7a4 25 = .ok (.iload_n 0, 1) := by decide +kernel
theorem dJ6_bitCount_0f7a4_26 : decode cJ6_bitCount_0f7a4 26 = .ok (.iconst 4, 1) := by decide +kernel
theorem dJ6_bitCount_0f7a4_27 : decode cJ6_bitCount_0f7a4 27 = .ok (.iushr, 1) := by decide +kernel
theorem dJ6_bitCount_0f7a4_28 : decode cJ6_bitCount_0f7a4 28 = .ok (.iadd, 1) := by decide +kernel
theorem dJ6_bitCount_0f7a4_29 : decode cJ6_bitCount_0f7a4 29 = .ok (.ldc_w 267, 3) := by decide +kernel
theorem dJ6_bitCount_0f7a4_32 : decode cJ6_bitCount_0f7a4 32 = .ok (.iand, 1) := by decide +kernel
theorem dJ6_bitCount_0f7a4_33 : decode cJ6_bitCount_0f7a4 33 = .ok (.istore_n 0, 1) := by decide +kernel
theorem dJ6_bitCount_0f7a4_34 : decode cJ6_bitCount_0f7a4 34 = .ok (.iload_n 0, 1) := by decide +kernel
theorem dJ6_bitCount_0f7a4_35 : decode cJ6_bitCount_0f7a4 35 = .ok (.iload_n 0, 1) := by decide +kernel
theorem dJ6_bitCount_0f7a4_36 : decode cJ6_bitCount_0f7a4 36 = .ok (.bipush 8, 2) := by decide +kernel
theorem dJ6_bitCount_0f7a4_38 : decode cJ6_bitCount_0f7a4 38 = .ok (.iushr, 1) := by decide +kernel
theorem dJ6_bitCount_0f7a4_39 : decode cJ6_bitCount_0f7a4 39 = .ok (.iadd, 1) := by decide +kernel
theorem dJ6_bitCount_0f7a4_40 : decode cJ6_bitCount_0f7a4 40 = .ok (.istore_n 0, 1) := by decide +kernel
theorem dJ6_bitCount_0f7a4_41 : decode cJ6_bitCount_0f7a4 41 = .ok (.iload_n 0, 1) := by decide +kernel
theorem dJ6_bitCount_0f7a4_42 : decode cJ6_bitCount_0f7a4 42 = .ok (.iload_n 0, 1) := by decide +kernel
theorem dJ6_bitCount_0f7a4_43 : decode cJ6_bitCount_0f7a4 43 = .ok (.bipush 16, 2) := by decide +kernel
theorem dJ6_bitCount_0f7a4_45 : decode cJ6_bitCount_0f7a4 45 = .ok (.iushr, 1) := by decide +kernel
theorem dJ6_bitCount_0f7a4_46 : decode cJ6_bitCount_0f7a4 46 = .ok (.iadd, 1) := by decide +kernel
theorem dJ6_bitCount_0f7a4_47 : decode cJ6_bitCount_0f7a4 47 = .ok (.istore_n 0, 1) := by decide +kernel
theorem dJ6_bitCount_0f7a4_48 : decode cJ6_bitCount_0f7a4 48 = .ok (.iload_n 0, 1) := by decide +kernel
theorem dJ6_bitCount_0f7a4_49 : decode cJ6_bitCount_0f7a4 49 = .ok (.bipush 63, 2) := by decide +kernel
theorem dJ6_bitCount_0f7a4_51 : decode cJ6_bitCount_0f7a4 51 = .ok (.iand, 1) := by decide +kernel
theorem dJ6_bitCount_0f7a4_52 : decode cJ6_bitCount_0f7a4 52 = .ok (.ireturn, 1) := by decide +kernel
theorem dJ9_floorMod_7cf53_0 : decode cJ9_floorMod_7cf53 0 = .ok (.iload_n 0, 1) := by decide +kernel
theorem dJ9_floorMod_7cf53_1 : decode cJ9_floorMod_7cf53 1 = .ok (.iload_n 1, 1) := by decide +kernel
theorem dJ9_floorMod_7cf53_2 : decode cJ9_floorMod_7cf53 2 = .ok (.irem, 1) := by decide +kernel
theorem dJ9_floorMod_7cf53_3 : decode cJ9_floorMod_7cf53 3 = .ok (.istore_n 2, 1) := by decide +kernel
theorem dJ9_floorMod_7cf53_4 : decode cJ9_floorMod_7cf53 4 = .ok (.iload_n 0, 1) := by decide +kernel
theorem dJ9_floorMod_7cf53_5 : decode cJ9_floorMod_7cf53 5 = .ok (.iload_n 1, 1) := by decide +kernel
theorem dJ9_floorMod_7cf53_6 : decode cJ9_floorMod_7cf53 6 = .ok (.ixor, 1) := by decide +kernel
theorem dJ9_floorMod_7cf53_7 : decode cJ9_floorMod_7cf53 7 = .ok (.ifCond .ge 11, 3) := by decide +kernel
theorem dJ9_floorMod_7cf53_10 : decode cJ9_floorMod_7cf53 10 = .ok (.iload_n 2, 1) := by decide +kernel
theorem dJ9_floorMod_7cf53_11 : decode cJ9_floorMod_7cf53 11 = .ok (.ifCond .eq 7, 3) := by decide +kernel
theorem dJ9_floorMod_7cf53_14 : decode cJ9_floorMod_7cf53 14 = .ok (.iload_n 2, 1) := by decide +kernel
theorem dJ9_floorMod_7cf53_15 : decode cJ9_floorMod_7cf53 15 = .ok (.iload_n 1, 1) := by decide +kernel
theorem dJ9_floorMod_7cf53_16 : decode cJ9_floorMod_7cf53 16 = .ok (.iadd, 1) := by decide +kernel
theorem dJ9_floorMod_7cf53_17 : decode cJ9_floorMod_7cf53 17 = .ok (.ireturn, 1) := by decide +kernel
theorem dJ9_floorMod_7cf53_18 : decode cJ9_floorMod_7cf53 18 = .ok (.iload_n 2, 1) := by decide +kernel
theorem dJ9_floorMod_7cf53_19 : decode cJ9_floorMod_7cf53 19 = .ok (.ireturn, 1) := by decide +kernel
theorem dJ9_max_7cf53_0 : decode cJ9_max_7cf53 0 = .ok (.iload_n 0, 1) := by decide +kernel
theorem dJ9_max_7cf53_1 : decode cJ9_max_7cf53 1 = .ok (.iload_n 1, 1) := by decide +kernel
theorem dJ9_max_7cf53_2 : decode cJ9_max_7cf53 2 = .ok (.if_icmp .lt 7, 3) := by decide +kernel
theorem dJ9_max_7cf53_5 : decode cJ9_max_7cf53 5 = .ok (.iload_n 0, 1) := by decide +kernel
theorem dJ9_max_7cf53_6 : decode cJ9_max_7cf53 6 = .ok (.goto 4, 3) := by decide +kernel
theorem dJ9_max_7cf53_9 : decode cJ9_max_7cf53 9 = .ok (.iload_n 1, 1) := by decide +kernel
theorem dJ9_max_7cf53_10 : decode cJ9_max_7cf53 10 = .ok (.ireturn, 1) := by decide +kernel
theorem dJ9_min_7cf53_0 : decode cJ9_min_7cf53 0 = .ok (.iload_n 0, 1) := by decide +kernel
theorem dJ9_min_7cf53_1 : decode cJ9_min_7cf53 1 = .ok (.iload_n 1, 1) := by decide +kernel
theorem dJ9_min_7cf53_2 : decode cJ9_min_7cf53 2 = .ok (.if_icmp .gt 7, 3) := by decide +kernel
theorem dJ9_min_7cf53_5 : decode cJ9_min_7cf53 5 = .ok (.iload_n 0, 1) := by decide +kernel
theorem dJ9_min_7cf53_6 : decode cJ9_min_7cf53 6 = .ok (.goto 4, 3) := by decide +kernel
theorem dJ9_min_7cf53_9 : decode cJ9_min_7cf53 9 = .ok (.iload_n 1, 1) := by decide +kernel
theorem dJ9_min_7cf53_10 : decode cJ9_min_7cf53 10 = .ok (.ireturn, 1) := by decide +kernel
theorem dJ7_fill_53178_0 : decode cJ7_fill_53178 0 = .ok (.iconst 0, 1) := by decide +kernel
theorem dJ7_fill_53178_1 : decode cJ7_fill_53178 1 = .ok (.istore_n 2, 1) := by decide +kernel
theorem dJ7_fill_53178_2 : decode cJ7_fill_53178 2 = .ok (.aload_n 0, 1) := by decide +kernel
theorem dJ7_fill_53178_3 : decode cJ7_fill_53178 3 = .ok (.arraylength, 1) := by decide +kernel
theorem dJ7_fill_53178_4 : decode cJ7_fill_53178 4 = .ok (.istore_n 3, 1) := by decide +kernel
theorem dJ7_fill_53178_5 : decode cJ7_fill_53178 5 = .ok (.iload_n 2, 1) := by decide +kernel
theorem dJ7_fill_53178_6 : decode cJ7_fill_53178 6 = .ok (.iload_n 3, 1) := by decide +kernel
theorem dJ7_fill_53178_7 : decode cJ7_fill_53178 7 = .ok (.if_icmp .ge 13, 3) := by decide +kernel
theorem dJ7_fill_53178_10 : decode cJ7_fill_53178 10 = .ok (.aload_n 0, 1) := by decide +kernel
theorem dJ7_fill_53178_11 : decode cJ7_fill_53178 11 = .ok (.iload_n 2, 1) := by decide +kernel
theorem dJ7_fill_53178_12 : decode cJ7_fill_53178 12 = .ok (.iload_n 1, 1) := by decide +kernel
theorem dJ7_fill_53178_13 : decode cJ7_fill_53178 13 = .ok (.iastore, 1) := by decide +kernel
theorem dJ7_fill_53178_14 : decode cJ7_fill_53178 14 = .ok (.iinc 2 1, 3) := by decide +kernel
theorem dJ7_fill_53178_17 : decode cJ7_fill_53178 17 = .ok (.goto (-12), 3) := by decide +kernel
theorem dJ7_fill_53178_20 : decode cJ7_fill_53178 20 = .ok (.return_, 1) := by decide +kernel
