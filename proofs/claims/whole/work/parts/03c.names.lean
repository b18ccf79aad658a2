theorem dX0_init_0 : decode cX0_init 0 = .ok (.aload_n 0, 1) := by decide +kernel
theorem dX0_init_1 : decode cX0_init 1 = .ok (.invokespecial 3, 3) := by decide +kernel
theorem dX0_init_4 : decode cX0_init 4 = .ok (.aload_n 0, 1) := by decide +kernel
theorem dX0_init_5 : decode cX0_init 5 = .ok (.iconst 0, 1) := by decide +kernel
theorem dX0_init_6 : decode cX0_init 6 = .ok (.putfield 9, 3) := by decide +kernel
theorem dX0_init_9 : decode cX0_init 9 = .ok (.aload_n 0, 1) := by decide +kernel
theorem dX0_init_10 : decode cX0_init 10 = .ok (.bipush (-4), 2) := by decide +kernel
theorem dX0_init_12 : decode cX0_init 12 = .ok (.putfield 15, 3) := by decide +kernel
theorem dX0_init_15 : decode cX0_init 15 = .ok (.aload_n 0, 1) := by decide +kernel
theorem dX0_init_16 : decode cX0_init 16 = .ok (.bipush 60, 2) := by decide +kernel
theorem dX0_init_18 : decode cX0_init 18 = .ok (.newarray .int, 2) := by decide +kernel
theorem dX0_init_20 : decode cX0_init 20 = .ok (.putfield 18, 3) := by decide +kernel
theorem dX0_init_23 : decode cX0_init 23 = .ok (.aload_n 0, 1) := by decide +kernel
theorem dX0_init_24 : decode cX0_init 24 = .ok (.bipush 60, 2) := by decide +kernel
theorem dX0_init_26 : decode cX0_init 26 = .ok (.newarray .int, 2) := by decide +kernel
theorem dX0_init_28 : decode cX0_init 28 = .ok (.putfield 22, 3) := by decide +kernel
theorem dX0_init_31 : decode cX0_init 31 = .ok (.aload_n 0, 1) := by decide +kernel
theorem dX0_init_32 : decode cX0_init 32 = .ok (.sipush 300, 3) := by decide +kernel
theorem dX0_init_35 : decode cX0_init 35 = .ok (.newarray .int, 2) := by decide +kernel
theorem dX0_init_37 : decode cX0_init 37 = .ok (.putfield 25, 3) := by decide +kernel
theorem dX0_init_40 : decode cX0_init 40 = .ok (.aload_n 0, 1) := by decide +kernel
theorem dX0_init_41 : decode cX0_init 41 = .ok (.sipush 180, 3) := by decide +kernel
theorem dX0_init_44 : decode cX0_init 44 = .ok (.newarray .int, 2) := by decide +kernel
theorem dX0_init_46 : decode cX0_init 46 = .ok (.putfield 28, 3) := by decide +kernel
theorem dX0_init_49 : decode cX0_init 49 = .ok (.aload_n 0, 1) := by decide +kernel
theorem dX0_init_50 : decode cX0_init 50 = .ok (.sipush 1000, 3) := by decide +kernel
theorem dX0_init_53 : decode cX0_init 53 = .ok (.newarray .int, 2) := by decide +kernel
theorem dX0_init_55 : decode cX0_init 55 = .ok (.putfield 31, 3) := by decide +kernel
theorem dX0_init_58 : decode cX0_init 58 = .ok (.aload_n 0, 1) := by decide +kernel
theorem dX0_init_59 : decode cX0_init 59 = .ok (.iconst 5, 1) := by decide +kernel
theorem dX0_init_60 : decode cX0_init 60 = .ok (.newarray .int, 2) := by decide +kernel
theorem dX0_init_62 : decode cX0_init 62 = .ok (.putfield 34, 3) := by decide +kernel
theorem dX0_init_65 : decode cX0_init 65 = .ok (.aload_n 0, 1) := by decide +kernel
theorem dX0_init_66 : decode cX0_init 66 = .ok (.iconst 3, 1) := by decide +kernel
theorem dX0_init_67 : decode cX0_init 67 = .ok (.newarray .int, 2) := by decide +kernel
theorem dX0_init_69 : decode cX0_init 69 = .ok (.putfield 37, 3) := by decide +kernel
theorem dX0_init_72 : decode cX0_init 72 = .ok (.aload_n 0, 1) := by decide +kernel
theorem dX0_init_73 : decode cX0_init 73 = .ok (.iconst 0, 1) := by decide +kernel
theorem dX0_init_74 : decode cX0_init 74 = .ok (.putfield 40, 3) := by decide +kernel
theorem dX0_init_77 : decode cX0_init 77 = .ok (.aload_n 0, 1) := by decide +kernel
theorem dX0_init_78 : decode cX0_init 78 = .ok (.aload_n 1, 1) := by decide +kernel
theorem dX0_init_79 : decode cX0_init 79 = .ok (.putfield 43, 3) := by decide +kernel
theorem dX0_init_82 : decode cX0_init 82 = .ok (.return_, 1) := by decide +kernel
theorem dX0_forget_0 : decode cX0_forget 0 = .ok (.aload_n 0, 1) := by decide +kernel
theorem dX0_forget_1 : decode cX0_forget 1 = .ok (.iconst 0, 1) := by decide +kernel
theorem dX0_forget_2 : decode cX0_forget 2 = .ok (.putfield 9, 3) := by decide +kernel
theorem dX0_forget_5 : decode cX0_forget 5 = .ok (.aload_n 0, 1) := by decide +kernel
theorem dX0_forget_6 : decode cX0_forget 6 = .ok (.bipush (-4), 2) := by decide +kernel
theorem dX0_forget_8 : decode cX0_forget 8 = .ok (.putfield 15, 3) := by decide +kernel
theorem dX0_forget_11 : decode cX0_forget 11 = .ok (.return_, 1) := by decide +kernel
theorem dX0_hasRow_0 : decode cX0_hasRow 0 = .ok (.iload_n 1, 1) := by decide +kernel
theorem dX0_hasRow_1 : decode cX0_hasRow 1 = .ok (.ifCond .lt 15, 3) := by decide +kernel
theorem dX0_hasRow_4 : decode cX0_hasRow 4 = .ok (.iload_n 1, 1) := by decide +kernel
theorem dX0_hasRow_5 : decode cX0_hasRow 5 = .ok (.aload_n 0, 1) := by decide +kernel
theorem dX0_hasRow_6 : decode cX0_hasRow 6 = .ok (.getfield 9, 3) := by decide +kernel
theorem dX0_hasRow_9 : decode cX0_hasRow 9 = .ok (.if_icmp .ge 7, 3) := by decide +kernel
theorem dX0_hasRow_12 : decode cX0_hasRow 12 = .ok (.iconst 1, 1) := by decide +kernel
theorem dX0_hasRow_13 : decode cX0_hasRow 13 = .ok (.goto 4, 3) := by decide +kernel
theorem dX0_hasRow_16 : decode cX0_hasRow 16 = .ok (.iconst 0, 1) := by decide +kernel
theorem dX0_hasRow_17 : decode cX0_hasRow 17 = .ok (.ireturn, 1) := by decide +kernel
theorem dX0_entry_0 : decode cX0_entry 0 = .ok (.iload_n 2, 1) := by decide +kernel
theorem dX0_entry_1 : decode cX0_entry 1 = .ok (.ifCond .ne 10, 3) := by decide +kernel
theorem dX0_entry_4 : decode cX0_entry 4 = .ok (.aload_n 0, 1) := by decide +kernel
theorem dX0_entry_5 : decode cX0_entry 5 = .ok (.getfield 18, 3) := by decide +kernel
theorem dX0_entry_8 : decode cX0_entry 8 = .ok (.iload_n 1, 1) := by decide +kernel
theorem dX0_entry_9 : decode cX0_entry 9 = .ok (.iaload, 1) := by decide +kernel
theorem dX0_entry_10 : decode cX0_entry 10 = .ok (.ireturn, 1) := by decide +kernel
theorem dX0_entry_11 : decode cX0_entry 11 = .ok (.iload_n 2, 1) := by decide +kernel
theorem dX0_entry_12 : decode cX0_entry 12 = .ok (.iconst 5, 1) := by decide +kernel
theorem dX0_entry_13 : decode cX0_entry 13 = .ok (.if_icmp .gt 16, 3) := by decide +kernel
theorem dX0_entry_16 : decode cX0_entry 16 = .ok (.aload_n 0, 1) := by decide +kernel
theorem dX0_entry_17 : decode cX0_entry 17 = .ok (.getfield 25, 3) := by decide +kernel
theorem dX0_entry_20 : decode cX0_entry 20 = .ok (.iconst 5, 1) := by decide +kernel
theorem dX0_entry_21 : decode cX0_entry 21 = .ok (.iload_n 1, 1) := by decide +kernel
theorem dX0_entry_22 : decode cX0_entry 22 = .ok (.imul, 1) := by decide +kernel
theorem dX0_entry_23 : decode cX0_entry 23 = .ok (.iload_n 2, 1) := by decide +kernel
theorem dX0_entry_24 : decode cX0_entry 24 = .ok (.iadd, 1) := by decide +kernel
theorem dX0_entry_25 : decode cX0_entry 25 = .ok (.iconst 1, 1) := by decide +kernel
theorem dX0_entry_26 : decode cX0_entry 26 = .ok (.isub, 1) := by decide +kernel
theorem dX0_entry_27 : decode cX0_entry 27 = .ok (.iaload, 1) := by decide +kernel
theorem dX0_entry_28 : decode cX0_entry 28 = .ok (.ireturn, 1) := by decide +kernel
theorem dX0_entry_29 : decode cX0_entry 29 = .ok (.iload_n 2, 1) := by decide +kernel
theorem dX0_entry_30 : decode cX0_entry 30 = .ok (.bipush 8, 2) := by decide +kernel
theorem dX0_entry_32 : decode cX0_entry 32 = .ok (.if_icmp .gt 19, 3) := by decide +kernel
theorem dX0_entry_35 : decode cX0_entry 35 = .ok (.aload_n 0, 1) := by decide +kernel
theorem dX0_entry_36 : decode cX0_entry 36 = .ok (.getfield 28, 3) := by decide +kernel
theorem dX0_entry_39 : decode cX0_entry 39 = .ok (.iconst 3, 1) := by decide +kernel
theorem dX0_entry_40 : decode cX0_entry 40 = .ok (.iload_n 1, 1) := by decide +kernel
theorem dX0_entry_41 : decode cX0_entry 41 = .ok (.imul, 1) := by decide +kernel
theorem dX0_entry_42 : decode cX0_entry 42 = .ok (.iload_n 2, 1) := by decide +kernel
theorem dX0_entry_43 : decode cX0_entry 43 = .ok (.iadd, 1) := by decide +kernel
theorem dX0_entry_44 : decode cX0_entry 44 = .ok (.bipush 6, 2) := by decide +kernel
theorem dX0_entry_46 : decode cX0_entry 46 = .ok (.isub, 1) := by decide +kernel
theorem dX0_entry_47 : decode cX0_entry 47 = .ok (.iaload, 1) := by decide +kernel
theorem dX0_entry_48 : decode cX0_entry 48 = .ok (.goto 9, 3) := by decide +kernel
theorem dX0_entry_51 : decode cX0_entry 51 = .ok (.aload_n 0, 1) := by decide +kernel
theorem dX0_entry_52 : decode cX0_entry 52 = .ok (.getfield 22, 3) := by decide +kernel
theorem dX0_entry_55 : decode cX0_entry 55 = .ok (.iload_n 1, 1) := by decide +kernel
theorem dX0_entry_56 : decode cX0_entry 56 = .ok (.iaload, 1) := by decide +kernel
theorem dX0_entry_57 : decode cX0_entry 57 = .ok (.ireturn, 1) := by decide +kernel
set_option maxRecDepth 20000 in
theorem ggX0_follow_X0_forget : GoodIn wsX0_follow wsX0_forget := goodIn_r _ [7, 2, 1, 85, 86, 87, 88, 89, 90, 91, 92, 93, 94, 95] (by decide +kernel) (by decide +kernel)
set_option maxRecDepth 20000 in
theorem gX0_follow_X0_forget : GoodIn wsX0_follow (wsV RX0 47 RX0 yX0_forget wsX0_forget) := goodIn_app (goodIn_of _ (by decide +kernel)) ggX0_follow_X0_forget
set_option maxRecDepth 20000 in
theorem ggX0_follow_X0_gather : GoodIn wsX0_follow wsX0_gather := goodIn_r _ [11, 12, 13, 14, 15, 16, 17, 18, 19, 20, 21, 22, 23, 24, 25, 26, 27, 28, 29, 30, 31, 32, 33, 6, 34, 35, 36, 37, 38, 39, 40, 41, 42, 43, 44, 85, 86, 87, 88, 89, 90, 91, 92, 93, 94, 95, 96, 97, 98, 99, 100] (by decide +kernel) (by decide +kernel)
set_option maxRecDepth 20000 in
theorem gX0_follow_X0_gather : GoodIn wsX0_follow (wsV RX0 50 RX0 yX0_gather wsX0_gather) := goodIn_app (goodIn_of _ (by decide +kernel)) ggX0_follow_X0_gather
set_option maxRecDepth 20000 in
theorem ggX0_follow_X0_firstKind : GoodIn wsX0_follow wsX0_firstKind := goodIn_r _ [48, 49, 50, 51, 6, 52, 53, 54, 55, 56, 57, 58, 59, 60, 61, 62, 12, 63, 35, 36, 37, 64, 65, 66, 67, 68, 69, 70, 25, 26, 27, 71, 29, 30, 13, 72, 73, 74, 22, 75, 20, 21, 23, 24, 28, 85, 86, 87, 88, 89, 90, 91, 92, 93, 94, 95, 96, 97, 98, 99, 100] (by decide +kernel) (by decide +kernel)
set_option maxRecDepth 20000 in
theorem gX0_follow_X0_firstKind : GoodIn wsX0_follow (wsV RX0 54 RX0 yX0_firstKind wsX0_firstKind) := goodIn_app (goodIn_of _ (by decide +kernel)) ggX0_follow_X0_firstKind
set_option maxRecDepth 20000 in
theorem ggX0_follow_X0_addRow : GoodIn wsX0_follow wsX0_addRow := goodIn_r _ [79, 42, 2, 44, 68, 53, 80, 81, 82, 83, 84, 43, 69, 85, 86, 87, 88, 89, 90, 91, 92, 93, 94, 95] (by decide +kernel) (by decide +kernel)
set_option maxRecDepth 20000 in
theorem gX0_follow_X0_addRow : GoodIn wsX0_follow (wsV RX0 58 RX0 yX0_addRow wsX0_addRow) := goodIn_app (goodIn_of _ (by decide +kernel)) ggX0_follow_X0_addRow
set_option maxRecDepth 20000 in
theorem ggX0_follow_X0_learn : GoodIn wsX0_follow wsX0_learn := goodIn_r _ [41, 42, 43, 44, 31, 32, 33, 6, 34, 12, 35, 36, 37, 85, 86, 87, 88, 89, 90, 91, 92, 93, 94, 95] (by decide +kernel) (by decide +kernel)
set_option maxRecDepth 20000 in
theorem gX0_follow_X0_learn : GoodIn wsX0_follow (wsV RX0 61 RX0 yX0_learn wsX0_learn) := goodIn_app (goodIn_of _ (by decide +kernel)) ggX0_follow_X0_learn
theorem dX0_follow_0 : decode cX0_follow 0 = .ok (.aload_n 0, 1) := by decide +kernel
theorem dX0_follow_1 : decode cX0_follow 1 = .ok (.invokevirtual 47, 3) := by decide +kernel
theorem dX0_follow_4 : decode cX0_follow 4 = .ok (.aload_n 0, 1) := by decide +kernel
theorem dX0_follow_5 : decode cX0_follow 5 = .ok (.iconst 0, 1) := by decide +kernel
theorem dX0_follow_6 : decode cX0_follow 6 = .ok (.invokevirtual 50, 3) := by decide +kernel
theorem dX0_follow_9 : decode cX0_follow 9 = .ok (.aload_n 0, 1) := by decide +kernel
theorem dX0_follow_10 : decode cX0_follow 10 = .ok (.iconst 2, 1) := by decide +kernel
theorem dX0_follow_11 : decode cX0_follow 11 = .ok (.putfield 15, 3) := by decide +kernel
theorem dX0_follow_14 : decode cX0_follow 14 = .ok (.iconst 0, 1) := by decide +kernel
theorem dX0_follow_15 : decode cX0_follow 15 = .ok (.istore_n 2, 1) := by decide +kernel
theorem dX0_follow_16 : decode cX0_follow 16 = .ok (.iload_n 2, 1) := by decide +kernel
theorem dX0_follow_17 : decode cX0_follow 17 = .ok (.bipush 60, 2) := by decide +kernel
theorem dX0_follow_19 : decode cX0_follow 19 = .ok (.if_icmp .ge 56, 3) := by decide +kernel
theorem dX0_follow_22 : decode cX0_follow 22 = .ok (.aload_n 0, 1) := by decide +kernel
theorem dX0_follow_23 : decode cX0_follow 23 = .ok (.iload_n 1, 1) := by decide +kernel
theorem dX0_follow_24 : decode cX0_follow 24 = .ok (.invokevirtual 54, 3) := by decide +kernel
theorem dX0_follow_27 : decode cX0_follow 27 = .ok (.istore_n 3, 1) := by decide +kernel
theorem dX0_follow_28 : decode cX0_follow 28 = .ok (.iload_n 3, 1) := by decide +kernel
theorem dX0_follow_29 : decode cX0_follow 29 = .ok (.bipush (-4), 2) := by decide +kernel
theorem dX0_follow_31 : decode cX0_follow 31 = .ok (.if_icmp .ne 11, 3) := by decide +kernel
theorem dX0_follow_34 : decode cX0_follow 34 = .ok (.aload_n 0, 1) := by decide +kernel
theorem dX0_follow_35 : decode cX0_follow 35 = .ok (.iconst 1, 1) := by decide +kernel
theorem dX0_follow_36 : decode cX0_follow 36 = .ok (.putfield 15, 3) := by decide +kernel
theorem dX0_follow_39 : decode cX0_follow 39 = .ok (.goto 36, 3) := by decide +kernel
theorem dX0_follow_42 : decode cX0_follow 42 = .ok (.aload_n 0, 1) := by decide +kernel
theorem dX0_follow_43 : decode cX0_follow 43 = .ok (.iload_n 3, 1) := by decide +kernel
theorem dX0_follow_44 : decode cX0_follow 44 = .ok (.invokevirtual 58, 3) := by decide +kernel
theorem dX0_follow_47 : decode cX0_follow 47 = .ok (.iload_n 3, 1) := by decide +kernel
theorem dX0_follow_48 : decode cX0_follow 48 = .ok (.ifCond .eq 11, 3) := by decide +kernel
theorem dX0_follow_51 : decode cX0_follow 51 = .ok (.aload_n 0, 1) := by decide +kernel
theorem dX0_follow_52 : decode cX0_follow 52 = .ok (.iconst 0, 1) := by decide +kernel
theorem dX0_follow_53 : decode cX0_follow 53 = .ok (.putfield 15, 3) := by decide +kernel
theorem dX0_follow_56 : decode cX0_follow 56 = .ok (.goto 19, 3) := by decide +kernel
theorem dX0_follow_59 : decode cX0_follow 59 = .ok (.aload_n 0, 1) := by decide +kernel
theorem dX0_follow_60 : decode cX0_follow 60 = .ok (.aload_n 0, 1) := by decide +kernel
theorem dX0_follow_61 : decode cX0_follow 61 = .ok (.getfield 9, 3) := by decide +kernel
theorem dX0_follow_64 : decode cX0_follow 64 = .ok (.iconst 1, 1) := by decide +kernel
theorem dX0_follow_65 : decode cX0_follow 65 = .ok (.isub, 1) := by decide +kernel
theorem dX0_follow_66 : decode cX0_follow 66 = .ok (.invokevirtual 61, 3) := by decide +kernel
theorem dX0_follow_69 : decode cX0_follow 69 = .ok (.iinc 2 1, 3) := by decide +kernel
theorem dX0_follow_72 : decode cX0_follow 72 = .ok (.goto (-56), 3) := by decide +kernel
theorem dX0_follow_75 : decode cX0_follow 75 = .ok (.aload_n 0, 1) := by decide +kernel
theorem dX0_follow_76 : decode cX0_follow 76 = .ok (.getfield 15, 3) := by decide +kernel
theorem dX0_follow_79 : decode cX0_follow 79 = .ok (.ireturn, 1) := by decide +kernel
set_option maxRecDepth 20000 in
theorem ggX0_allFollow_X0_gather : GoodIn wsX0_allFollow wsX0_gather := goodIn_r _ [7, 8, 9, 10, 11, 12, 13, 14, 15, 16, 17, 18, 19, 20, 21, 22, 23, 24, 25, 26, 27, 28, 29, 6, 30, 31, 32, 33, 34, 35, 36, 37, 2, 38, 39, 76, 77, 78, 79, 80, 81, 82, 83, 84, 85, 86, 87, 88, 89, 90, 91] (by decide +kernel) (by decide +kernel)
set_option maxRecDepth 20000 in
theorem gX0_allFollow_X0_gather : GoodIn wsX0_allFollow (wsV RX0 50 RX0 yX0_gather wsX0_gather) := goodIn_app (goodIn_of _ (by decide +kernel)) ggX0_allFollow_X0_gather
set_option maxRecDepth 20000 in
theorem ggX0_allFollow_X0_recall : GoodIn wsX0_allFollow wsX0_recall := goodIn_r _ [43, 44, 45, 46, 47, 48, 49, 76, 77, 78, 79, 80, 81, 82, 83, 84, 85, 86] (by decide +kernel) (by decide +kernel)
set_option maxRecDepth 20000 in
theorem gX0_allFollow_X0_recall : GoodIn wsX0_allFollow (wsV RX0 64 RX0 yX0_recall wsX0_recall) := goodIn_app (goodIn_of _ (by decide +kernel)) ggX0_allFollow_X0_recall
set_option maxRecDepth 20000 in
theorem ggX0_allFollow_X0_judge : GoodIn wsX0_allFollow wsX0_judge := goodIn_r _ [53, 54, 55, 56, 57, 6, 58, 8, 45, 59, 31, 32, 33, 60, 61, 62, 63, 64, 65, 66, 21, 22, 23, 67, 25, 26, 9, 68, 69, 70, 18, 71, 16, 17, 19, 20, 24, 76, 77, 78, 79, 80, 81, 82, 83, 84, 85, 86, 87, 88, 89, 90, 91] (by decide +kernel) (by decide +kernel)
set_option maxRecDepth 20000 in
theorem gX0_allFollow_X0_judge : GoodIn wsX0_allFollow (wsV RX0 67 RX0 yX0_judge wsX0_judge) := goodIn_app (goodIn_of _ (by decide +kernel)) ggX0_allFollow_X0_judge
set_option maxRecDepth 20000 in
theorem ggX0_allFollow_X0_tellsSame : GoodIn wsX0_allFollow wsX0_tellsSame := goodIn_r _ [75, 38, 65, 39, 64, 76, 77, 78, 79, 80, 81, 82, 83, 84, 85, 86] (by decide +kernel) (by decide +kernel)
set_option maxRecDepth 20000 in
theorem gX0_allFollow_X0_tellsSame : GoodIn wsX0_allFollow (wsV RX0 71 RX0 yX0_tellsSame wsX0_tellsSame) := goodIn_app (goodIn_of _ (by decide +kernel)) ggX0_allFollow_X0_tellsSame
set_option maxRecDepth 20000 in
theorem ggX0_allFollow_X0_learn : GoodIn wsX0_allFollow wsX0_learn := goodIn_r _ [37, 2, 38, 39, 27, 28, 29, 6, 30, 8, 31, 32, 33, 76, 77, 78, 79, 80, 81, 82, 83, 84, 85, 86] (by decide +kernel) (by decide +kernel)
set_option maxRecDepth 20000 in
theorem gX0_allFollow_X0_learn : GoodIn wsX0_allFollow (wsV RX0 61 RX0 yX0_learn wsX0_learn) := goodIn_app (goodIn_of _ (by decide +kernel)) ggX0_allFollow_X0_learn
theorem dX0_allFollow_0 : decode cX0_allFollow 0 = .ok (.aload_n 0, 1) := by decide +kernel
theorem dX0_allFollow_1 : decode cX0_allFollow 1 = .ok (.iconst 0, 1) := by decide +kernel
theorem dX0_allFollow_2 : decode cX0_allFollow 2 = .ok (.invokevirtual 50, 3) := by decide +kernel
theorem dX0_allFollow_5 : decode cX0_allFollow 5 = .ok (.iconst 0, 1) := by decide +kernel
theorem dX0_allFollow_6 : decode cX0_allFollow 6 = .ok (.istore_n 1, 1) := by decide +kernel
theorem dX0_allFollow_7 : decode cX0_allFollow 7 = .ok (.iload_n 1, 1) := by decide +kernel
theorem dX0_allFollow_8 : decode cX0_allFollow 8 = .ok (.aload_n 0, 1) := by decide +kernel
theorem dX0_allFollow_9 : decode cX0_allFollow 9 = .ok (.getfield 9, 3) := by decide +kernel
theorem dX0_allFollow_12 : decode cX0_allFollow 12 = .ok (.if_icmp .ge 52, 3) := by decide +kernel
theorem dX0_allFollow_15 : decode cX0_allFollow 15 = .ok (.aload_n 0, 1) := by decide +kernel
theorem dX0_allFollow_16 : decode cX0_allFollow 16 = .ok (.iload_n 1, 1) := by decide +kernel
theorem dX0_allFollow_17 : decode cX0_allFollow 17 = .ok (.invokevirtual 64, 3) := by decide +kernel
theorem dX0_allFollow_20 : decode cX0_allFollow 20 = .ok (.aload_n 0, 1) := by decide +kernel
theorem dX0_allFollow_21 : decode cX0_allFollow 21 = .ok (.invokevirtual 67, 3) := by decide +kernel
theorem dX0_allFollow_24 : decode cX0_allFollow 24 = .ok (.aload_n 0, 1) := by decide +kernel
theorem dX0_allFollow_25 : decode cX0_allFollow 25 = .ok (.getfield 18, 3) := by decide +kernel
theorem dX0_allFollow_28 : decode cX0_allFollow 28 = .ok (.iload_n 1, 1) := by decide +kernel
theorem dX0_allFollow_29 : decode cX0_allFollow 29 = .ok (.iaload, 1) := by decide +kernel
theorem dX0_allFollow_30 : decode cX0_allFollow 30 = .ok (.if_icmp .ne 21, 3) := by decide +kernel
theorem dX0_allFollow_33 : decode cX0_allFollow 33 = .ok (.aload_n 0, 1) := by decide +kernel
theorem dX0_allFollow_34 : decode cX0_allFollow 34 = .ok (.getfield 18, 3) := by decide +kernel
theorem dX0_allFollow_37 : decode cX0_allFollow 37 = .ok (.iload_n 1, 1) := by decide +kernel
theorem dX0_allFollow_38 : decode cX0_allFollow 38 = .ok (.iaload, 1) := by decide +kernel
theorem dX0_allFollow_39 : decode cX0_allFollow 39 = .ok (.iconst 1, 1) := by decide +kernel
theorem dX0_allFollow_40 : decode cX0_allFollow 40 = .ok (.if_icmp .eq 13, 3) := by decide +kernel
theorem dX0_allFollow_43 : decode cX0_allFollow 43 = .ok (.aload_n 0, 1) := by decide +kernel
theorem dX0_allFollow_44 : decode cX0_allFollow 44 = .ok (.iload_n 1, 1) := by decide +kernel
theorem dX0_allFollow_45 : decode cX0_allFollow 45 = .ok (.invokevirtual 71, 3) := by decide +kernel
theorem dX0_allFollow_48 : decode cX0_allFollow 48 = .ok (.ifCond .ne 5, 3) := by decide +kernel
theorem dX0_allFollow_51 : decode cX0_allFollow 51 = .ok (.iconst 0, 1) := by decide +kernel
theorem dX0_allFollow_52 : decode cX0_allFollow 52 = .ok (.ireturn, 1) := by decide +kernel
theorem dX0_allFollow_53 : decode cX0_allFollow 53 = .ok (.aload_n 0, 1) := by decide +kernel
theorem dX0_allFollow_54 : decode cX0_allFollow 54 = .ok (.iload_n 1, 1) := by decide +kernel
theorem dX0_allFollow_55 : decode cX0_allFollow 55 = .ok (.invokevirtual 61, 3) := by decide +kernel
theorem dX0_allFollow_58 : decode cX0_allFollow 58 = .ok (.iinc 1 1, 3) := by decide +kernel
theorem dX0_allFollow_61 : decode cX0_allFollow 61 = .ok (.goto (-54), 3) := by decide +kernel
theorem dX0_allFollow_64 : decode cX0_allFollow 64 = .ok (.iconst 1, 1) := by decide +kernel
theorem dX0_allFollow_65 : decode cX0_allFollow 65 = .ok (.ireturn, 1) := by decide +kernel
set_option maxRecDepth 20000 in
theorem ggX0_lastTerm_X0_gather : GoodIn wsX0_lastTerm wsX0_gather := goodIn_r _ [7, 8, 9, 10, 11, 12, 13, 14, 15, 16, 17, 18, 19, 20, 21, 22, 23, 24, 25, 26, 27, 28, 29, 6, 30, 31, 32, 33, 34, 35, 36, 37, 38, 39, 40, 56, 57, 58, 59, 60, 61, 62, 63, 64, 65, 66, 67, 68, 69, 70, 71] (by decide +kernel) (by decide +kernel)
set_option maxRecDepth 20000 in
theorem gX0_lastTerm_X0_gather : GoodIn wsX0_lastTerm (wsV RX0 50 RX0 yX0_gather wsX0_gather) := goodIn_app (goodIn_of _ (by decide +kernel)) ggX0_lastTerm_X0_gather
set_option maxRecDepth 20000 in
theorem ggX0_lastTerm_X0_recall : GoodIn wsX0_lastTerm wsX0_recall := goodIn_r _ [44, 45, 46, 47, 48, 49, 50, 56, 57, 58, 59, 60, 61, 62, 63, 64, 65, 66] (by decide +kernel) (by decide +kernel)
set_option maxRecDepth 20000 in
theorem gX0_lastTerm_X0_recall : GoodIn wsX0_lastTerm (wsV RX0 64 RX0 yX0_recall wsX0_recall) := goodIn_app (goodIn_of _ (by decide +kernel)) ggX0_lastTerm_X0_recall
set_option maxRecDepth 20000 in
theorem ggX0_lastTerm_X0_signIn : GoodIn wsX0_lastTerm wsX0_signIn := goodIn_r _ [54, 8, 46, 55, 31, 32, 6, 33, 56, 57, 58, 59, 60, 61, 62, 63, 64, 65, 66] (by decide +kernel) (by decide +kernel)
set_option maxRecDepth 20000 in
theorem gX0_lastTerm_X0_signIn : GoodIn wsX0_lastTerm (wsV RX0 75 RX0 yX0_signIn wsX0_signIn) := goodIn_app (goodIn_of _ (by decide +kernel)) ggX0_lastTerm_X0_signIn
theorem dX0_lastTerm_0 : decode cX0_lastTerm 0 = .ok (.aload_n 0, 1) := by decide +kernel
theorem dX0_lastTerm_1 : decode cX0_lastTerm 1 = .ok (.aload_n 0, 1) := by decide +kernel
theorem dX0_lastTerm_2 : decode cX0_lastTerm 2 = .ok (.getfield 9, 3) := by decide +kernel
theorem dX0_lastTerm_5 : decode cX0_lastTerm 5 = .ok (.invokevirtual 50, 3) := by decide +kernel
theorem dX0_lastTerm_8 : decode cX0_lastTerm 8 = .ok (.aload_n 0, 1) := by decide +kernel
theorem dX0_lastTerm_9 : decode cX0_lastTerm 9 = .ok (.aload_n 0, 1) := by decide +kernel
theorem dX0_lastTerm_10 : decode cX0_lastTerm 10 = .ok (.getfield 9, 3) := by decide +kernel
theorem dX0_lastTerm_13 : decode cX0_lastTerm 13 = .ok (.iconst 1, 1) := by decide +kernel
theorem dX0_lastTerm_14 : decode cX0_lastTerm 14 = .ok (.isub, 1) := by decide +kernel
theorem dX0_lastTerm_15 : decode cX0_lastTerm 15 = .ok (.invokevirtual 64, 3) := by decide +kernel
theorem dX0_lastTerm_18 : decode cX0_lastTerm 18 = .ok (.iload_n 2, 1) := by decide +kernel
theorem dX0_lastTerm_19 : decode cX0_lastTerm 19 = .ok (.iconst 2, 1) := by decide +kernel
theorem dX0_lastTerm_20 : decode cX0_lastTerm 20 = .ok (.if_icmp .ge 10, 3) := by decide +kernel
theorem dX0_lastTerm_23 : decode cX0_lastTerm 23 = .ok (.aload_n 0, 1) := by decide +kernel
theorem dX0_lastTerm_24 : decode cX0_lastTerm 24 = .ok (.iload_n 1, 1) := by decide +kernel
theorem dX0_lastTerm_25 : decode cX0_lastTerm 25 = .ok (.iload_n 2, 1) := by decide +kernel
theorem dX0_lastTerm_26 : decode cX0_lastTerm 26 = .ok (.invokevirtual 75, 3) := by decide +kernel
theorem dX0_lastTerm_29 : decode cX0_lastTerm 29 = .ok (.ireturn, 1) := by decide +kernel
theorem dX0_lastTerm_30 : decode cX0_lastTerm 30 = .ok (.aload_n 0, 1) := by decide +kernel
theorem dX0_lastTerm_31 : decode cX0_lastTerm 31 = .ok (.iload_n 1, 1) := by decide +kernel
theorem dX0_lastTerm_32 : decode cX0_lastTerm 32 = .ok (.iconst 0, 1) := by decide +kernel
theorem dX0_lastTerm_33 : decode cX0_lastTerm 33 = .ok (.invokevirtual 75, 3) := by decide +kernel
theorem dX0_lastTerm_36 : decode cX0_lastTerm 36 = .ok (.istore_n 3, 1) := by decide +kernel
theorem dX0_lastTerm_37 : decode cX0_lastTerm 37 = .ok (.aload_n 0, 1) := by decide +kernel
theorem dX0_lastTerm_38 : decode cX0_lastTerm 38 = .ok (.iload_n 1, 1) := by decide +kernel
theorem dX0_lastTerm_39 : decode cX0_lastTerm 39 = .ok (.iconst 1, 1) := by decide +kernel
theorem dX0_lastTerm_40 : decode cX0_lastTerm 40 = .ok (.invokevirtual 75, 3) := by decide +kernel
theorem dX0_lastTerm_43 : decode cX0_lastTerm 43 = .ok (.istore 4, 2) := by decide +kernel
theorem dX0_lastTerm_45 : decode cX0_lastTerm 45 = .ok (.iload_n 3, 1) := by decide +kernel
theorem dX0_lastTerm_46 : decode cX0_lastTerm 46 = .ok (.bipush (-4), 2) := by decide +kernel
theorem dX0_lastTerm_48 : decode cX0_lastTerm 48 = .ok (.if_icmp .eq 10, 3) := by decide +kernel
theorem dX0_lastTerm_51 : decode cX0_lastTerm 51 = .ok (.iload 4, 2) := by decide +kernel
theorem dX0_lastTerm_53 : decode cX0_lastTerm 53 = .ok (.bipush (-4), 2) := by decide +kernel
theorem dX0_lastTerm_55 : decode cX0_lastTerm 55 = .ok (.if_icmp .ne 8, 3) := by decide +kernel
theorem dX0_lastTerm_58 : decode cX0_lastTerm 58 = .ok (.bipush (-4), 2) := by decide +kernel
theorem dX0_lastTerm_60 : decode cX0_lastTerm 60 = .ok (.goto 13, 3) := by decide +kernel
theorem dX0_lastTerm_63 : decode cX0_lastTerm 63 = .ok (.getstatic 79, 3) := by decide +kernel
theorem dX0_lastTerm_66 : decode cX0_lastTerm 66 = .ok (.iload_n 1, 1) := by decide +kernel
theorem dX0_lastTerm_67 : decode cX0_lastTerm 67 = .ok (.iaload, 1) := by decide +kernel
theorem dX0_lastTerm_68 : decode cX0_lastTerm 68 = .ok (.iload_n 3, 1) := by decide +kernel
theorem dX0_lastTerm_69 : decode cX0_lastTerm 69 = .ok (.imul, 1) := by decide +kernel
theorem dX0_lastTerm_70 : decode cX0_lastTerm 70 = .ok (.iload 4, 2) := by decide +kernel
theorem dX0_lastTerm_72 : decode cX0_lastTerm 72 = .ok (.imul, 1) := by decide +kernel
theorem dX0_lastTerm_73 : decode cX0_lastTerm 73 = .ok (.ireturn, 1) := by decide +kernel
set_option maxRecDepth 20000 in
theorem ggX0_gather_J7_fill_53178 : GoodIn wsX0_gather wsJ7_fill_53178 := goodIn_r _ [8] (by decide +kernel) (by decide +kernel)
set_option maxRecDepth 20000 in
theorem gX0_gather_J7_fill_53178 : GoodIn wsX0_gather (va_wsS RX0 82 yJ7_fill_53178 wsJ7_fill_53178) := goodIn_app (goodIn_of _ (by decide +kernel)) ggX0_gather_J7_fill_53178
set_option maxRecDepth 20000 in
theorem ggX0_gather_X5_spotOf : GoodIn wsX0_gather wsX5_spotOf := goodIn_r _ [12, 13, 14, 15, 16, 17, 18, 19] (by decide +kernel) (by decide +kernel)
set_option maxRecDepth 20000 in
theorem gX0_gather_X5_spotOf : GoodIn wsX0_gather (va_wsS RX0 88 yX5_spotOf wsX5_spotOf) := goodIn_app (goodIn_of _ (by decide +kernel)) ggX0_gather_X5_spotOf
set_option maxRecDepth 20000 in
theorem ggX0_gather_X0_setNow : GoodIn wsX0_gather wsX0_setNow := goodIn_r _ [24, 1, 25, 26, 23, 27, 35, 36, 37, 38, 39, 40, 41, 42, 43, 44, 45] (by decide +kernel) (by decide +kernel)
set_option maxRecDepth 20000 in
theorem gX0_gather_X0_setNow : GoodIn wsX0_gather (wsV RX0 101 RX0 yX0_setNow wsX0_setNow) := goodIn_app (goodIn_of _ (by decide +kernel)) ggX0_gather_X0_setNow
set_option maxRecDepth 20000 in
theorem ggX0_gather_X0_learn : GoodIn wsX0_gather wsX0_learn := goodIn_r _ [31, 32, 33, 34, 20, 21, 22, 23, 24, 1, 25, 26, 27, 35, 36, 37, 38, 39, 40, 41, 42, 43, 44, 45] (by decide +kernel) (by decide +kernel)
set_option maxRecDepth 20000 in
theorem gX0_gather_X0_learn : GoodIn wsX0_gather (wsV RX0 61 RX0 yX0_learn wsX0_learn) := goodIn_app (goodIn_of _ (by decide +kernel)) ggX0_gather_X0_learn
theorem dX0_gather_0 : decode cX0_gather 0 = .ok (.aload_n 0, 1) := by decide +kernel
theorem dX0_gather_1 : decode cX0_gather 1 = .ok (.getfield 31, 3) := by decide +kernel
theorem dX0_gather_4 : decode cX0_gather 4 = .ok (.bipush (-4), 2) := by decide +kernel
theorem dX0_gather_6 : decode cX0_gather 6 = .ok (.invokestatic 82, 3) := by decide +kernel
theorem dX0_gather_9 : decode cX0_gather 9 = .ok (.iconst 2, 1) := by decide +kernel
theorem dX0_gather_10 : decode cX0_gather 10 = .ok (.istore_n 2, 1) := by decide +kernel
theorem dX0_gather_11 : decode cX0_gather 11 = .ok (.iload_n 2, 1) := by decide +kernel
theorem dX0_gather_12 : decode cX0_gather 12 = .ok (.bipush 10, 2) := by decide +kernel
theorem dX0_gather_14 : decode cX0_gather 14 = .ok (.if_icmp .ge 90, 3) := by decide +kernel
theorem dX0_gather_17 : decode cX0_gather 17 = .ok (.iconst 1, 1) := by decide +kernel
theorem dX0_gather_18 : decode cX0_gather 18 = .ok (.istore_n 3, 1) := by decide +kernel
theorem dX0_gather_19 : decode cX0_gather 19 = .ok (.iload_n 3, 1) := by decide +kernel
theorem dX0_gather_20 : decode cX0_gather 20 = .ok (.iload_n 2, 1) := by decide +kernel
theorem dX0_gather_21 : decode cX0_gather 21 = .ok (.if_icmp .ge 77, 3) := by decide +kernel
theorem dX0_gather_24 : decode cX0_gather 24 = .ok (.iconst 0, 1) := by decide +kernel
theorem dX0_gather_25 : decode cX0_gather 25 = .ok (.istore 4, 2) := by decide +kernel
theorem dX0_gather_27 : decode cX0_gather 27 = .ok (.iload 4, 2) := by decide +kernel
theorem dX0_gather_29 : decode cX0_gather 29 = .ok (.iload_n 3, 1) := by decide +kernel
theorem dX0_gather_30 : decode cX0_gather 30 = .ok (.if_icmp .ge 62, 3) := by decide +kernel
theorem dX0_gather_33 : decode cX0_gather 33 = .ok (.iload 4, 2) := by decide +kernel
theorem dX0_gather_35 : decode cX0_gather 35 = .ok (.iload_n 3, 1) := by decide +kernel
theorem dX0_gather_36 : decode cX0_gather 36 = .ok (.iload_n 2, 1) := by decide +kernel
theorem dX0_gather_37 : decode cX0_gather 37 = .ok (.invokestatic 88, 3) := by decide +kernel
theorem dX0_gather_40 : decode cX0_gather 40 = .ok (.istore 5, 2) := by decide +kernel
theorem dX0_gather_42 : decode cX0_gather 42 = .ok (.aload_n 0, 1) := by decide +kernel
theorem dX0_gather_43 : decode cX0_gather 43 = .ok (.getfield 43, 3) := by decide +kernel
theorem dX0_gather_46 : decode cX0_gather 46 = .ok (.getfield 94, 3) := by decide +kernel
theorem dX0_gather_49 : decode cX0_gather 49 = .ok (.iload 5, 2) := by decide +kernel
theorem dX0_gather_51 : decode cX0_gather 51 = .ok (.baload, 1) := by decide +kernel
theorem dX0_gather_52 : decode cX0_gather 52 = .ok (.ifCond .ne 16, 3) := by decide +kernel
theorem dX0_gather_55 : decode cX0_gather 55 = .ok (.aload_n 0, 1) := by decide +kernel
theorem dX0_gather_56 : decode cX0_gather 56 = .ok (.getfield 43, 3) := by decide +kernel
theorem dX0_gather_59 : decode cX0_gather 59 = .ok (.getfield 98, 3) := by decide +kernel
theorem dX0_gather_62 : decode cX0_gather 62 = .ok (.iload 5, 2) := by decide +kernel
theorem dX0_gather_64 : decode cX0_gather 64 = .ok (.iaload, 1) := by decide +kernel
theorem dX0_gather_65 : decode cX0_gather 65 = .ok (.ifCond .eq 21, 3) := by decide +kernel
theorem dX0_gather_68 : decode cX0_gather 68 = .ok (.aload_n 0, 1) := by decide +kernel
theorem dX0_gather_69 : decode cX0_gather 69 = .ok (.iload 4, 2) := by decide +kernel
theorem dX0_gather_71 : decode cX0_gather 71 = .ok (.iload_n 3, 1) := by decide +kernel
theorem dX0_gather_72 : decode cX0_gather 72 = .ok (.iload_n 2, 1) := by decide +kernel
theorem dX0_gather_73 : decode cX0_gather 73 = .ok (.aload_n 0, 1) := by decide +kernel
theorem dX0_gather_74 : decode cX0_gather 74 = .ok (.getfield 43, 3) := by decide +kernel
theorem dX0_gather_77 : decode cX0_gather 77 = .ok (.getfield 98, 3) := by decide +kernel
theorem dX0_gather_80 : decode cX0_gather 80 = .ok (.iload 5, 2) := by decide +kernel
theorem dX0_gather_82 : decode cX0_gather 82 = .ok (.iaload, 1) := by decide +kernel
theorem dX0_gather_83 : decode cX0_gather 83 = .ok (.invokevirtual 101, 3) := by decide +kernel
theorem dX0_gather_86 : decode cX0_gather 86 = .ok (.iinc 4 1, 3) := by decide +kernel
theorem dX0_gather_89 : decode cX0_gather 89 = .ok (.goto (-62), 3) := by decide +kernel
theorem dX0_gather_92 : decode cX0_gather 92 = .ok (.iinc 3 1, 3) := by decide +kernel
theorem dX0_gather_95 : decode cX0_gather 95 = .ok (.goto (-76), 3) := by decide +kernel
theorem dX0_gather_98 : decode cX0_gather 98 = .ok (.iinc 2 1, 3) := by decide +kernel
theorem dX0_gather_101 : decode cX0_gather 101 = .ok (.goto (-90), 3) := by decide +kernel
theorem dX0_gather_104 : decode cX0_gather 104 = .ok (.iconst 0, 1) := by decide +kernel
theorem dX0_gather_105 : decode cX0_gather 105 = .ok (.istore_n 2, 1) := by decide +kernel
theorem dX0_gather_106 : decode cX0_gather 106 = .ok (.iload_n 2, 1) := by decide +kernel
theorem dX0_gather_107 : decode cX0_gather 107 = .ok (.iload_n 1, 1) := by decide +kernel
theorem dX0_gather_108 : decode cX0_gather 108 = .ok (.if_icmp .ge 14, 3) := by decide +kernel
theorem dX0_gather_111 : decode cX0_gather 111 = .ok (.aload_n 0, 1) := by decide +kernel
theorem dX0_gather_112 : decode cX0_gather 112 = .ok (.iload_n 2, 1) := by decide +kernel
theorem dX0_gather_113 : decode cX0_gather 113 = .ok (.invokevirtual 61, 3) := by decide +kernel
theorem dX0_gather_116 : decode cX0_gather 116 = .ok (.iinc 2 1, 3) := by decide +kernel
theorem dX0_gather_119 : decode cX0_gather 119 = .ok (.goto (-13), 3) := by decide +kernel
theorem dX0_gather_122 : decode cX0_gather 122 = .ok (.return_, 1) := by decide +kernel
set_option maxRecDepth 20000 in
theorem ggX0_signNow_X0_orderOf : GoodIn wsX0_signNow wsX0_orderOf := goodIn_r _ [5] (by decide +kernel) (by decide +kernel)
set_option maxRecDepth 20000 in
theorem gX0_signNow_X0_orderOf : GoodIn wsX0_signNow (va_wsS RX0 105 yX0_orderOf wsX0_orderOf) := goodIn_app (goodIn_of _ (by decide +kernel)) ggX0_signNow_X0_orderOf
theorem dX0_signNow_0 : decode cX0_signNow 0 = .ok (.aload_n 0, 1) := by decide +kernel
theorem dX0_signNow_1 : decode cX0_signNow 1 = .ok (.getfield 31, 3) := by decide +kernel
theorem dX0_signNow_4 : decode cX0_signNow 4 = .ok (.iload_n 1, 1) := by decide +kernel
theorem dX0_signNow_5 : decode cX0_signNow 5 = .ok (.iload_n 2, 1) := by decide +kernel
theorem dX0_signNow_6 : decode cX0_signNow 6 = .ok (.iload_n 3, 1) := by decide +kernel
theorem dX0_signNow_7 : decode cX0_signNow 7 = .ok (.invokestatic 105, 3) := by decide +kernel
theorem dX0_signNow_10 : decode cX0_signNow 10 = .ok (.iaload, 1) := by decide +kernel
theorem dX0_signNow_11 : decode cX0_signNow 11 = .ok (.ireturn, 1) := by decide +kernel
set_option maxRecDepth 20000 in
theorem ggX0_learn_X0_setNow : GoodIn wsX0_learn wsX0_setNow := goodIn_r _ [8, 9, 10, 11, 7, 12, 13, 14, 15, 16, 17, 18, 19, 20, 21, 22, 23] (by decide +kernel) (by decide +kernel)
set_option maxRecDepth 20000 in
theorem gX0_learn_X0_setNow : GoodIn wsX0_learn (wsV RX0 101 RX0 yX0_setNow wsX0_setNow) := goodIn_app (goodIn_of _ (by decide +kernel)) ggX0_learn_X0_setNow
theorem dX0_learn_0 : decode cX0_learn 0 = .ok (.aload_n 0, 1) := by decide +kernel
theorem dX0_learn_1 : decode cX0_learn 1 = .ok (.getfield 18, 3) := by decide +kernel
theorem dX0_learn_4 : decode cX0_learn 4 = .ok (.iload_n 1, 1) := by decide +kernel
theorem dX0_learn_5 : decode cX0_learn 5 = .ok (.iaload, 1) := by decide +kernel
theorem dX0_learn_6 : decode cX0_learn 6 = .ok (.iconst 1, 1) := by decide +kernel
theorem dX0_learn_7 : decode cX0_learn 7 = .ok (.if_icmp .eq 41, 3) := by decide +kernel
theorem dX0_learn_10 : decode cX0_learn 10 = .ok (.aload_n 0, 1) := by decide +kernel
theorem dX0_learn_11 : decode cX0_learn 11 = .ok (.aload_n 0, 1) := by decide +kernel
theorem dX0_learn_12 : decode cX0_learn 12 = .ok (.getfield 28, 3) := by decide +kernel
theorem dX0_learn_15 : decode cX0_learn 15 = .ok (.iconst 3, 1) := by decide +kernel
theorem dX0_learn_16 : decode cX0_learn 16 = .ok (.iload_n 1, 1) := by decide +kernel
theorem dX0_learn_17 : decode cX0_learn 17 = .ok (.imul, 1) := by decide +kernel
theorem dX0_learn_18 : decode cX0_learn 18 = .ok (.iaload, 1) := by decide +kernel
theorem dX0_learn_19 : decode cX0_learn 19 = .ok (.aload_n 0, 1) := by decide +kernel
theorem dX0_learn_20 : decode cX0_learn 20 = .ok (.getfield 28, 3) := by decide +kernel
theorem dX0_learn_23 : decode cX0_learn 23 = .ok (.iconst 3, 1) := by decide +kernel
theorem dX0_learn_24 : decode cX0_learn 24 = .ok (.iload_n 1, 1) := by decide +kernel
theorem dX0_learn_25 : decode cX0_learn 25 = .ok (.imul, 1) := by decide +kernel
theorem dX0_learn_26 : decode cX0_learn 26 = .ok (.iconst 1, 1) := by decide +kernel
theorem dX0_learn_27 : decode cX0_learn 27 = .ok (.iadd, 1) := by decide +kernel
theorem dX0_learn_28 : decode cX0_learn 28 = .ok (.iaload, 1) := by decide +kernel
theorem dX0_learn_29 : decode cX0_learn 29 = .ok (.aload_n 0, 1) := by decide +kernel
theorem dX0_learn_30 : decode cX0_learn 30 = .ok (.getfield 28, 3) := by decide +kernel
theorem dX0_learn_33 : decode cX0_learn 33 = .ok (.iconst 3, 1) := by decide +kernel
theorem dX0_learn_34 : decode cX0_learn 34 = .ok (.iload_n 1, 1) := by decide +kernel
theorem dX0_learn_35 : decode cX0_learn 35 = .ok (.imul, 1) := by decide +kernel
theorem dX0_learn_36 : decode cX0_learn 36 = .ok (.iconst 2, 1) := by decide +kernel
theorem dX0_learn_37 : decode cX0_learn 37 = .ok (.iadd, 1) := by decide +kernel
theorem dX0_learn_38 : decode cX0_learn 38 = .ok (.iaload, 1) := by decide +kernel
theorem dX0_learn_39 : decode cX0_learn 39 = .ok (.aload_n 0, 1) := by decide +kernel
theorem dX0_learn_40 : decode cX0_learn 40 = .ok (.getfield 22, 3) := by decide +kernel
theorem dX0_learn_43 : decode cX0_learn 43 = .ok (.iload_n 1, 1) := by decide +kernel
theorem dX0_learn_44 : decode cX0_learn 44 = .ok (.iaload, 1) := by decide +kernel
theorem dX0_learn_45 : decode cX0_learn 45 = .ok (.invokevirtual 101, 3) := by decide +kernel
theorem dX0_learn_48 : decode cX0_learn 48 = .ok (.return_, 1) := by decide +kernel
set_option maxRecDepth 20000 in
theorem ggX0_setNow_X0_orderOf : GoodIn wsX0_setNow wsX0_orderOf := goodIn_r _ [5] (by decide +kernel) (by decide +kernel)
set_option maxRecDepth 20000 in
theorem gX0_setNow_X0_orderOf : GoodIn wsX0_setNow (va_wsS RX0 105 yX0_orderOf wsX0_orderOf) := goodIn_app (goodIn_of _ (by decide +kernel)) ggX0_setNow_X0_orderOf
theorem dX0_setNow_0 : decode cX0_setNow 0 = .ok (.aload_n 0, 1) := by decide +kernel
theorem dX0_setNow_1 : decode cX0_setNow 1 = .ok (.getfield 31, 3) := by decide +kernel
theorem dX0_setNow_4 : decode cX0_setNow 4 = .ok (.iload_n 1, 1) := by decide +kernel
theorem dX0_setNow_5 : decode cX0_setNow 5 = .ok (.iload_n 2, 1) := by decide +kernel
theorem dX0_setNow_6 : decode cX0_setNow 6 = .ok (.iload_n 3, 1) := by decide +kernel
theorem dX0_setNow_7 : decode cX0_setNow 7 = .ok (.invokestatic 105, 3) := by decide +kernel
theorem dX0_setNow_10 : decode cX0_setNow 10 = .ok (.iload 4, 2) := by decide +kernel
theorem dX0_setNow_12 : decode cX0_setNow 12 = .ok (.iastore, 1) := by decide +kernel
theorem dX0_setNow_13 : decode cX0_setNow 13 = .ok (.aload_n 0, 1) := by decide +kernel
theorem dX0_setNow_14 : decode cX0_setNow 14 = .ok (.getfield 31, 3) := by decide +kernel
theorem dX0_setNow_17 : decode cX0_setNow 17 = .ok (.iload_n 2, 1) := by decide +kernel
theorem dX0_setNow_18 : decode cX0_setNow 18 = .ok (.iload_n 3, 1) := by decide +kernel
theorem dX0_setNow_19 : decode cX0_setNow 19 = .ok (.iload_n 1, 1) := by decide +kernel
theorem dX0_setNow_20 : decode cX0_setNow 20 = .ok (.invokestatic 105, 3) := by decide +kernel
theorem dX0_setNow_23 : decode cX0_setNow 23 = .ok (.iload 4, 2) := by decide +kernel
theorem dX0_setNow_25 : decode cX0_setNow 25 = .ok (.iastore, 1) := by decide +kernel
theorem dX0_setNow_26 : decode cX0_setNow 26 = .ok (.aload_n 0, 1) := by decide +kernel
theorem dX0_setNow_27 : decode cX0_setNow 27 = .ok (.getfield 31, 3) := by decide +kernel
theorem dX0_setNow_30 : decode cX0_setNow 30 = .ok (.iload_n 3, 1) := by decide +kernel
theorem dX0_setNow_31 : decode cX0_setNow 31 = .ok (.iload_n 1, 1) := by decide +kernel
theorem dX0_setNow_32 : decode cX0_setNow 32 = .ok (.iload_n 2, 1) := by decide +kernel
theorem dX0_setNow_33 : decode cX0_setNow 33 = .ok (.invokestatic 105, 3) := by decide +kernel
theorem dX0_setNow_36 : decode cX0_setNow 36 = .ok (.iload 4, 2) := by decide +kernel
theorem dX0_setNow_38 : decode cX0_setNow 38 = .ok (.iastore, 1) := by decide +kernel
theorem dX0_setNow_39 : decode cX0_setNow 39 = .ok (.aload_n 0, 1) := by decide +kernel
theorem dX0_setNow_40 : decode cX0_setNow 40 = .ok (.getfield 31, 3) := by decide +kernel
theorem dX0_setNow_43 : decode cX0_setNow 43 = .ok (.iload_n 2, 1) := by decide +kernel
theorem dX0_setNow_44 : decode cX0_setNow 44 = .ok (.iload_n 1, 1) := by decide +kernel
theorem dX0_setNow_45 : decode cX0_setNow 45 = .ok (.iload_n 3, 1) := by decide +kernel
theorem dX0_setNow_46 : decode cX0_setNow 46 = .ok (.invokestatic 105, 3) := by decide +kernel
theorem dX0_setNow_49 : decode cX0_setNow 49 = .ok (.iload 4, 2) := by decide +kernel
theorem dX0_setNow_51 : decode cX0_setNow 51 = .ok (.ineg, 1) := by decide +kernel
theorem dX0_setNow_52 : decode cX0_setNow 52 = .ok (.iastore, 1) := by decide +kernel
theorem dX0_setNow_53 : decode cX0_setNow 53 = .ok (.aload_n 0, 1) := by decide +kernel
theorem dX0_setNow_54 : decode cX0_setNow 54 = .ok (.getfield 31, 3) := by decide +kernel
theorem dX0_setNow_57 : decode cX0_setNow 57 = .ok (.iload_n 1, 1) := by decide +kernel
theorem dX0_setNow_58 : decode cX0_setNow 58 = .ok (.iload_n 3, 1) := by decide +kernel
theorem dX0_setNow_59 : decode cX0_setNow 59 = .ok (.iload_n 2, 1) := by decide +kernel
theorem dX0_setNow_60 : decode cX0_setNow 60 = .ok (.invokestatic 105, 3) := by decide +kernel
theorem dX0_setNow_63 : decode cX0_setNow 63 = .ok (.iload 4, 2) := by decide +kernel
theorem dX0_setNow_65 : decode cX0_setNow 65 = .ok (.ineg, 1) := by decide +kernel
theorem dX0_setNow_66 : decode cX0_setNow 66 = .ok (.iastore, 1) := by decide +kernel
theorem dX0_setNow_67 : decode cX0_setNow 67 = .ok (.aload_n 0, 1) := by decide +kernel
theorem dX0_setNow_68 : decode cX0_setNow 68 = .ok (.getfield 31, 3) := by decide +kernel
theorem dX0_setNow_71 : decode cX0_setNow 71 = .ok (.iload_n 3, 1) := by decide +kernel
theorem dX0_setNow_72 : decode cX0_setNow 72 = .ok (.iload_n 2, 1) := by decide +kernel
theorem dX0_setNow_73 : decode cX0_setNow 73 = .ok (.iload_n 1, 1) := by decide +kernel
theorem dX0_setNow_74 : decode cX0_setNow 74 = .ok (.invokestatic 105, 3) := by decide +kernel
theorem dX0_setNow_77 : decode cX0_setNow 77 = .ok (.iload 4, 2) := by decide +kernel
theorem dX0_setNow_79 : decode cX0_setNow 79 = .ok (.ineg, 1) := by decide +kernel
theorem dX0_setNow_80 : decode cX0_setNow 80 = .ok (.iastore, 1) := by decide +kernel
theorem dX0_setNow_81 : decode cX0_setNow 81 = .ok (.return_, 1) := by decide +kernel
theorem dX0_orderOf_0 : decode cX0_orderOf 0 = .ok (.iload_n 0, 1) := by decide +kernel
theorem dX0_orderOf_1 : decode cX0_orderOf 1 = .ok (.bipush 10, 2) := by decide +kernel
theorem dX0_orderOf_3 : decode cX0_orderOf 3 = .ok (.imul, 1) := by decide +kernel
theorem dX0_orderOf_4 : decode cX0_orderOf 4 = .ok (.iload_n 1, 1) := by decide +kernel
theorem dX0_orderOf_5 : decode cX0_orderOf 5 = .ok (.iadd, 1) := by decide +kernel
theorem dX0_orderOf_6 : decode cX0_orderOf 6 = .ok (.bipush 10, 2) := by decide +kernel
theorem dX0_orderOf_8 : decode cX0_orderOf 8 = .ok (.imul, 1) := by decide +kernel
theorem dX0_orderOf_9 : decode cX0_orderOf 9 = .ok (.iload_n 2, 1) := by decide +kernel
theorem dX0_orderOf_10 : decode cX0_orderOf 10 = .ok (.iadd, 1) := by decide +kernel
theorem dX0_orderOf_11 : decode cX0_orderOf 11 = .ok (.ireturn, 1) := by decide +kernel
theorem dX0_recall_0 : decode cX0_recall 0 = .ok (.aload_n 0, 1) := by decide +kernel
theorem dX0_recall_1 : decode cX0_recall 1 = .ok (.getfield 25, 3) := by decide +kernel
theorem dX0_recall_4 : decode cX0_recall 4 = .ok (.iconst 5, 1) := by decide +kernel
theorem dX0_recall_5 : decode cX0_recall 5 = .ok (.iload_n 1, 1) := by decide +kernel
theorem dX0_recall_6 : decode cX0_recall 6 = .ok (.imul, 1) := by decide +kernel
theorem dX0_recall_7 : decode cX0_recall 7 = .ok (.aload_n 0, 1) := by decide +kernel
theorem dX0_recall_8 : decode cX0_recall 8 = .ok (.getfield 34, 3) := by decide +kernel
theorem dX0_recall_11 : decode cX0_recall 11 = .ok (.iconst 0, 1) := by decide +kernel
theorem dX0_recall_12 : decode cX0_recall 12 = .ok (.iconst 5, 1) := by decide +kernel
theorem dX0_recall_13 : decode cX0_recall 13 = .ok (.invokestatic 108, 3) := by decide +kernel
theorem dX0_recall_16 : decode cX0_recall 16 = .ok (.return_, 1) := by decide +kernel
theorem dX0_tellsSame_0 : decode cX0_tellsSame 0 = .ok (.iconst 0, 1) := by decide +kernel
theorem dX0_tellsSame_1 : decode cX0_tellsSame 1 = .ok (.istore_n 2, 1) := by decide +kernel
theorem dX0_tellsSame_2 : decode cX0_tellsSame 2 = .ok (.iload_n 2, 1) := by decide +kernel
theorem dX0_tellsSame_3 : decode cX0_tellsSame 3 = .ok (.iconst 3, 1) := by decide +kernel
theorem dX0_tellsSame_4 : decode cX0_tellsSame 4 = .ok (.if_icmp .ge 30, 3) := by decide +kernel
theorem dX0_tellsSame_7 : decode cX0_tellsSame 7 = .ok (.aload_n 0, 1) := by decide +kernel
theorem dX0_tellsSame_8 : decode cX0_tellsSame 8 = .ok (.getfield 28, 3) := by decide +kernel
theorem dX0_tellsSame_11 : decode cX0_tellsSame 11 = .ok (.iconst 3, 1) := by decide +kernel
theorem dX0_tellsSame_12 : decode cX0_tellsSame 12 = .ok (.iload_n 1, 1) := by decide +kernel
theorem dX0_tellsSame_13 : decode cX0_tellsSame 13 = .ok (.imul, 1) := by decide +kernel
theorem dX0_tellsSame_14 : decode cX0_tellsSame 14 = .ok (.iload_n 2, 1) := by decide +kernel
theorem dX0_tellsSame_15 : decode cX0_tellsSame 15 = .ok (.iadd, 1) := by decide +kernel
theorem dX0_tellsSame_16 : decode cX0_tellsSame 16 = .ok (.iaload, 1) := by decide +kernel
theorem dX0_tellsSame_17 : decode cX0_tellsSame 17 = .ok (.aload_n 0, 1) := by decide +kernel
theorem dX0_tellsSame_18 : decode cX0_tellsSame 18 = .ok (.getfield 37, 3) := by decide +kernel
theorem dX0_tellsSame_21 : decode cX0_tellsSame 21 = .ok (.iload_n 2, 1) := by decide +kernel
theorem dX0_tellsSame_22 : decode cX0_tellsSame 22 = .ok (.iaload, 1) := by decide +kernel
theorem dX0_tellsSame_23 : decode cX0_tellsSame 23 = .ok (.if_icmp .eq 5, 3) := by decide +kernel
theorem dX0_tellsSame_26 : decode cX0_tellsSame 26 = .ok (.iconst 0, 1) := by decide +kernel
theorem dX0_tellsSame_27 : decode cX0_tellsSame 27 = .ok (.ireturn, 1) := by decide +kernel
theorem dX0_tellsSame_28 : decode cX0_tellsSame 28 = .ok (.iinc 2 1, 3) := by decide +kernel
theorem dX0_tellsSame_31 : decode cX0_tellsSame 31 = .ok (.goto (-29), 3) := by decide +kernel
theorem dX0_tellsSame_34 : decode cX0_tellsSame 34 = .ok (.aload_n 0, 1) := by decide +kernel
theorem dX0_tellsSame_35 : decode cX0_tellsSame 35 = .ok (.getfield 22, 3) := by decide +kernel
theorem dX0_tellsSame_38 : decode cX0_tellsSame 38 = .ok (.iload_n 1, 1) := by decide +kernel
theorem dX0_tellsSame_39 : decode cX0_tellsSame 39 = .ok (.iaload, 1) := by decide +kernel
theorem dX0_tellsSame_40 : decode cX0_tellsSame 40 = .ok (.aload_n 0, 1) := by decide +kernel
theorem dX0_tellsSame_41 : decode cX0_tellsSame 41 = .ok (.getfield 40, 3) := by decide +kernel
theorem dX0_tellsSame_44 : decode cX0_tellsSame 44 = .ok (.if_icmp .ne 7, 3) := by decide +kernel
theorem dX0_tellsSame_47 : decode cX0_tellsSame 47 = .ok (.iconst 1, 1) := by decide +kernel
theorem dX0_tellsSame_48 : decode cX0_tellsSame 48 = .ok (.goto 4, 3) := by decide +kernel
theorem dX0_tellsSame_51 : decode cX0_tellsSame 51 = .ok (.iconst 0, 1) := by decide +kernel
theorem dX0_tellsSame_52 : decode cX0_tellsSame 52 = .ok (.ireturn, 1) := by decide +kernel
theorem dX0_addRow_0 : decode cX0_addRow 0 = .ok (.iload_n 1, 1) := by decide +kernel
theorem dX0_addRow_1 : decode cX0_addRow 1 = .ok (.iconst 1, 1) := by decide +kernel
theorem dX0_addRow_2 : decode cX0_addRow 2 = .ok (.if_icmp .ne 7, 3) := by decide +kernel
theorem dX0_addRow_5 : decode cX0_addRow 5 = .ok (.iconst 1, 1) := by decide +kernel
theorem dX0_addRow_6 : decode cX0_addRow 6 = .ok (.goto 4, 3) := by decide +kernel
theorem dX0_addRow_9 : decode cX0_addRow 9 = .ok (.iconst 0, 1) := by decide +kernel
theorem dX0_addRow_10 : decode cX0_addRow 10 = .ok (.istore_n 2, 1) := by decide +kernel
theorem dX0_addRow_11 : decode cX0_addRow 11 = .ok (.aload_n 0, 1) := by decide +kernel
theorem dX0_addRow_12 : decode cX0_addRow 12 = .ok (.getfield 18, 3) := by decide +kernel
theorem dX0_addRow_15 : decode cX0_addRow 15 = .ok (.aload_n 0, 1) := by decide +kernel
theorem dX0_addRow_16 : decode cX0_addRow 16 = .ok (.getfield 9, 3) := by decide +kernel
theorem dX0_addRow_19 : decode cX0_addRow 19 = .ok (.iload_n 1, 1) := by decide +kernel
theorem dX0_addRow_20 : decode cX0_addRow 20 = .ok (.iastore, 1) := by decide +kernel
theorem dX0_addRow_21 : decode cX0_addRow 21 = .ok (.aload_n 0, 1) := by decide +kernel
theorem dX0_addRow_22 : decode cX0_addRow 22 = .ok (.getfield 22, 3) := by decide +kernel
theorem dX0_addRow_25 : decode cX0_addRow 25 = .ok (.aload_n 0, 1) := by decide +kernel
theorem dX0_addRow_26 : decode cX0_addRow 26 = .ok (.getfield 9, 3) := by decide +kernel
theorem dX0_addRow_29 : decode cX0_addRow 29 = .ok (.iload_n 2, 1) := by decide +kernel
theorem dX0_addRow_30 : decode cX0_addRow 30 = .ok (.ifCond .eq 7, 3) := by decide +kernel
theorem dX0_addRow_33 : decode cX0_addRow 33 = .ok (.iconst 0, 1) := by decide +kernel
theorem dX0_addRow_34 : decode cX0_addRow 34 = .ok (.goto 7, 3) := by decide +kernel
theorem dX0_addRow_37 : decode cX0_addRow 37 = .ok (.aload_n 0, 1) := by decide +kernel
theorem dX0_addRow_38 : decode cX0_addRow 38 = .ok (.getfield 40, 3) := by decide +kernel
theorem dX0_addRow_41 : decode cX0_addRow 41 = .ok (.iastore, 1) := by decide +kernel
theorem dX0_addRow_42 : decode cX0_addRow 42 = .ok (.aload_n 0, 1) := by decide +kernel
theorem dX0_addRow_43 : decode cX0_addRow 43 = .ok (.getfield 34, 3) := by decide +kernel
theorem dX0_addRow_46 : decode cX0_addRow 46 = .ok (.iconst 0, 1) := by decide +kernel
theorem dX0_addRow_47 : decode cX0_addRow 47 = .ok (.aload_n 0, 1) := by decide +kernel
theorem dX0_addRow_48 : decode cX0_addRow 48 = .ok (.getfield 25, 3) := by decide +kernel
theorem dX0_addRow_51 : decode cX0_addRow 51 = .ok (.iconst 5, 1) := by decide +kernel
theorem dX0_addRow_52 : decode cX0_addRow 52 = .ok (.aload_n 0, 1) := by decide +kernel
theorem dX0_addRow_53 : decode cX0_addRow 53 = .ok (.getfield 9, 3) := by decide +kernel
theorem dX0_addRow_56 : decode cX0_addRow 56 = .ok (.imul, 1) := by decide +kernel
theorem dX0_addRow_57 : decode cX0_addRow 57 = .ok (.iconst 5, 1) := by decide +kernel
theorem dX0_addRow_58 : decode cX0_addRow 58 = .ok (.invokestatic 108, 3) := by decide +kernel
theorem dX0_addRow_61 : decode cX0_addRow 61 = .ok (.iconst 0, 1) := by decide +kernel
theorem dX0_addRow_62 : decode cX0_addRow 62 = .ok (.istore_n 3, 1) := by decide +kernel
theorem dX0_addRow_63 : decode cX0_addRow 63 = .ok (.iload_n 3, 1) := by decide +kernel
theorem dX0_addRow_64 : decode cX0_addRow 64 = .ok (.iconst 3, 1) := by decide +kernel
theorem dX0_addRow_65 : decode cX0_addRow 65 = .ok (.if_icmp .ge 37, 3) := by decide +kernel
theorem dX0_addRow_68 : decode cX0_addRow 68 = .ok (.aload_n 0, 1) := by decide +kernel
theorem dX0_addRow_69 : decode cX0_addRow 69 = .ok (.getfield 28, 3) := by decide +kernel
theorem dX0_addRow_72 : decode cX0_addRow 72 = .ok (.iconst 3, 1) := by decide +kernel
theorem dX0_addRow_73 : decode cX0_addRow 73 = .ok (.aload_n 0, 1) := by decide +kernel
theorem dX0_addRow_74 : decode cX0_addRow 74 = .ok (.getfield 9, 3) := by decide +kernel
theorem dX0_addRow_77 : decode cX0_addRow 77 = .ok (.imul, 1) := by decide +kernel
theorem dX0_addRow_78 : decode cX0_addRow 78 = .ok (.iload_n 3, 1) := by decide +kernel
theorem dX0_addRow_79 : decode cX0_addRow 79 = .ok (.iadd, 1) := by decide +kernel
theorem dX0_addRow_80 : decode cX0_addRow 80 = .ok (.iload_n 2, 1) := by decide +kernel
theorem dX0_addRow_81 : decode cX0_addRow 81 = .ok (.ifCond .eq 8, 3) := by decide +kernel
theorem dX0_addRow_84 : decode cX0_addRow 84 = .ok (.bipush (-4), 2) := by decide +kernel
theorem dX0_addRow_86 : decode cX0_addRow 86 = .ok (.goto 9, 3) := by decide +kernel
theorem dX0_addRow_89 : decode cX0_addRow 89 = .ok (.aload_n 0, 1) := by decide +kernel
theorem dX0_addRow_90 : decode cX0_addRow 90 = .ok (.getfield 37, 3) := by decide +kernel
theorem dX0_addRow_93 : decode cX0_addRow 93 = .ok (.iload_n 3, 1) := by decide +kernel
theorem dX0_addRow_94 : decode cX0_addRow 94 = .ok (.iaload, 1) := by decide +kernel
theorem dX0_addRow_95 : decode cX0_addRow 95 = .ok (.iastore, 1) := by decide +kernel
theorem dX0_addRow_96 : decode cX0_addRow 96 = .ok (.iinc 3 1, 3) := by decide +kernel
theorem dX0_addRow_99 : decode cX0_addRow 99 = .ok (.goto (-36), 3) := by decide +kernel
theorem dX0_addRow_102 : decode cX0_addRow 102 = .ok (.aload_n 0, 1) := by decide +kernel
theorem dX0_addRow_103 : decode cX0_addRow 103 = .ok (.dup, 1) := by decide +kernel
theorem dX0_addRow_104 : decode cX0_addRow 104 = .ok (.getfield 9, 3) := by decide +kernel
theorem dX0_addRow_107 : decode cX0_addRow 107 = .ok (.iconst 1, 1) := by decide +kernel
theorem dX0_addRow_108 : decode cX0_addRow 108 = .ok (.iadd, 1) := by decide +kernel
theorem dX0_addRow_109 : decode cX0_addRow 109 = .ok (.putfield 9, 3) := by decide +kernel
theorem dX0_addRow_112 : decode cX0_addRow 112 = .ok (.return_, 1) := by decide +kernel
set_option maxRecDepth 20000 in
theorem ggX0_firstKind_X0_setRelation : GoodIn wsX0_firstKind wsX0_setRelation := goodIn_r _ [5, 6, 45, 46, 47, 48, 49, 50, 51, 52, 53, 54, 55] (by decide +kernel) (by decide +kernel)
set_option maxRecDepth 20000 in
theorem gX0_firstKind_X0_setRelation : GoodIn wsX0_firstKind (wsV RX0 114 RX0 yX0_setRelation wsX0_setRelation) := goodIn_app (goodIn_of _ (by decide +kernel)) ggX0_firstKind_X0_setRelation
set_option maxRecDepth 20000 in
theorem ggX0_firstKind_X0_judge : GoodIn wsX0_firstKind wsX0_judge := goodIn_r _ [10, 11, 12, 13, 14, 4, 15, 16, 6, 17, 18, 19, 20, 21, 22, 23, 24, 25, 26, 27, 28, 29, 30, 31, 32, 33, 34, 35, 36, 37, 38, 39, 40, 41, 42, 43, 44, 45, 46, 47, 48, 49, 50, 51, 52, 53, 54, 55, 56, 57, 58, 59, 60] (by decide +kernel) (by decide +kernel)
set_option maxRecDepth 20000 in
theorem gX0_firstKind_X0_judge : GoodIn wsX0_firstKind (wsV RX0 67 RX0 yX0_judge wsX0_judge) := goodIn_app (goodIn_of _ (by decide +kernel)) ggX0_firstKind_X0_judge
theorem dX0_firstKind_0 : decode cX0_firstKind 0 = .ok (.iload_n 1, 1) := by decide +kernel
theorem dX0_firstKind_1 : decode cX0_firstKind 1 = .ok (.iconst 1, 1) := by decide +kernel
theorem dX0_firstKind_2 : decode cX0_firstKind 2 = .ok (.isub, 1) := by decide +kernel
theorem dX0_firstKind_3 : decode cX0_firstKind 3 = .ok (.istore_n 2, 1) := by decide +kernel
theorem dX0_firstKind_4 : decode cX0_firstKind 4 = .ok (.iconst 0, 1) := by decide +kernel
theorem dX0_firstKind_5 : decode cX0_firstKind 5 = .ok (.istore_n 3, 1) := by decide +kernel
theorem dX0_firstKind_6 : decode cX0_firstKind 6 = .ok (.iload_n 3, 1) := by decide +kernel
theorem dX0_firstKind_7 : decode cX0_firstKind 7 = .ok (.iload_n 1, 1) := by decide +kernel
theorem dX0_firstKind_8 : decode cX0_firstKind 8 = .ok (.if_icmp .ge 107, 3) := by decide +kernel
theorem dX0_firstKind_11 : decode cX0_firstKind 11 = .ok (.iconst 0, 1) := by decide +kernel
theorem dX0_firstKind_12 : decode cX0_firstKind 12 = .ok (.istore 4, 2) := by decide +kernel
theorem dX0_firstKind_14 : decode cX0_firstKind 14 = .ok (.iload 4, 2) := by decide +kernel
theorem dX0_firstKind_16 : decode cX0_firstKind 16 = .ok (.iload_n 2, 1) := by decide +kernel
theorem dX0_firstKind_17 : decode cX0_firstKind 17 = .ok (.if_icmp .ge 92, 3) := by decide +kernel
theorem dX0_firstKind_20 : decode cX0_firstKind 20 = .ok (.iload 4, 2) := by decide +kernel
theorem dX0_firstKind_22 : decode cX0_firstKind 22 = .ok (.iconst 1, 1) := by decide +kernel
theorem dX0_firstKind_23 : decode cX0_firstKind 23 = .ok (.iadd, 1) := by decide +kernel
theorem dX0_firstKind_24 : decode cX0_firstKind 24 = .ok (.istore 5, 2) := by decide +kernel
theorem dX0_firstKind_26 : decode cX0_firstKind 26 = .ok (.iload 5, 2) := by decide +kernel
theorem dX0_firstKind_28 : decode cX0_firstKind 28 = .ok (.iload_n 2, 1) := by decide +kernel
theorem dX0_firstKind_29 : decode cX0_firstKind 29 = .ok (.if_icmp .ge 74, 3) := by decide +kernel
theorem dX0_firstKind_32 : decode cX0_firstKind 32 = .ok (.iload 5, 2) := by decide +kernel
theorem dX0_firstKind_34 : decode cX0_firstKind 34 = .ok (.iconst 1, 1) := by decide +kernel
theorem dX0_firstKind_35 : decode cX0_firstKind 35 = .ok (.iadd, 1) := by decide +kernel
theorem dX0_firstKind_36 : decode cX0_firstKind 36 = .ok (.istore 6, 2) := by decide +kernel
theorem dX0_firstKind_38 : decode cX0_firstKind 38 = .ok (.iload 6, 2) := by decide +kernel
theorem dX0_firstKind_40 : decode cX0_firstKind 40 = .ok (.iload_n 2, 1) := by decide +kernel
theorem dX0_firstKind_41 : decode cX0_firstKind 41 = .ok (.if_icmp .ge 56, 3) := by decide +kernel
theorem dX0_firstKind_44 : decode cX0_firstKind 44 = .ok (.iload 6, 2) := by decide +kernel
theorem dX0_firstKind_46 : decode cX0_firstKind 46 = .ok (.iconst 1, 1) := by decide +kernel
theorem dX0_firstKind_47 : decode cX0_firstKind 47 = .ok (.iadd, 1) := by decide +kernel
theorem dX0_firstKind_48 : decode cX0_firstKind 48 = .ok (.istore 7, 2) := by decide +kernel
theorem dX0_firstKind_50 : decode cX0_firstKind 50 = .ok (.iload 7, 2) := by decide +kernel
theorem dX0_firstKind_52 : decode cX0_firstKind 52 = .ok (.iload_n 2, 1) := by decide +kernel
theorem dX0_firstKind_53 : decode cX0_firstKind 53 = .ok (.if_icmp .ge 38, 3) := by decide +kernel
theorem dX0_firstKind_56 : decode cX0_firstKind 56 = .ok (.aload_n 0, 1) := by decide +kernel
theorem dX0_firstKind_57 : decode cX0_firstKind 57 = .ok (.iload_n 3, 1) := by decide +kernel
theorem dX0_firstKind_58 : decode cX0_firstKind 58 = .ok (.iload 4, 2) := by decide +kernel
theorem dX0_firstKind_60 : decode cX0_firstKind 60 = .ok (.iload 5, 2) := by decide +kernel
theorem dX0_firstKind_62 : decode cX0_firstKind 62 = .ok (.iload 6, 2) := by decide +kernel
theorem dX0_firstKind_64 : decode cX0_firstKind 64 = .ok (.iload 7, 2) := by decide +kernel
theorem dX0_firstKind_66 : decode cX0_firstKind 66 = .ok (.invokevirtual 114, 3) := by decide +kernel
theorem dX0_firstKind_69 : decode cX0_firstKind 69 = .ok (.aload_n 0, 1) := by decide +kernel
theorem dX0_firstKind_70 : decode cX0_firstKind 70 = .ok (.invokevirtual 67, 3) := by decide +kernel
theorem dX0_firstKind_73 : decode cX0_firstKind 73 = .ok (.istore 8, 2) := by decide +kernel
theorem dX0_firstKind_75 : decode cX0_firstKind 75 = .ok (.iload 8, 2) := by decide +kernel
theorem dX0_firstKind_77 : decode cX0_firstKind 77 = .ok (.bipush (-4), 2) := by decide +kernel
theorem dX0_firstKind_79 : decode cX0_firstKind 79 = .ok (.if_icmp .eq 6, 3) := by decide +kernel
theorem dX0_firstKind_82 : decode cX0_firstKind 82 = .ok (.iload 8, 2) := by decide +kernel
theorem dX0_firstKind_84 : decode cX0_firstKind 84 = .ok (.ireturn, 1) := by decide +kernel
theorem dX0_firstKind_85 : decode cX0_firstKind 85 = .ok (.iinc 7 1, 3) := by decide +kernel
theorem dX0_firstKind_88 : decode cX0_firstKind 88 = .ok (.goto (-38), 3) := by decide +kernel
theorem dX0_firstKind_91 : decode cX0_firstKind 91 = .ok (.iinc 6 1, 3) := by decide +kernel
theorem dX0_firstKind_94 : decode cX0_firstKind 94 = .ok (.goto (-56), 3) := by decide +kernel
theorem dX0_firstKind_97 : decode cX0_firstKind 97 = .ok (.iinc 5 1, 3) := by decide +kernel
theorem dX0_firstKind_100 : decode cX0_firstKind 100 = .ok (.goto (-74), 3) := by decide +kernel
theorem dX0_firstKind_103 : decode cX0_firstKind 103 = .ok (.iinc 4 1, 3) := by decide +kernel
theorem dX0_firstKind_106 : decode cX0_firstKind 106 = .ok (.goto (-92), 3) := by decide +kernel
theorem dX0_firstKind_109 : decode cX0_firstKind 109 = .ok (.iinc 3 1, 3) := by decide +kernel
theorem dX0_firstKind_112 : decode cX0_firstKind 112 = .ok (.goto (-106), 3) := by decide +kernel
theorem dX0_firstKind_115 : decode cX0_firstKind 115 = .ok (.bipush (-4), 2) := by decide +kernel
theorem dX0_firstKind_117 : decode cX0_firstKind 117 = .ok (.ireturn, 1) := by decide +kernel
theorem dX0_setRelation_0 : decode cX0_setRelation 0 = .ok (.aload_n 0, 1) := by decide +kernel
theorem dX0_setRelation_1 : decode cX0_setRelation 1 = .ok (.getfield 34, 3) := by decide +kernel
theorem dX0_setRelation_4 : decode cX0_setRelation 4 = .ok (.iconst 0, 1) := by decide +kernel
theorem dX0_setRelation_5 : decode cX0_setRelation 5 = .ok (.iload_n 1, 1) := by decide +kernel
theorem dX0_setRelation_6 : decode cX0_setRelation 6 = .ok (.iastore, 1) := by decide +kernel
theorem dX0_setRelation_7 : decode cX0_setRelation 7 = .ok (.aload_n 0, 1) := by decide +kernel
theorem dX0_setRelation_8 : decode cX0_setRelation 8 = .ok (.getfield 34, 3) := by decide +kernel
theorem dX0_setRelation_11 : decode cX0_setRelation 11 = .ok (.iconst 1, 1) := by decide +kernel
theorem dX0_setRelation_12 : decode cX0_setRelation 12 = .ok (.iload_n 2, 1) := by decide +kernel
theorem dX0_setRelation_13 : decode cX0_setRelation 13 = .ok (.iload_n 1, 1) := by decide +kernel
theorem dX0_setRelation_14 : decode cX0_setRelation 14 = .ok (.if_icmp .ge 7, 3) := by decide +kernel
theorem dX0_setRelation_17 : decode cX0_setRelation 17 = .ok (.iload_n 2, 1) := by decide +kernel
theorem dX0_setRelation_18 : decode cX0_setRelation 18 = .ok (.goto 6, 3) := by decide +kernel
theorem dX0_setRelation_21 : decode cX0_setRelation 21 = .ok (.iload_n 2, 1) := by decide +kernel
theorem dX0_setRelation_22 : decode cX0_setRelation 22 = .ok (.iconst 1, 1) := by decide +kernel
theorem dX0_setRelation_23 : decode cX0_setRelation 23 = .ok (.iadd, 1) := by decide +kernel
theorem dX0_setRelation_24 : decode cX0_setRelation 24 = .ok (.iastore, 1) := by decide +kernel
theorem dX0_setRelation_25 : decode cX0_setRelation 25 = .ok (.aload_n 0, 1) := by decide +kernel
theorem dX0_setRelation_26 : decode cX0_setRelation 26 = .ok (.getfield 34, 3) := by decide +kernel
theorem dX0_setRelation_29 : decode cX0_setRelation 29 = .ok (.iconst 2, 1) := by decide +kernel
theorem dX0_setRelation_30 : decode cX0_setRelation 30 = .ok (.iload_n 3, 1) := by decide +kernel
theorem dX0_setRelation_31 : decode cX0_setRelation 31 = .ok (.iload_n 1, 1) := by decide +kernel
theorem dX0_setRelation_32 : decode cX0_setRelation 32 = .ok (.if_icmp .ge 7, 3) := by decide +kernel
theorem dX0_setRelation_35 : decode cX0_setRelation 35 = .ok (.iload_n 3, 1) := by decide +kernel
theorem dX0_setRelation_36 : decode cX0_setRelation 36 = .ok (.goto 6, 3) := by decide +kernel
theorem dX0_setRelation_39 : decode cX0_setRelation 39 = .ok (.iload_n 3, 1) := by decide +kernel
theorem dX0_setRelation_40 : decode cX0_setRelation 40 = .ok (.iconst 1, 1) := by decide +kernel
theorem dX0_setRelation_41 : decode cX0_setRelation 41 = .ok (.iadd, 1) := by decide +kernel
theorem dX0_setRelation_42 : decode cX0_setRelation 42 = .ok (.iastore, 1) := by decide +kernel
theorem dX0_setRelation_43 : decode cX0_setRelation 43 = .ok (.aload_n 0, 1) := by decide +kernel
theorem dX0_setRelation_44 : decode cX0_setRelation 44 = .ok (.getfield 34, 3) := by decide +kernel
theorem dX0_setRelation_47 : decode cX0_setRelation 47 = .ok (.iconst 3, 1) := by decide +kernel
theorem dX0_setRelation_48 : decode cX0_setRelation 48 = .ok (.iload 4, 2) := by decide +kernel
theorem dX0_setRelation_50 : decode cX0_setRelation 50 = .ok (.iload_n 1, 1) := by decide +kernel
theorem dX0_setRelation_51 : decode cX0_setRelation 51 = .ok (.if_icmp .ge 8, 3) := by decide +kernel
theorem dX0_setRelation_54 : decode cX0_setRelation 54 = .ok (.iload 4, 2) := by decide +kernel
theorem dX0_setRelation_56 : decode cX0_setRelation 56 = .ok (.goto 7, 3) := by decide +kernel
theorem dX0_setRelation_59 : decode cX0_setRelation 59 = .ok (.iload 4, 2) := by decide +kernel
theorem dX0_setRelation_61 : decode cX0_setRelation 61 = .ok (.iconst 1, 1) := by decide +kernel
theorem dX0_setRelation_62 : decode cX0_setRelation 62 = .ok (.iadd, 1) := by decide +kernel
theorem dX0_setRelation_63 : decode cX0_setRelation 63 = .ok (.iastore, 1) := by decide +kernel
theorem dX0_setRelation_64 : decode cX0_setRelation 64 = .ok (.aload_n 0, 1) := by decide +kernel
theorem dX0_setRelation_65 : decode cX0_setRelation 65 = .ok (.getfield 34, 3) := by decide +kernel
theorem dX0_setRelation_68 : decode cX0_setRelation 68 = .ok (.iconst 4, 1) := by decide +kernel
theorem dX0_setRelation_69 : decode cX0_setRelation 69 = .ok (.iload 5, 2) := by decide +kernel
theorem dX0_setRelation_71 : decode cX0_setRelation 71 = .ok (.iload_n 1, 1) := by decide +kernel
theorem dX0_setRelation_72 : decode cX0_setRelation 72 = .ok (.if_icmp .ge 8, 3) := by decide +kernel
theorem dX0_setRelation_75 : decode cX0_setRelation 75 = .ok (.iload 5, 2) := by decide +kernel
theorem dX0_setRelation_77 : decode cX0_setRelation 77 = .ok (.goto 7, 3) := by decide +kernel
theorem dX0_setRelation_80 : decode cX0_setRelation 80 = .ok (.iload 5, 2) := by decide +kernel
theorem dX0_setRelation_82 : decode cX0_setRelation 82 = .ok (.iconst 1, 1) := by decide +kernel
theorem dX0_setRelation_83 : decode cX0_setRelation 83 = .ok (.iadd, 1) := by decide +kernel
theorem dX0_setRelation_84 : decode cX0_setRelation 84 = .ok (.iastore, 1) := by decide +kernel
theorem dX0_setRelation_85 : decode cX0_setRelation 85 = .ok (.return_, 1) := by decide +kernel
set_option maxRecDepth 20000 in
theorem ggX0_signIn_X0_orderOf : GoodIn wsX0_signIn wsX0_orderOf := goodIn_r _ [7] (by decide +kernel) (by decide +kernel)
set_option maxRecDepth 20000 in
theorem gX0_signIn_X0_orderOf : GoodIn wsX0_signIn (va_wsS RX0 105 yX0_orderOf wsX0_orderOf) := goodIn_app (goodIn_of _ (by decide +kernel)) ggX0_signIn_X0_orderOf
theorem dX0_signIn_0 : decode cX0_signIn 0 = .ok (.iconst 4, 1) := by decide +kernel
theorem dX0_signIn_1 : decode cX0_signIn 1 = .ok (.iload_n 1, 1) := by decide +kernel
theorem dX0_signIn_2 : decode cX0_signIn 2 = .ok (.imul, 1) := by decide +kernel
theorem dX0_signIn_3 : decode cX0_signIn 3 = .ok (.iconst 2, 1) := by decide +kernel
theorem dX0_signIn_4 : decode cX0_signIn 4 = .ok (.iload_n 2, 1) := by decide +kernel
theorem dX0_signIn_5 : decode cX0_signIn 5 = .ok (.imul, 1) := by decide +kernel
theorem dX0_signIn_6 : decode cX0_signIn 6 = .ok (.iadd, 1) := by decide +kernel
theorem dX0_signIn_7 : decode cX0_signIn 7 = .ok (.istore_n 3, 1) := by decide +kernel
theorem dX0_signIn_8 : decode cX0_signIn 8 = .ok (.aload_n 0, 1) := by decide +kernel
theorem dX0_signIn_9 : decode cX0_signIn 9 = .ok (.getfield 31, 3) := by decide +kernel
theorem dX0_signIn_12 : decode cX0_signIn 12 = .ok (.aload_n 0, 1) := by decide +kernel
theorem dX0_signIn_13 : decode cX0_signIn 13 = .ok (.getfield 34, 3) := by decide +kernel
theorem dX0_signIn_16 : decode cX0_signIn 16 = .ok (.iconst 0, 1) := by decide +kernel
theorem dX0_signIn_17 : decode cX0_signIn 17 = .ok (.iaload, 1) := by decide +kernel
theorem dX0_signIn_18 : decode cX0_signIn 18 = .ok (.aload_n 0, 1) := by decide +kernel
theorem dX0_signIn_19 : decode cX0_signIn 19 = .ok (.getfield 34, 3) := by decide +kernel
theorem dX0_signIn_22 : decode cX0_signIn 22 = .ok (.getstatic 118, 3) := by decide +kernel
theorem dX0_signIn_25 : decode cX0_signIn 25 = .ok (.iload_n 3, 1) := by decide +kernel
theorem dX0_signIn_26 : decode cX0_signIn 26 = .ok (.iaload, 1) := by decide +kernel
theorem dX0_signIn_27 : decode cX0_signIn 27 = .ok (.iaload, 1) := by decide +kernel
theorem dX0_signIn_28 : decode cX0_signIn 28 = .ok (.aload_n 0, 1) := by decide +kernel
theorem dX0_signIn_29 : decode cX0_signIn 29 = .ok (.getfield 34, 3) := by decide +kernel
theorem dX0_signIn_32 : decode cX0_signIn 32 = .ok (.getstatic 118, 3) := by decide +kernel
theorem dX0_signIn_35 : decode cX0_signIn 35 = .ok (.iload_n 3, 1) := by decide +kernel
theorem dX0_signIn_36 : decode cX0_signIn 36 = .ok (.iconst 1, 1) := by decide +kernel
theorem dX0_signIn_37 : decode cX0_signIn 37 = .ok (.iadd, 1) := by decide +kernel
theorem dX0_signIn_38 : decode cX0_signIn 38 = .ok (.iaload, 1) := by decide +kernel
theorem dX0_signIn_39 : decode cX0_signIn 39 = .ok (.iaload, 1) := by decide +kernel
theorem dX0_signIn_40 : decode cX0_signIn 40 = .ok (.invokestatic 105, 3) := by decide +kernel
theorem dX0_signIn_43 : decode cX0_signIn 43 = .ok (.iaload, 1) := by decide +kernel
theorem dX0_signIn_44 : decode cX0_signIn 44 = .ok (.ireturn, 1) := by decide +kernel
set_option maxRecDepth 20000 in
theorem ggX0_judge_X0_signIn : GoodIn wsX0_judge wsX0_signIn := goodIn_r _ [6, 7, 8, 9, 10, 11, 5, 12, 37, 38, 39, 40, 41, 42, 43, 44, 45, 46, 47] (by decide +kernel) (by decide +kernel)
set_option maxRecDepth 20000 in
theorem gX0_judge_X0_signIn : GoodIn wsX0_judge (wsV RX0 75 RX0 yX0_signIn wsX0_signIn) := goodIn_app (goodIn_of _ (by decide +kernel)) ggX0_judge_X0_signIn
set_option maxRecDepth 20000 in
theorem ggX0_judge_X0_tell : GoodIn wsX0_judge wsX0_tell := goodIn_r _ [16, 8, 9, 1, 17, 18, 19, 20, 21, 22, 23, 24, 25, 26, 27, 2, 3, 4, 5, 6, 7, 10, 11, 12, 28, 29, 30, 31, 32, 33, 34, 35, 36, 37, 38, 39, 40, 41, 42, 43, 44, 45, 46, 47, 48, 49, 50, 51, 52] (by decide +kernel) (by decide +kernel)
set_option maxRecDepth 20000 in
theorem gX0_judge_X0_tell : GoodIn wsX0_judge (wsV RX0 121 RX0 yX0_tell wsX0_tell) := goodIn_app (goodIn_of _ (by decide +kernel)) ggX0_judge_X0_tell
theorem dX0_judge_0 : decode cX0_judge 0 = .ok (.bipush (-4), 2) := by decide +kernel
theorem dX0_judge_2 : decode cX0_judge 2 = .ok (.istore_n 1, 1) := by decide +kernel
theorem dX0_judge_3 : decode cX0_judge 3 = .ok (.iconst 0, 1) := by decide +kernel
theorem dX0_judge_4 : decode cX0_judge 4 = .ok (.istore_n 2, 1) := by decide +kernel
theorem dX0_judge_5 : decode cX0_judge 5 = .ok (.iconst 0, 1) := by decide +kernel
theorem dX0_judge_6 : decode cX0_judge 6 = .ok (.istore_n 3, 1) := by decide +kernel
theorem dX0_judge_7 : decode cX0_judge 7 = .ok (.iconst 0, 1) := by decide +kernel
theorem dX0_judge_8 : decode cX0_judge 8 = .ok (.istore 4, 2) := by decide +kernel
theorem dX0_judge_10 : decode cX0_judge 10 = .ok (.iload 4, 2) := by decide +kernel
theorem dX0_judge_12 : decode cX0_judge 12 = .ok (.iconst 3, 1) := by decide +kernel
theorem dX0_judge_13 : decode cX0_judge 13 = .ok (.if_icmp .ge 103, 3) := by decide +kernel
theorem dX0_judge_16 : decode cX0_judge 16 = .ok (.aload_n 0, 1) := by decide +kernel
theorem dX0_judge_17 : decode cX0_judge 17 = .ok (.iload 4, 2) := by decide +kernel
theorem dX0_judge_19 : decode cX0_judge 19 = .ok (.iconst 0, 1) := by decide +kernel
theorem dX0_judge_20 : decode cX0_judge 20 = .ok (.invokevirtual 75, 3) := by decide +kernel
theorem dX0_judge_23 : decode cX0_judge 23 = .ok (.istore 5, 2) := by decide +kernel
theorem dX0_judge_25 : decode cX0_judge 25 = .ok (.aload_n 0, 1) := by decide +kernel
theorem dX0_judge_26 : decode cX0_judge 26 = .ok (.iload 4, 2) := by decide +kernel
theorem dX0_judge_28 : decode cX0_judge 28 = .ok (.iconst 1, 1) := by decide +kernel
theorem dX0_judge_29 : decode cX0_judge 29 = .ok (.invokevirtual 75, 3) := by decide +kernel
theorem dX0_judge_32 : decode cX0_judge 32 = .ok (.istore 6, 2) := by decide +kernel
theorem dX0_judge_34 : decode cX0_judge 34 = .ok (.iload 5, 2) := by decide +kernel
theorem dX0_judge_36 : decode cX0_judge 36 = .ok (.bipush (-4), 2) := by decide +kernel
theorem dX0_judge_38 : decode cX0_judge 38 = .ok (.if_icmp .eq 53, 3) := by decide +kernel
theorem dX0_judge_41 : decode cX0_judge 41 = .ok (.iload 6, 2) := by decide +kernel
theorem dX0_judge_43 : decode cX0_judge 43 = .ok (.bipush (-4), 2) := by decide +kernel
theorem dX0_judge_45 : decode cX0_judge 45 = .ok (.if_icmp .eq 46, 3) := by decide +kernel
theorem dX0_judge_48 : decode cX0_judge 48 = .ok (.getstatic 79, 3) := by decide +kernel
theorem dX0_judge_51 : decode cX0_judge 51 = .ok (.iload 4, 2) := by decide +kernel
theorem dX0_judge_53 : decode cX0_judge 53 = .ok (.iaload, 1) := by decide +kernel
theorem dX0_judge_54 : decode cX0_judge 54 = .ok (.iload 5, 2) := by decide +kernel
theorem dX0_judge_56 : decode cX0_judge 56 = .ok (.imul, 1) := by decide +kernel
theorem dX0_judge_57 : decode cX0_judge 57 = .ok (.iload 6, 2) := by decide +kernel
theorem dX0_judge_59 : decode cX0_judge 59 = .ok (.imul, 1) := by decide +kernel
theorem dX0_judge_60 : decode cX0_judge 60 = .ok (.istore 7, 2) := by decide +kernel
theorem dX0_judge_62 : decode cX0_judge 62 = .ok (.iload_n 2, 1) := by decide +kernel
theorem dX0_judge_63 : decode cX0_judge 63 = .ok (.iload 7, 2) := by decide +kernel
theorem dX0_judge_65 : decode cX0_judge 65 = .ok (.ifCond .le 7, 3) := by decide +kernel
theorem dX0_judge_68 : decode cX0_judge 68 = .ok (.iconst 1, 1) := by decide +kernel
theorem dX0_judge_69 : decode cX0_judge 69 = .ok (.goto 4, 3) := by decide +kernel
theorem dX0_judge_72 : decode cX0_judge 72 = .ok (.iconst 0, 1) := by decide +kernel
theorem dX0_judge_73 : decode cX0_judge 73 = .ok (.iadd, 1) := by decide +kernel
theorem dX0_judge_74 : decode cX0_judge 74 = .ok (.istore_n 2, 1) := by decide +kernel
theorem dX0_judge_75 : decode cX0_judge 75 = .ok (.iload_n 3, 1) := by decide +kernel
theorem dX0_judge_76 : decode cX0_judge 76 = .ok (.iload 7, 2) := by decide +kernel
theorem dX0_judge_78 : decode cX0_judge 78 = .ok (.ifCond .ge 7, 3) := by decide +kernel
theorem dX0_judge_81 : decode cX0_judge 81 = .ok (.iconst 1, 1) := by decide +kernel
theorem dX0_judge_82 : decode cX0_judge 82 = .ok (.goto 4, 3) := by decide +kernel
theorem dX0_judge_85 : decode cX0_judge 85 = .ok (.iconst 0, 1) := by decide +kernel
theorem dX0_judge_86 : decode cX0_judge 86 = .ok (.iadd, 1) := by decide +kernel
theorem dX0_judge_87 : decode cX0_judge 87 = .ok (.istore_n 3, 1) := by decide +kernel
theorem dX0_judge_88 : decode cX0_judge 88 = .ok (.goto 22, 3) := by decide +kernel
theorem dX0_judge_91 : decode cX0_judge 91 = .ok (.iload_n 1, 1) := by decide +kernel
theorem dX0_judge_92 : decode cX0_judge 92 = .ok (.bipush (-4), 2) := by decide +kernel
theorem dX0_judge_94 : decode cX0_judge 94 = .ok (.if_icmp .ne 10, 3) := by decide +kernel
theorem dX0_judge_97 : decode cX0_judge 97 = .ok (.iload 5, 2) := by decide +kernel
theorem dX0_judge_99 : decode cX0_judge 99 = .ok (.iload 6, 2) := by decide +kernel
theorem dX0_judge_101 : decode cX0_judge 101 = .ok (.if_icmp .ne 6, 3) := by decide +kernel
theorem dX0_judge_104 : decode cX0_judge 104 = .ok (.bipush (-4), 2) := by decide +kernel
theorem dX0_judge_106 : decode cX0_judge 106 = .ok (.ireturn, 1) := by decide +kernel
theorem dX0_judge_107 : decode cX0_judge 107 = .ok (.iload 4, 2) := by decide +kernel
theorem dX0_judge_109 : decode cX0_judge 109 = .ok (.istore_n 1, 1) := by decide +kernel
theorem dX0_judge_110 : decode cX0_judge 110 = .ok (.iinc 4 1, 3) := by decide +kernel
theorem dX0_judge_113 : decode cX0_judge 113 = .ok (.goto (-103), 3) := by decide +kernel
theorem dX0_judge_116 : decode cX0_judge 116 = .ok (.iload_n 2, 1) := by decide +kernel
theorem dX0_judge_117 : decode cX0_judge 117 = .ok (.ifCond .le 7, 3) := by decide +kernel
theorem dX0_judge_120 : decode cX0_judge 120 = .ok (.iconst 1, 1) := by decide +kernel
theorem dX0_judge_121 : decode cX0_judge 121 = .ok (.goto 4, 3) := by decide +kernel
theorem dX0_judge_124 : decode cX0_judge 124 = .ok (.iconst 0, 1) := by decide +kernel
theorem dX0_judge_125 : decode cX0_judge 125 = .ok (.iload_n 3, 1) := by decide +kernel
theorem dX0_judge_126 : decode cX0_judge 126 = .ok (.ifCond .le 7, 3) := by decide +kernel
theorem dX0_judge_129 : decode cX0_judge 129 = .ok (.iconst 1, 1) := by decide +kernel
theorem dX0_judge_130 : decode cX0_judge 130 = .ok (.goto 4, 3) := by decide +kernel
theorem dX0_judge_133 : decode cX0_judge 133 = .ok (.iconst 0, 1) := by decide +kernel
theorem dX0_judge_134 : decode cX0_judge 134 = .ok (.if_icmp .ne 7, 3) := by decide +kernel
theorem dX0_judge_137 : decode cX0_judge 137 = .ok (.iconst 1, 1) := by decide +kernel
theorem dX0_judge_138 : decode cX0_judge 138 = .ok (.goto 4, 3) := by decide +kernel
theorem dX0_judge_141 : decode cX0_judge 141 = .ok (.iconst 0, 1) := by decide +kernel
theorem dX0_judge_142 : decode cX0_judge 142 = .ok (.istore 4, 2) := by decide +kernel
theorem dX0_judge_144 : decode cX0_judge 144 = .ok (.iload_n 1, 1) := by decide +kernel
theorem dX0_judge_145 : decode cX0_judge 145 = .ok (.bipush (-4), 2) := by decide +kernel
theorem dX0_judge_147 : decode cX0_judge 147 = .ok (.if_icmp .ne 15, 3) := by decide +kernel
theorem dX0_judge_150 : decode cX0_judge 150 = .ok (.iload 4, 2) := by decide +kernel
theorem dX0_judge_152 : decode cX0_judge 152 = .ok (.ifCond .eq 8, 3) := by decide +kernel
theorem dX0_judge_155 : decode cX0_judge 155 = .ok (.bipush (-4), 2) := by decide +kernel
theorem dX0_judge_157 : decode cX0_judge 157 = .ok (.goto 4, 3) := by decide +kernel
theorem dX0_judge_160 : decode cX0_judge 160 = .ok (.iconst 1, 1) := by decide +kernel
theorem dX0_judge_161 : decode cX0_judge 161 = .ok (.ireturn, 1) := by decide +kernel
theorem dX0_judge_162 : decode cX0_judge 162 = .ok (.iload 4, 2) := by decide +kernel
theorem dX0_judge_164 : decode cX0_judge 164 = .ok (.ifCond .eq 10, 3) := by decide +kernel
theorem dX0_judge_167 : decode cX0_judge 167 = .ok (.iload_n 2, 1) := by decide +kernel
theorem dX0_judge_168 : decode cX0_judge 168 = .ok (.ifCond .le 6, 3) := by decide +kernel
theorem dX0_judge_171 : decode cX0_judge 171 = .ok (.bipush (-4), 2) := by decide +kernel
theorem dX0_judge_173 : decode cX0_judge 173 = .ok (.ireturn, 1) := by decide +kernel
theorem dX0_judge_174 : decode cX0_judge 174 = .ok (.aload_n 0, 1) := by decide +kernel
theorem dX0_judge_175 : decode cX0_judge 175 = .ok (.iload_n 1, 1) := by decide +kernel
theorem dX0_judge_176 : decode cX0_judge 176 = .ok (.iload 4, 2) := by decide +kernel
theorem dX0_judge_178 : decode cX0_judge 178 = .ok (.ifCond .eq 7, 3) := by decide +kernel
theorem dX0_judge_181 : decode cX0_judge 181 = .ok (.iconst 0, 1) := by decide +kernel
theorem dX0_judge_182 : decode cX0_judge 182 = .ok (.goto 12, 3) := by decide +kernel
theorem dX0_judge_185 : decode cX0_judge 185 = .ok (.iload_n 2, 1) := by decide +kernel
theorem dX0_judge_186 : decode cX0_judge 186 = .ok (.ifCond .le 7, 3) := by decide +kernel
theorem dX0_judge_189 : decode cX0_judge 189 = .ok (.iconst (-1), 1) := by decide +kernel
theorem dX0_judge_190 : decode cX0_judge 190 = .ok (.goto 4, 3) := by decide +kernel
theorem dX0_judge_193 : decode cX0_judge 193 = .ok (.iconst 1, 1) := by decide +kernel
theorem dX0_judge_194 : decode cX0_judge 194 = .ok (.invokevirtual 121, 3) := by decide +kernel
theorem dX0_judge_197 : decode cX0_judge 197 = .ok (.ireturn, 1) := by decide +kernel
set_option maxRecDepth 20000 in
theorem ggX0_tell_X0_signIn : GoodIn wsX0_tell wsX0_signIn := goodIn_r _ [19, 20, 1, 2, 21, 22, 18, 23, 33, 34, 35, 36, 37, 38, 39, 40, 41, 42, 43] (by decide +kernel) (by decide +kernel)
set_option maxRecDepth 20000 in
theorem gX0_tell_X0_signIn : GoodIn wsX0_tell (wsV RX0 75 RX0 yX0_signIn wsX0_signIn) := goodIn_app (goodIn_of _ (by decide +kernel)) ggX0_tell_X0_signIn
set_option maxRecDepth 20000 in
theorem ggX0_tell_X5_turnOf : GoodIn wsX0_tell wsX5_turnOf := goodIn_r _ [27] (by decide +kernel) (by decide +kernel)
set_option maxRecDepth 20000 in
theorem gX0_tell_X5_turnOf : GoodIn wsX0_tell (va_wsS RX0 124 yX5_turnOf wsX5_turnOf) := goodIn_app (goodIn_of _ (by decide +kernel)) ggX0_tell_X5_turnOf
set_option maxRecDepth 20000 in
theorem ggX0_tell_X5_spotOf : GoodIn wsX0_tell wsX5_spotOf := goodIn_r _ [30, 31, 7, 8, 9, 32, 11, 12] (by decide +kernel) (by decide +kernel)
set_option maxRecDepth 20000 in
theorem gX0_tell_X5_spotOf : GoodIn wsX0_tell (va_wsS RX0 88 yX5_spotOf wsX5_spotOf) := goodIn_app (goodIn_of _ (by decide +kernel)) ggX0_tell_X5_spotOf
theorem dX0_tell_0 : decode cX0_tell 0 = .ok (.aload_n 0, 1) := by decide +kernel
theorem dX0_tell_1 : decode cX0_tell 1 = .ok (.iload_n 1, 1) := by decide +kernel
theorem dX0_tell_2 : decode cX0_tell 2 = .ok (.iconst 0, 1) := by decide +kernel
theorem dX0_tell_3 : decode cX0_tell 3 = .ok (.invokevirtual 75, 3) := by decide +kernel
theorem dX0_tell_6 : decode cX0_tell 6 = .ok (.bipush (-4), 2) := by decide +kernel
theorem dX0_tell_8 : decode cX0_tell 8 = .ok (.if_icmp .ne 7, 3) := by decide +kernel
theorem dX0_tell_11 : decode cX0_tell 11 = .ok (.iconst 0, 1) := by decide +kernel
theorem dX0_tell_12 : decode cX0_tell 12 = .ok (.goto 4, 3) := by decide +kernel
theorem dX0_tell_15 : decode cX0_tell 15 = .ok (.iconst 1, 1) := by decide +kernel
theorem dX0_tell_16 : decode cX0_tell 16 = .ok (.istore_n 3, 1) := by decide +kernel
theorem dX0_tell_17 : decode cX0_tell 17 = .ok (.aload_n 0, 1) := by decide +kernel
theorem dX0_tell_18 : decode cX0_tell 18 = .ok (.iload_n 1, 1) := by decide +kernel
theorem dX0_tell_19 : decode cX0_tell 19 = .ok (.iconst 1, 1) := by decide +kernel
theorem dX0_tell_20 : decode cX0_tell 20 = .ok (.iload_n 3, 1) := by decide +kernel
theorem dX0_tell_21 : decode cX0_tell 21 = .ok (.isub, 1) := by decide +kernel
theorem dX0_tell_22 : decode cX0_tell 22 = .ok (.invokevirtual 75, 3) := by decide +kernel
theorem dX0_tell_25 : decode cX0_tell 25 = .ok (.istore 4, 2) := by decide +kernel
theorem dX0_tell_27 : decode cX0_tell 27 = .ok (.iload 4, 2) := by decide +kernel
theorem dX0_tell_29 : decode cX0_tell 29 = .ok (.ifCond .ne 6, 3) := by decide +kernel
theorem dX0_tell_32 : decode cX0_tell 32 = .ok (.bipush (-4), 2) := by decide +kernel
theorem dX0_tell_34 : decode cX0_tell 34 = .ok (.ireturn, 1) := by decide +kernel
theorem dX0_tell_35 : decode cX0_tell 35 = .ok (.iconst 4, 1) := by decide +kernel
theorem dX0_tell_36 : decode cX0_tell 36 = .ok (.iload_n 1, 1) := by decide +kernel
theorem dX0_tell_37 : decode cX0_tell 37 = .ok (.imul, 1) := by decide +kernel
theorem dX0_tell_38 : decode cX0_tell 38 = .ok (.iconst 2, 1) := by decide +kernel
theorem dX0_tell_39 : decode cX0_tell 39 = .ok (.iload_n 3, 1) := by decide +kernel
theorem dX0_tell_40 : decode cX0_tell 40 = .ok (.imul, 1) := by decide +kernel
theorem dX0_tell_41 : decode cX0_tell 41 = .ok (.iadd, 1) := by decide +kernel
theorem dX0_tell_42 : decode cX0_tell 42 = .ok (.istore 5, 2) := by decide +kernel
theorem dX0_tell_44 : decode cX0_tell 44 = .ok (.aload_n 0, 1) := by decide +kernel
theorem dX0_tell_45 : decode cX0_tell 45 = .ok (.getfield 34, 3) := by decide +kernel
theorem dX0_tell_48 : decode cX0_tell 48 = .ok (.iconst 0, 1) := by decide +kernel
theorem dX0_tell_49 : decode cX0_tell 49 = .ok (.iaload, 1) := by decide +kernel
theorem dX0_tell_50 : decode cX0_tell 50 = .ok (.istore 6, 2) := by decide +kernel
theorem dX0_tell_52 : decode cX0_tell 52 = .ok (.aload_n 0, 1) := by decide +kernel
theorem dX0_tell_53 : decode cX0_tell 53 = .ok (.getfield 34, 3) := by decide +kernel
theorem dX0_tell_56 : decode cX0_tell 56 = .ok (.getstatic 118, 3) := by decide +kernel
theorem dX0_tell_59 : decode cX0_tell 59 = .ok (.iload 5, 2) := by decide +kernel
theorem dX0_tell_61 : decode cX0_tell 61 = .ok (.iaload, 1) := by decide +kernel
theorem dX0_tell_62 : decode cX0_tell 62 = .ok (.iaload, 1) := by decide +kernel
theorem dX0_tell_63 : decode cX0_tell 63 = .ok (.istore 7, 2) := by decide +kernel
theorem dX0_tell_65 : decode cX0_tell 65 = .ok (.aload_n 0, 1) := by decide +kernel
theorem dX0_tell_66 : decode cX0_tell 66 = .ok (.getfield 34, 3) := by decide +kernel
theorem dX0_tell_69 : decode cX0_tell 69 = .ok (.getstatic 118, 3) := by decide +kernel
theorem dX0_tell_72 : decode cX0_tell 72 = .ok (.iload 5, 2) := by decide +kernel
theorem dX0_tell_74 : decode cX0_tell 74 = .ok (.iconst 1, 1) := by decide +kernel
theorem dX0_tell_75 : decode cX0_tell 75 = .ok (.iadd, 1) := by decide +kernel
theorem dX0_tell_76 : decode cX0_tell 76 = .ok (.iaload, 1) := by decide +kernel
theorem dX0_tell_77 : decode cX0_tell 77 = .ok (.iaload, 1) := by decide +kernel
theorem dX0_tell_78 : decode cX0_tell 78 = .ok (.istore 8, 2) := by decide +kernel
theorem dX0_tell_80 : decode cX0_tell 80 = .ok (.aload_n 0, 1) := by decide +kernel
theorem dX0_tell_81 : decode cX0_tell 81 = .ok (.iload_n 2, 1) := by decide +kernel
theorem dX0_tell_82 : decode cX0_tell 82 = .ok (.getstatic 79, 3) := by decide +kernel
theorem dX0_tell_85 : decode cX0_tell 85 = .ok (.iload_n 1, 1) := by decide +kernel
theorem dX0_tell_86 : decode cX0_tell 86 = .ok (.iaload, 1) := by decide +kernel
theorem dX0_tell_87 : decode cX0_tell 87 = .ok (.imul, 1) := by decide +kernel
theorem dX0_tell_88 : decode cX0_tell 88 = .ok (.iload 4, 2) := by decide +kernel
theorem dX0_tell_90 : decode cX0_tell 90 = .ok (.imul, 1) := by decide +kernel
theorem dX0_tell_91 : decode cX0_tell 91 = .ok (.iload 6, 2) := by decide +kernel
theorem dX0_tell_93 : decode cX0_tell 93 = .ok (.iload 7, 2) := by decide +kernel
theorem dX0_tell_95 : decode cX0_tell 95 = .ok (.iload 8, 2) := by decide +kernel
theorem dX0_tell_97 : decode cX0_tell 97 = .ok (.invokestatic 124, 3) := by decide +kernel
theorem dX0_tell_100 : decode cX0_tell 100 = .ok (.imul, 1) := by decide +kernel
theorem dX0_tell_101 : decode cX0_tell 101 = .ok (.putfield 40, 3) := by decide +kernel
theorem dX0_tell_104 : decode cX0_tell 104 = .ok (.aload_n 0, 1) := by decide +kernel
theorem dX0_tell_105 : decode cX0_tell 105 = .ok (.getfield 37, 3) := by decide +kernel
theorem dX0_tell_108 : decode cX0_tell 108 = .ok (.iconst 0, 1) := by decide +kernel
theorem dX0_tell_109 : decode cX0_tell 109 = .ok (.iload 6, 2) := by decide +kernel
theorem dX0_tell_111 : decode cX0_tell 111 = .ok (.iload 7, 2) := by decide +kernel
theorem dX0_tell_113 : decode cX0_tell 113 = .ok (.iload 8, 2) := by decide +kernel
theorem dX0_tell_115 : decode cX0_tell 115 = .ok (.invokestatic 127, 3) := by decide +kernel
theorem dX0_tell_118 : decode cX0_tell 118 = .ok (.invokestatic 127, 3) := by decide +kernel
theorem dX0_tell_121 : decode cX0_tell 121 = .ok (.iastore, 1) := by decide +kernel
theorem dX0_tell_122 : decode cX0_tell 122 = .ok (.aload_n 0, 1) := by decide +kernel
theorem dX0_tell_123 : decode cX0_tell 123 = .ok (.getfield 37, 3) := by decide +kernel
theorem dX0_tell_126 : decode cX0_tell 126 = .ok (.iconst 2, 1) := by decide +kernel
theorem dX0_tell_127 : decode cX0_tell 127 = .ok (.iload 6, 2) := by decide +kernel
theorem dX0_tell_129 : decode cX0_tell 129 = .ok (.iload 7, 2) := by decide +kernel
theorem dX0_tell_131 : decode cX0_tell 131 = .ok (.iload 8, 2) := by decide +kernel
theorem dX0_tell_133 : decode cX0_tell 133 = .ok (.invokestatic 132, 3) := by decide +kernel
theorem dX0_tell_136 : decode cX0_tell 136 = .ok (.invokestatic 132, 3) := by decide +kernel
theorem dX0_tell_139 : decode cX0_tell 139 = .ok (.iastore, 1) := by decide +kernel
theorem dX0_tell_140 : decode cX0_tell 140 = .ok (.aload_n 0, 1) := by decide +kernel
theorem dX0_tell_141 : decode cX0_tell 141 = .ok (.getfield 37, 3) := by decide +kernel
theorem dX0_tell_144 : decode cX0_tell 144 = .ok (.iconst 1, 1) := by decide +kernel
theorem dX0_tell_145 : decode cX0_tell 145 = .ok (.iload 6, 2) := by decide +kernel
theorem dX0_tell_147 : decode cX0_tell 147 = .ok (.iload 7, 2) := by decide +kernel
theorem dX0_tell_149 : decode cX0_tell 149 = .ok (.iadd, 1) := by decide +kernel
theorem dX0_tell_150 : decode cX0_tell 150 = .ok (.iload 8, 2) := by decide +kernel
theorem dX0_tell_152 : decode cX0_tell 152 = .ok (.iadd, 1) := by decide +kernel
theorem dX0_tell_153 : decode cX0_tell 153 = .ok (.aload_n 0, 1) := by decide +kernel
theorem dX0_tell_154 : decode cX0_tell 154 = .ok (.getfield 37, 3) := by decide +kernel
theorem dX0_tell_157 : decode cX0_tell 157 = .ok (.iconst 0, 1) := by decide +kernel
theorem dX0_tell_158 : decode cX0_tell 158 = .ok (.iaload, 1) := by decide +kernel
theorem dX0_tell_159 : decode cX0_tell 159 = .ok (.isub, 1) := by decide +kernel
theorem dX0_tell_160 : decode cX0_tell 160 = .ok (.aload_n 0, 1) := by decide +kernel
theorem dX0_tell_161 : decode cX0_tell 161 = .ok (.getfield 37, 3) := by decide +kernel
theorem dX0_tell_164 : decode cX0_tell 164 = .ok (.iconst 2, 1) := by decide +kernel
theorem dX0_tell_165 : decode cX0_tell 165 = .ok (.iaload, 1) := by decide +kernel
theorem dX0_tell_166 : decode cX0_tell 166 = .ok (.isub, 1) := by decide +kernel
theorem dX0_tell_167 : decode cX0_tell 167 = .ok (.iastore, 1) := by decide +kernel
theorem dX0_tell_168 : decode cX0_tell 168 = .ok (.aload_n 0, 1) := by decide +kernel
theorem dX0_tell_169 : decode cX0_tell 169 = .ok (.getfield 40, 3) := by decide +kernel
theorem dX0_tell_172 : decode cX0_tell 172 = .ok (.ifCond .ne 27, 3) := by decide +kernel
theorem dX0_tell_175 : decode cX0_tell 175 = .ok (.aload_n 0, 1) := by decide +kernel
theorem dX0_tell_176 : decode cX0_tell 176 = .ok (.getfield 43, 3) := by decide +kernel
theorem dX0_tell_179 : decode cX0_tell 179 = .ok (.getfield 135, 3) := by decide +kernel
theorem dX0_tell_182 : decode cX0_tell 182 = .ok (.iload 6, 2) := by decide +kernel
theorem dX0_tell_184 : decode cX0_tell 184 = .ok (.iload 7, 2) := by decide +kernel
theorem dX0_tell_186 : decode cX0_tell 186 = .ok (.iload 8, 2) := by decide +kernel
theorem dX0_tell_188 : decode cX0_tell 188 = .ok (.invokestatic 88, 3) := by decide +kernel
theorem dX0_tell_191 : decode cX0_tell 191 = .ok (.baload, 1) := by decide +kernel
theorem dX0_tell_192 : decode cX0_tell 192 = .ok (.ifCond .eq 7, 3) := by decide +kernel
theorem dX0_tell_195 : decode cX0_tell 195 = .ok (.iconst 2, 1) := by decide +kernel
theorem dX0_tell_196 : decode cX0_tell 196 = .ok (.goto 4, 3) := by decide +kernel
theorem dX0_tell_199 : decode cX0_tell 199 = .ok (.iconst 0, 1) := by decide +kernel
theorem dX0_tell_200 : decode cX0_tell 200 = .ok (.ireturn, 1) := by decide +kernel
set_option maxRecDepth 20000 in
theorem ggX1_init_J7_fill_53178 : GoodIn wsX1_init wsJ7_fill_53178 := goodIn_r _ [17] (by decide +kernel) (by decide +kernel)
set_option maxRecDepth 20000 in
theorem gX1_init_J7_fill_53178 : GoodIn wsX1_init (va_wsS RX1 40 yJ7_fill_53178 wsJ7_fill_53178) := goodIn_app (goodIn_of _ (by decide +kernel)) ggX1_init_J7_fill_53178
theorem dX1_init_0 : decode cX1_init 0 = .ok (.aload_n 0, 1) := by decide +kernel
theorem dX1_init_1 : decode cX1_init 1 = .ok (.invokespecial 3, 3) := by decide +kernel
theorem dX1_init_4 : decode cX1_init 4 = .ok (.aload_n 0, 1) := by decide +kernel
theorem dX1_init_5 : decode cX1_init 5 = .ok (.bipush 12, 2) := by decide +kernel
theorem dX1_init_7 : decode cX1_init 7 = .ok (.newarray .int, 2) := by decide +kernel
theorem dX1_init_9 : decode cX1_init 9 = .ok (.putfield 9, 3) := by decide +kernel
theorem dX1_init_12 : decode cX1_init 12 = .ok (.aload_n 0, 1) := by decide +kernel
theorem dX1_init_13 : decode cX1_init 13 = .ok (.bipush 13, 2) := by decide +kernel
theorem dX1_init_15 : decode cX1_init 15 = .ok (.newarray .int, 2) := by decide +kernel
theorem dX1_init_17 : decode cX1_init 17 = .ok (.putfield 15, 3) := by decide +kernel
theorem dX1_init_20 : decode cX1_init 20 = .ok (.aload_n 0, 1) := by decide +kernel
theorem dX1_init_21 : decode cX1_init 21 = .ok (.iconst 0, 1) := by decide +kernel
theorem dX1_init_22 : decode cX1_init 22 = .ok (.putfield 18, 3) := by decide +kernel
theorem dX1_init_25 : decode cX1_init 25 = .ok (.aload_n 0, 1) := by decide +kernel
theorem dX1_init_26 : decode cX1_init 26 = .ok (.bipush 12, 2) := by decide +kernel
theorem dX1_init_28 : decode cX1_init 28 = .ok (.newarray .int, 2) := by decide +kernel
theorem dX1_init_30 : decode cX1_init 30 = .ok (.putfield 22, 3) := by decide +kernel
theorem dX1_init_33 : decode cX1_init 33 = .ok (.aload_n 0, 1) := by decide +kernel
theorem dX1_init_34 : decode cX1_init 34 = .ok (.bipush 12, 2) := by decide +kernel
theorem dX1_init_36 : decode cX1_init 36 = .ok (.newarray .int, 2) := by decide +kernel
theorem dX1_init_38 : decode cX1_init 38 = .ok (.putfield 25, 3) := by decide +kernel
theorem dX1_init_41 : decode cX1_init 41 = .ok (.aload_n 0, 1) := by decide +kernel
theorem dX1_init_42 : decode cX1_init 42 = .ok (.bipush 7, 2) := by decide +kernel
theorem dX1_init_44 : decode cX1_init 44 = .ok (.newarray .int, 2) := by decide +kernel
theorem dX1_init_46 : decode cX1_init 46 = .ok (.putfield 28, 3) := by decide +kernel
theorem dX1_init_49 : decode cX1_init 49 = .ok (.aload_n 0, 1) := by decide +kernel
theorem dX1_init_50 : decode cX1_init 50 = .ok (.bipush 7, 2) := by decide +kernel
theorem dX1_init_52 : decode cX1_init 52 = .ok (.newarray .int, 2) := by decide +kernel
theorem dX1_init_54 : decode cX1_init 54 = .ok (.putfield 31, 3) := by decide +kernel
theorem dX1_init_57 : decode cX1_init 57 = .ok (.aload_n 0, 1) := by decide +kernel
theorem dX1_init_58 : decode cX1_init 58 = .ok (.iconst 4, 1) := by decide +kernel
theorem dX1_init_59 : decode cX1_init 59 = .ok (.newarray .int, 2) := by decide +kernel
theorem dX1_init_61 : decode cX1_init 61 = .ok (.putfield 34, 3) := by decide +kernel
theorem dX1_init_64 : decode cX1_init 64 = .ok (.aload_n 0, 1) := by decide +kernel
theorem dX1_init_65 : decode cX1_init 65 = .ok (.bipush 35, 2) := by decide +kernel
theorem dX1_init_67 : decode cX1_init 67 = .ok (.newarray .int, 2) := by decide +kernel
theorem dX1_init_69 : decode cX1_init 69 = .ok (.putfield 37, 3) := by decide +kernel
theorem dX1_init_72 : decode cX1_init 72 = .ok (.aload_n 0, 1) := by decide +kernel
theorem dX1_init_73 : decode cX1_init 73 = .ok (.getfield 37, 3) := by decide +kernel
theorem dX1_init_76 : decode cX1_init 76 = .ok (.iconst (-1), 1) := by decide +kernel
theorem dX1_init_77 : decode cX1_init 77 = .ok (.invokestatic 40, 3) := by decide +kernel
theorem dX1_init_80 : decode cX1_init 80 = .ok (.return_, 1) := by decide +kernel
theorem dX1_forget_0 : decode cX1_forget 0 = .ok (.aload_n 0, 1) := by decide +kernel
theorem dX1_forget_1 : decode cX1_forget 1 = .ok (.iconst 0, 1) := by decide +kernel
theorem dX1_forget_2 : decode cX1_forget 2 = .ok (.putfield 18, 3) := by decide +kernel
theorem dX1_forget_5 : decode cX1_forget 5 = .ok (.return_, 1) := by decide +kernel
set_option maxRecDepth 20000 in
theorem ggX1_study_J7_fill_53178 : GoodIn wsX1_study wsJ7_fill_53178 := goodIn_r _ [16] (by decide +kernel) (by decide +kernel)
set_option maxRecDepth 20000 in
theorem gX1_study_J7_fill_53178 : GoodIn wsX1_study (va_wsS RX1 40 yJ7_fill_53178 wsJ7_fill_53178) := goodIn_app (goodIn_of _ (by decide +kernel)) ggX1_study_J7_fill_53178
set_option maxRecDepth 20000 in
theorem ggX1_study_X1_sort : GoodIn wsX1_study wsX1_sort := goodIn_r _ [20] (by decide +kernel) (by decide +kernel)
set_option maxRecDepth 20000 in
theorem gX1_study_X1_sort : GoodIn wsX1_study (va_wsS RX1 61 yX1_sort wsX1_sort) := goodIn_app (goodIn_of _ (by decide +kernel)) ggX1_study_X1_sort
set_option maxRecDepth 20000 in
theorem ggX1_study_X1_startRenaming : GoodIn wsX1_study wsX1_startRenaming := goodIn_r _ [24, 25, 53, 54, 55, 56, 57, 58, 59, 60, 61] (by decide +kernel) (by decide +kernel)
set_option maxRecDepth 20000 in
theorem gX1_study_X1_startRenaming : GoodIn wsX1_study (wsV RX1 64 RX1 yX1_startRenaming wsX1_startRenaming) := goodIn_app (goodIn_of _ (by decide +kernel)) ggX1_study_X1_startRenaming
set_option maxRecDepth 20000 in
theorem ggX1_study_X1_factorial : GoodIn wsX1_study wsX1_factorial := goodIn_r _ [28] (by decide +kernel) (by decide +kernel)
set_option maxRecDepth 20000 in
theorem gX1_study_X1_factorial : GoodIn wsX1_study (va_wsS RX1 70 yX1_factorial wsX1_factorial) := goodIn_app (goodIn_of _ (by decide +kernel)) ggX1_study_X1_factorial
set_option maxRecDepth 20000 in
theorem ggX1_study_X1_rename : GoodIn wsX1_study wsX1_rename := goodIn_r _ [32, 25, 12, 17, 18, 19, 20, 53, 54, 55, 56, 57, 58, 59, 60, 61] (by decide +kernel) (by decide +kernel)
set_option maxRecDepth 20000 in
theorem gX1_study_X1_rename : GoodIn wsX1_study (wsV RX1 74 RX1 yX1_rename wsX1_rename) := goodIn_app (goodIn_of _ (by decide +kernel)) ggX1_study_X1_rename
set_option maxRecDepth 20000 in
theorem ggX1_study_X1_compareRows : GoodIn wsX1_study wsX1_compareRows := goodIn_r _ [35, 36, 37, 38, 39] (by decide +kernel) (by decide +kernel)
set_option maxRecDepth 20000 in
theorem gX1_study_X1_compareRows : GoodIn wsX1_study (va_wsS RX1 77 yX1_compareRows wsX1_compareRows) := goodIn_app (goodIn_of _ (by decide +kernel)) ggX1_study_X1_compareRows
set_option maxRecDepth 20000 in
theorem ggX1_study_X1_orderOfRenaming : GoodIn wsX1_study wsX1_orderOfRenaming := goodIn_r _ [43, 44, 25, 53, 54, 55, 56, 57, 58, 59, 60, 61] (by decide +kernel) (by decide +kernel)
set_option maxRecDepth 20000 in
theorem gX1_study_X1_orderOfRenaming : GoodIn wsX1_study (wsV RX1 81 RX1 yX1_orderOfRenaming wsX1_orderOfRenaming) := goodIn_app (goodIn_of _ (by decide +kernel)) ggX1_study_X1_orderOfRenaming
set_option maxRecDepth 20000 in
theorem ggX1_study_X1_nextRenaming : GoodIn wsX1_study wsX1_nextRenaming := goodIn_r _ [48, 25, 49, 50, 51, 19, 52, 53, 54, 55, 56, 57, 58, 59, 60, 61] (by decide +kernel) (by decide +kernel)
set_option maxRecDepth 20000 in
theorem gX1_study_X1_nextRenaming : GoodIn wsX1_study (wsV RX1 84 RX1 yX1_nextRenaming wsX1_nextRenaming) := goodIn_app (goodIn_of _ (by decide +kernel)) ggX1_study_X1_nextRenaming
theorem dX1_study_0 : decode cX1_study 0 = .ok (.aload_n 0, 1) := by decide +kernel
theorem dX1_study_1 : decode cX1_study 1 = .ok (.getfield 18, 3) := by decide +kernel
theorem dX1_study_4 : decode cX1_study 4 = .ok (.ifCond .eq 4, 3) := by decide +kernel
theorem dX1_study_7 : decode cX1_study 7 = .ok (.return_, 1) := by decide +kernel
theorem dX1_study_8 : decode cX1_study 8 = .ok (.aload_n 0, 1) := by decide +kernel
theorem dX1_study_9 : decode cX1_study 9 = .ok (.iconst 1, 1) := by decide +kernel
theorem dX1_study_10 : decode cX1_study 10 = .ok (.putfield 18, 3) := by decide +kernel
theorem dX1_study_13 : decode cX1_study 13 = .ok (.aload_n 1, 1) := by decide +kernel
theorem dX1_study_14 : decode cX1_study 14 = .ok (.getfield 46, 3) := by decide +kernel
theorem dX1_study_17 : decode cX1_study 17 = .ok (.istore_n 2, 1) := by decide +kernel
theorem dX1_study_18 : decode cX1_study 18 = .ok (.aload_n 0, 1) := by decide +kernel
theorem dX1_study_19 : decode cX1_study 19 = .ok (.getfield 15, 3) := by decide +kernel
theorem dX1_study_22 : decode cX1_study 22 = .ok (.iconst 0, 1) := by decide +kernel
theorem dX1_study_23 : decode cX1_study 23 = .ok (.invokestatic 40, 3) := by decide +kernel
theorem dX1_study_26 : decode cX1_study 26 = .ok (.aload_n 1, 1) := by decide +kernel
theorem dX1_study_27 : decode cX1_study 27 = .ok (.getfield 52, 3) := by decide +kernel
theorem dX1_study_30 : decode cX1_study 30 = .ok (.iconst 0, 1) := by decide +kernel
theorem dX1_study_31 : decode cX1_study 31 = .ok (.aload_n 0, 1) := by decide +kernel
theorem dX1_study_32 : decode cX1_study 32 = .ok (.getfield 22, 3) := by decide +kernel
theorem dX1_study_35 : decode cX1_study 35 = .ok (.iconst 0, 1) := by decide +kernel
theorem dX1_study_36 : decode cX1_study 36 = .ok (.iload_n 2, 1) := by decide +kernel
theorem dX1_study_37 : decode cX1_study 37 = .ok (.invokestatic 55, 3) := by decide +kernel
theorem dX1_study_40 : decode cX1_study 40 = .ok (.aload_n 0, 1) := by decide +kernel
theorem dX1_study_41 : decode cX1_study 41 = .ok (.getfield 22, 3) := by decide +kernel
theorem dX1_study_44 : decode cX1_study 44 = .ok (.iload_n 2, 1) := by decide +kernel
theorem dX1_study_45 : decode cX1_study 45 = .ok (.invokestatic 61, 3) := by decide +kernel
theorem dX1_study_48 : decode cX1_study 48 = .ok (.aload_n 0, 1) := by decide +kernel
theorem dX1_study_49 : decode cX1_study 49 = .ok (.getfield 22, 3) := by decide +kernel
theorem dX1_study_52 : decode cX1_study 52 = .ok (.iconst 0, 1) := by decide +kernel
theorem dX1_study_53 : decode cX1_study 53 = .ok (.aload_n 0, 1) := by decide +kernel
theorem dX1_study_54 : decode cX1_study 54 = .ok (.getfield 9, 3) := by decide +kernel
theorem dX1_study_57 : decode cX1_study 57 = .ok (.iconst 0, 1) := by decide +kernel
theorem dX1_study_58 : decode cX1_study 58 = .ok (.iload_n 2, 1) := by decide +kernel
theorem dX1_study_59 : decode cX1_study 59 = .ok (.invokestatic 55, 3) := by decide +kernel
theorem dX1_study_62 : decode cX1_study 62 = .ok (.aload_n 0, 1) := by decide +kernel
theorem dX1_study_63 : decode cX1_study 63 = .ok (.invokevirtual 64, 3) := by decide +kernel
theorem dX1_study_66 : decode cX1_study 66 = .ok (.aload_n 1, 1) := by decide +kernel
theorem dX1_study_67 : decode cX1_study 67 = .ok (.getfield 67, 3) := by decide +kernel
theorem dX1_study_70 : decode cX1_study 70 = .ok (.invokestatic 70, 3) := by decide +kernel
theorem dX1_study_73 : decode cX1_study 73 = .ok (.istore_n 3, 1) := by decide +kernel
theorem dX1_study_74 : decode cX1_study 74 = .ok (.iconst 0, 1) := by decide +kernel
theorem dX1_study_75 : decode cX1_study 75 = .ok (.istore 4, 2) := by decide +kernel
theorem dX1_study_77 : decode cX1_study 77 = .ok (.iload 4, 2) := by decide +kernel
theorem dX1_study_79 : decode cX1_study 79 = .ok (.iload_n 3, 1) := by decide +kernel
theorem dX1_study_80 : decode cX1_study 80 = .ok (.if_icmp .ge 97, 3) := by decide +kernel
theorem dX1_study_83 : decode cX1_study 83 = .ok (.aload_n 0, 1) := by decide +kernel
theorem dX1_study_84 : decode cX1_study 84 = .ok (.aload_n 0, 1) := by decide +kernel
theorem dX1_study_85 : decode cX1_study 85 = .ok (.getfield 22, 3) := by decide +kernel
theorem dX1_study_88 : decode cX1_study 88 = .ok (.iload_n 2, 1) := by decide +kernel
theorem dX1_study_89 : decode cX1_study 89 = .ok (.invokevirtual 74, 3) := by decide +kernel
theorem dX1_study_92 : decode cX1_study 92 = .ok (.aload_n 0, 1) := by decide +kernel
theorem dX1_study_93 : decode cX1_study 93 = .ok (.getfield 25, 3) := by decide +kernel
theorem dX1_study_96 : decode cX1_study 96 = .ok (.aload_n 0, 1) := by decide +kernel
theorem dX1_study_97 : decode cX1_study 97 = .ok (.getfield 9, 3) := by decide +kernel
theorem dX1_study_100 : decode cX1_study 100 = .ok (.iload_n 2, 1) := by decide +kernel
theorem dX1_study_101 : decode cX1_study 101 = .ok (.invokestatic 77, 3) := by decide +kernel
theorem dX1_study_104 : decode cX1_study 104 = .ok (.ifCond .ge 17, 3) := by decide +kernel
theorem dX1_study_107 : decode cX1_study 107 = .ok (.aload_n 0, 1) := by decide +kernel
theorem dX1_study_108 : decode cX1_study 108 = .ok (.getfield 25, 3) := by decide +kernel
theorem dX1_study_111 : decode cX1_study 111 = .ok (.iconst 0, 1) := by decide +kernel
theorem dX1_study_112 : decode cX1_study 112 = .ok (.aload_n 0, 1) := by decide +kernel
theorem dX1_study_113 : decode cX1_study 113 = .ok (.getfield 9, 3) := by decide +kernel
theorem dX1_study_116 : decode cX1_study 116 = .ok (.iconst 0, 1) := by decide +kernel
theorem dX1_study_117 : decode cX1_study 117 = .ok (.iload_n 2, 1) := by decide +kernel
theorem dX1_study_118 : decode cX1_study 118 = .ok (.invokestatic 55, 3) := by decide +kernel
theorem dX1_study_121 : decode cX1_study 121 = .ok (.aload_n 0, 1) := by decide +kernel
theorem dX1_study_122 : decode cX1_study 122 = .ok (.getfield 25, 3) := by decide +kernel
theorem dX1_study_125 : decode cX1_study 125 = .ok (.aload_n 0, 1) := by decide +kernel
theorem dX1_study_126 : decode cX1_study 126 = .ok (.getfield 22, 3) := by decide +kernel
theorem dX1_study_129 : decode cX1_study 129 = .ok (.iload_n 2, 1) := by decide +kernel
theorem dX1_study_130 : decode cX1_study 130 = .ok (.invokestatic 77, 3) := by decide +kernel
theorem dX1_study_133 : decode cX1_study 133 = .ok (.ifCond .ne 30, 3) := by decide +kernel
theorem dX1_study_136 : decode cX1_study 136 = .ok (.aload_n 0, 1) := by decide +kernel
theorem dX1_study_137 : decode cX1_study 137 = .ok (.getfield 15, 3) := by decide +kernel
theorem dX1_study_140 : decode cX1_study 140 = .ok (.iconst 0, 1) := by decide +kernel
theorem dX1_study_141 : decode cX1_study 141 = .ok (.dup2, 1) := by decide +kernel
theorem dX1_study_142 : decode cX1_study 142 = .ok (.iaload, 1) := by decide +kernel
theorem dX1_study_143 : decode cX1_study 143 = .ok (.iconst 1, 1) := by decide +kernel
theorem dX1_study_144 : decode cX1_study 144 = .ok (.iadd, 1) := by decide +kernel
theorem dX1_study_145 : decode cX1_study 145 = .ok (.iastore, 1) := by decide +kernel
theorem dX1_study_146 : decode cX1_study 146 = .ok (.aload_n 0, 1) := by decide +kernel
theorem dX1_study_147 : decode cX1_study 147 = .ok (.getfield 15, 3) := by decide +kernel
theorem dX1_study_150 : decode cX1_study 150 = .ok (.aload_n 0, 1) := by decide +kernel
theorem dX1_study_151 : decode cX1_study 151 = .ok (.aload_n 1, 1) := by decide +kernel
theorem dX1_study_152 : decode cX1_study 152 = .ok (.getfield 67, 3) := by decide +kernel
theorem dX1_study_155 : decode cX1_study 155 = .ok (.invokevirtual 81, 3) := by decide +kernel
theorem dX1_study_158 : decode cX1_study 158 = .ok (.dup2, 1) := by decide +kernel
theorem dX1_study_159 : decode cX1_study 159 = .ok (.iaload, 1) := by decide +kernel
theorem dX1_study_160 : decode cX1_study 160 = .ok (.iconst 1, 1) := by decide +kernel
theorem dX1_study_161 : decode cX1_study 161 = .ok (.iadd, 1) := by decide +kernel
theorem dX1_study_162 : decode cX1_study 162 = .ok (.iastore, 1) := by decide +kernel
theorem dX1_study_163 : decode cX1_study 163 = .ok (.aload_n 0, 1) := by decide +kernel
theorem dX1_study_164 : decode cX1_study 164 = .ok (.aload_n 1, 1) := by decide +kernel
theorem dX1_study_165 : decode cX1_study 165 = .ok (.getfield 67, 3) := by decide +kernel
theorem dX1_study_168 : decode cX1_study 168 = .ok (.invokevirtual 84, 3) := by decide +kernel
theorem dX1_study_171 : decode cX1_study 171 = .ok (.iinc 4 1, 3) := by decide +kernel
theorem dX1_study_174 : decode cX1_study 174 = .ok (.goto (-97), 3) := by decide +kernel
theorem dX1_study_177 : decode cX1_study 177 = .ok (.return_, 1) := by decide +kernel
set_option maxRecDepth 20000 in
theorem ggX1_kindsOf_X1_leastFrom : GoodIn wsX1_kindsOf wsX1_leastFrom := goodIn_r _ [6, 7, 8, 9, 10, 5, 11, 12, 13, 14, 15, 16, 17, 18, 19, 20, 21, 22, 23, 24, 25, 26, 27, 28, 29, 30, 31, 32, 33, 34, 35, 36, 37, 38, 39, 40, 41, 42, 43, 44, 45, 46, 47, 48, 49, 50, 51, 52, 2, 3, 4, 53, 54, 55, 56, 57, 58, 59, 60, 61] (by decide +kernel) (by decide +kernel)
set_option maxRecDepth 20000 in
theorem gX1_kindsOf_X1_leastFrom : GoodIn wsX1_kindsOf (wsV RX1 88 RX1 yX1_leastFrom wsX1_leastFrom) := goodIn_app (goodIn_of _ (by decide +kernel)) ggX1_kindsOf_X1_leastFrom
theorem dX1_kindsOf_0 : decode cX1_kindsOf 0 = .ok (.iload_n 1, 1) := by decide +kernel
theorem dX1_kindsOf_1 : decode cX1_kindsOf 1 = .ok (.iconst 5, 1) := by decide +kernel
theorem dX1_kindsOf_2 : decode cX1_kindsOf 2 = .ok (.imul, 1) := by decide +kernel
theorem dX1_kindsOf_3 : decode cX1_kindsOf 3 = .ok (.iload_n 2, 1) := by decide +kernel
theorem dX1_kindsOf_4 : decode cX1_kindsOf 4 = .ok (.iadd, 1) := by decide +kernel
theorem dX1_kindsOf_5 : decode cX1_kindsOf 5 = .ok (.istore_n 3, 1) := by decide +kernel
theorem dX1_kindsOf_6 : decode cX1_kindsOf 6 = .ok (.aload_n 0, 1) := by decide +kernel
theorem dX1_kindsOf_7 : decode cX1_kindsOf 7 = .ok (.getfield 37, 3) := by decide +kernel
theorem dX1_kindsOf_10 : decode cX1_kindsOf 10 = .ok (.iload_n 3, 1) := by decide +kernel
theorem dX1_kindsOf_11 : decode cX1_kindsOf 11 = .ok (.iaload, 1) := by decide +kernel
theorem dX1_kindsOf_12 : decode cX1_kindsOf 12 = .ok (.iconst (-1), 1) := by decide +kernel
theorem dX1_kindsOf_13 : decode cX1_kindsOf 13 = .ok (.if_icmp .ne 17, 3) := by decide +kernel
theorem dX1_kindsOf_16 : decode cX1_kindsOf 16 = .ok (.aload_n 0, 1) := by decide +kernel
theorem dX1_kindsOf_17 : decode cX1_kindsOf 17 = .ok (.getfield 37, 3) := by decide +kernel
theorem dX1_kindsOf_20 : decode cX1_kindsOf 20 = .ok (.iload_n 3, 1) := by decide +kernel
theorem dX1_kindsOf_21 : decode cX1_kindsOf 21 = .ok (.aload_n 0, 1) := by decide +kernel
theorem dX1_kindsOf_22 : decode cX1_kindsOf 22 = .ok (.iconst 0, 1) := by decide +kernel
theorem dX1_kindsOf_23 : decode cX1_kindsOf 23 = .ok (.iconst 0, 1) := by decide +kernel
theorem dX1_kindsOf_24 : decode cX1_kindsOf 24 = .ok (.iload_n 1, 1) := by decide +kernel
theorem dX1_kindsOf_25 : decode cX1_kindsOf 25 = .ok (.iload_n 2, 1) := by decide +kernel
theorem dX1_kindsOf_26 : decode cX1_kindsOf 26 = .ok (.invokevirtual 88, 3) := by decide +kernel
theorem dX1_kindsOf_29 : decode cX1_kindsOf 29 = .ok (.iastore, 1) := by decide +kernel
theorem dX1_kindsOf_30 : decode cX1_kindsOf 30 = .ok (.aload_n 0, 1) := by decide +kernel
theorem dX1_kindsOf_31 : decode cX1_kindsOf 31 = .ok (.getfield 37, 3) := by decide +kernel
theorem dX1_kindsOf_34 : decode cX1_kindsOf 34 = .ok (.iload_n 3, 1) := by decide +kernel
theorem dX1_kindsOf_35 : decode cX1_kindsOf 35 = .ok (.iaload, 1) := by decide +kernel
theorem dX1_kindsOf_36 : decode cX1_kindsOf 36 = .ok (.ireturn, 1) := by decide +kernel
set_option maxRecDepth 20000 in
theorem ggX1_leastFrom_X1_isLeast : GoodIn wsX1_leastFrom wsX1_isLeast := goodIn_r _ [6, 1, 7, 8, 9, 10, 5, 11, 12, 13, 14, 15, 16, 17, 18, 19, 20, 21, 22, 23, 24, 25, 26, 27, 28, 29, 30, 31, 32, 33, 34, 35, 36, 37, 51, 52, 53, 54, 55, 56, 57, 58, 59] (by decide +kernel) (by decide +kernel)
set_option maxRecDepth 20000 in
theorem gX1_leastFrom_X1_isLeast : GoodIn wsX1_leastFrom (wsV RX1 92 RX1 yX1_isLeast wsX1_isLeast) := goodIn_app (goodIn_of _ (by decide +kernel)) ggX1_leastFrom_X1_isLeast
set_option maxRecDepth 20000 in
theorem ggX1_leastFrom_J6_bitCount_0f7a4 : GoodIn wsX1_leastFrom wsJ6_bitCount_0f7a4 := goodIn_r _ [40, 41, 42, 43] (by decide +kernel) (by decide +kernel)
set_option maxRecDepth 20000 in
theorem gX1_leastFrom_J6_bitCount_0f7a4 : GoodIn wsX1_leastFrom (va_wsS RX1 96 yJ6_bitCount_0f7a4 wsJ6_bitCount_0f7a4) := goodIn_app (goodIn_of _ (by decide +kernel)) ggX1_leastFrom_J6_bitCount_0f7a4
set_option maxRecDepth 20000 in
theorem ggX1_leastFrom_X1_standsBeside : GoodIn wsX1_leastFrom wsX1_standsBeside := goodIn_r _ [47, 1, 38, 39, 28, 40, 41, 42, 43, 51, 52, 53, 54, 55, 56, 57, 58, 59] (by decide +kernel) (by decide +kernel)
set_option maxRecDepth 20000 in
theorem gX1_leastFrom_X1_standsBeside : GoodIn wsX1_leastFrom (wsV RX1 101 RX1 yX1_standsBeside wsX1_standsBeside) := goodIn_app (goodIn_of _ (by decide +kernel)) ggX1_leastFrom_X1_standsBeside
set_option maxRecDepth 20000 in
theorem ggX1_leastFrom_X1_leastFrom : GoodIn wsX1_leastFrom wsX1_leastFrom := goodIn_r _ [0, 1, 2, 3, 4, 5, 6, 7, 8, 9, 10, 11, 12, 13, 14, 15, 16, 17, 18, 19, 20, 21, 22, 23, 24, 25, 26, 27, 28, 29, 30, 31, 32, 33, 34, 35, 36, 37, 38, 39, 40, 41, 42, 43, 44, 45, 46, 47, 48, 49, 50, 51, 52, 53, 54, 55, 56, 57, 58, 59] (by decide +kernel) (by decide +kernel)
set_option maxRecDepth 20000 in
theorem gX1_leastFrom_X1_leastFrom : GoodIn wsX1_leastFrom (wsV RX1 88 RX1 yX1_leastFrom wsX1_leastFrom) := goodIn_app (goodIn_of _ (by decide +kernel)) ggX1_leastFrom_X1_leastFrom
theorem dX1_leastFrom_0 : decode cX1_leastFrom 0 = .ok (.iload_n 1, 1) := by decide +kernel
theorem dX1_leastFrom_1 : decode cX1_leastFrom 1 = .ok (.iload 4, 2) := by decide +kernel
theorem dX1_leastFrom_3 : decode cX1_leastFrom 3 = .ok (.if_icmp .ge 8, 3) := by decide +kernel
theorem dX1_leastFrom_6 : decode cX1_leastFrom 6 = .ok (.iload_n 1, 1) := by decide +kernel
theorem dX1_leastFrom_7 : decode cX1_leastFrom 7 = .ok (.iconst 4, 1) := by decide +kernel
theorem dX1_leastFrom_8 : decode cX1_leastFrom 8 = .ok (.if_icmp .lt 19, 3) := by decide +kernel
theorem dX1_leastFrom_11 : decode cX1_leastFrom 11 = .ok (.aload_n 0, 1) := by decide +kernel
theorem dX1_leastFrom_12 : decode cX1_leastFrom 12 = .ok (.iload_n 3, 1) := by decide +kernel
theorem dX1_leastFrom_13 : decode cX1_leastFrom 13 = .ok (.iload 4, 2) := by decide +kernel
theorem dX1_leastFrom_15 : decode cX1_leastFrom 15 = .ok (.invokevirtual 92, 3) := by decide +kernel
theorem dX1_leastFrom_18 : decode cX1_leastFrom 18 = .ok (.ifCond .eq 7, 3) := by decide +kernel
theorem dX1_leastFrom_21 : decode cX1_leastFrom 21 = .ok (.iconst 1, 1) := by decide +kernel
theorem dX1_leastFrom_22 : decode cX1_leastFrom 22 = .ok (.goto 4, 3) := by decide +kernel
theorem dX1_leastFrom_25 : decode cX1_leastFrom 25 = .ok (.iconst 0, 1) := by decide +kernel
theorem dX1_leastFrom_26 : decode cX1_leastFrom 26 = .ok (.ireturn, 1) := by decide +kernel
theorem dX1_leastFrom_27 : decode cX1_leastFrom 27 = .ok (.iconst 0, 1) := by decide +kernel
theorem dX1_leastFrom_28 : decode cX1_leastFrom 28 = .ok (.istore 5, 2) := by decide +kernel
theorem dX1_leastFrom_30 : decode cX1_leastFrom 30 = .ok (.iload_n 2, 1) := by decide +kernel
theorem dX1_leastFrom_31 : decode cX1_leastFrom 31 = .ok (.istore 6, 2) := by decide +kernel
theorem dX1_leastFrom_33 : decode cX1_leastFrom 33 = .ok (.iload 6, 2) := by decide +kernel
theorem dX1_leastFrom_35 : decode cX1_leastFrom 35 = .ok (.iconst 1, 1) := by decide +kernel
theorem dX1_leastFrom_36 : decode cX1_leastFrom 36 = .ok (.iload_n 3, 1) := by decide +kernel
theorem dX1_leastFrom_37 : decode cX1_leastFrom 37 = .ok (.ishl, 1) := by decide +kernel
theorem dX1_leastFrom_38 : decode cX1_leastFrom 38 = .ok (.if_icmp .ge 55, 3) := by decide +kernel
theorem dX1_leastFrom_41 : decode cX1_leastFrom 41 = .ok (.iload 6, 2) := by decide +kernel
theorem dX1_leastFrom_43 : decode cX1_leastFrom 43 = .ok (.invokestatic 96, 3) := by decide +kernel
theorem dX1_leastFrom_46 : decode cX1_leastFrom 46 = .ok (.iconst 3, 1) := by decide +kernel
theorem dX1_leastFrom_47 : decode cX1_leastFrom 47 = .ok (.if_icmp .ne 40, 3) := by decide +kernel
theorem dX1_leastFrom_50 : decode cX1_leastFrom 50 = .ok (.aload_n 0, 1) := by decide +kernel
theorem dX1_leastFrom_51 : decode cX1_leastFrom 51 = .ok (.iload 6, 2) := by decide +kernel
theorem dX1_leastFrom_53 : decode cX1_leastFrom 53 = .ok (.iload_n 1, 1) := by decide +kernel
theorem dX1_leastFrom_54 : decode cX1_leastFrom 54 = .ok (.invokevirtual 101, 3) := by decide +kernel
theorem dX1_leastFrom_57 : decode cX1_leastFrom 57 = .ok (.ifCond .eq 30, 3) := by decide +kernel
theorem dX1_leastFrom_60 : decode cX1_leastFrom 60 = .ok (.aload_n 0, 1) := by decide +kernel
theorem dX1_leastFrom_61 : decode cX1_leastFrom 61 = .ok (.getfield 34, 3) := by decide +kernel
theorem dX1_leastFrom_64 : decode cX1_leastFrom 64 = .ok (.iload_n 1, 1) := by decide +kernel
theorem dX1_leastFrom_65 : decode cX1_leastFrom 65 = .ok (.iload 6, 2) := by decide +kernel
theorem dX1_leastFrom_67 : decode cX1_leastFrom 67 = .ok (.iastore, 1) := by decide +kernel
theorem dX1_leastFrom_68 : decode cX1_leastFrom 68 = .ok (.iload 5, 2) := by decide +kernel
theorem dX1_leastFrom_70 : decode cX1_leastFrom 70 = .ok (.aload_n 0, 1) := by decide +kernel
theorem dX1_leastFrom_71 : decode cX1_leastFrom 71 = .ok (.iload_n 1, 1) := by decide +kernel
theorem dX1_leastFrom_72 : decode cX1_leastFrom 72 = .ok (.iconst 1, 1) := by decide +kernel
theorem dX1_leastFrom_73 : decode cX1_leastFrom 73 = .ok (.iadd, 1) := by decide +kernel
theorem dX1_leastFrom_74 : decode cX1_leastFrom 74 = .ok (.iload 6, 2) := by decide +kernel
theorem dX1_leastFrom_76 : decode cX1_leastFrom 76 = .ok (.iconst 1, 1) := by decide +kernel
theorem dX1_leastFrom_77 : decode cX1_leastFrom 77 = .ok (.iadd, 1) := by decide +kernel
theorem dX1_leastFrom_78 : decode cX1_leastFrom 78 = .ok (.iload_n 3, 1) := by decide +kernel
theorem dX1_leastFrom_79 : decode cX1_leastFrom 79 = .ok (.iload 4, 2) := by decide +kernel
theorem dX1_leastFrom_81 : decode cX1_leastFrom 81 = .ok (.invokevirtual 88, 3) := by decide +kernel
theorem dX1_leastFrom_84 : decode cX1_leastFrom 84 = .ok (.iadd, 1) := by decide +kernel
theorem dX1_leastFrom_85 : decode cX1_leastFrom 85 = .ok (.istore 5, 2) := by decide +kernel
theorem dX1_leastFrom_87 : decode cX1_leastFrom 87 = .ok (.iinc 6 1, 3) := by decide +kernel
theorem dX1_leastFrom_90 : decode cX1_leastFrom 90 = .ok (.goto (-57), 3) := by decide +kernel
theorem dX1_leastFrom_93 : decode cX1_leastFrom 93 = .ok (.iload 5, 2) := by decide +kernel
theorem dX1_leastFrom_95 : decode cX1_leastFrom 95 = .ok (.ireturn, 1) := by decide +kernel
set_option maxRecDepth 20000 in
theorem ggX1_standsBeside_J6_bitCount_0f7a4 : GoodIn wsX1_standsBeside wsJ6_bitCount_0f7a4 := goodIn_r _ [5, 6, 7, 8] (by decide +kernel) (by decide +kernel)
set_option maxRecDepth 20000 in
theorem gX1_standsBeside_J6_bitCount_0f7a4 : GoodIn wsX1_standsBeside (va_wsS RX1 96 yJ6_bitCount_0f7a4 wsJ6_bitCount_0f7a4) := goodIn_app (goodIn_of _ (by decide +kernel)) ggX1_standsBeside_J6_bitCount_0f7a4
theorem dX1_standsBeside_0 : decode cX1_standsBeside 0 = .ok (.iconst 0, 1) := by decide +kernel
theorem dX1_standsBeside_1 : decode cX1_standsBeside 1 = .ok (.istore_n 3, 1) := by decide +kernel
theorem dX1_standsBeside_2 : decode cX1_standsBeside 2 = .ok (.iload_n 3, 1) := by decide +kernel
theorem dX1_standsBeside_3 : decode cX1_standsBeside 3 = .ok (.iload_n 2, 1) := by decide +kernel
theorem dX1_standsBeside_4 : decode cX1_standsBeside 4 = .ok (.if_icmp .ge 26, 3) := by decide +kernel
theorem dX1_standsBeside_7 : decode cX1_standsBeside 7 = .ok (.aload_n 0, 1) := by decide +kernel
theorem dX1_standsBeside_8 : decode cX1_standsBeside 8 = .ok (.getfield 34, 3) := by decide +kernel
theorem dX1_standsBeside_11 : decode cX1_standsBeside 11 = .ok (.iload_n 3, 1) := by decide +kernel
theorem dX1_standsBeside_12 : decode cX1_standsBeside 12 = .ok (.iaload, 1) := by decide +kernel
theorem dX1_standsBeside_13 : decode cX1_standsBeside 13 = .ok (.iload_n 1, 1) := by decide +kernel
theorem dX1_standsBeside_14 : decode cX1_standsBeside 14 = .ok (.iand, 1) := by decide +kernel
theorem dX1_standsBeside_15 : decode cX1_standsBeside 15 = .ok (.invokestatic 96, 3) := by decide +kernel
theorem dX1_standsBeside_18 : decode cX1_standsBeside 18 = .ok (.iconst 1, 1) := by decide +kernel
theorem dX1_standsBeside_19 : decode cX1_standsBeside 19 = .ok (.if_icmp .le 5, 3) := by decide +kernel
theorem dX1_standsBeside_22 : decode cX1_standsBeside 22 = .ok (.iconst 0, 1) := by decide +kernel
theorem dX1_standsBeside_23 : decode cX1_standsBeside 23 = .ok (.ireturn, 1) := by decide +kernel
theorem dX1_standsBeside_24 : decode cX1_standsBeside 24 = .ok (.iinc 3 1, 3) := by decide +kernel
theorem dX1_standsBeside_27 : decode cX1_standsBeside 27 = .ok (.goto (-25), 3) := by decide +kernel
theorem dX1_standsBeside_30 : decode cX1_standsBeside 30 = .ok (.iconst 1, 1) := by decide +kernel
theorem dX1_standsBeside_31 : decode cX1_standsBeside 31 = .ok (.ireturn, 1) := by decide +kernel
set_option maxRecDepth 20000 in
theorem ggX1_isLeast_X1_startRenaming : GoodIn wsX1_isLeast wsX1_startRenaming := goodIn_r _ [7, 8, 34, 35, 36, 37, 38, 39, 40, 41, 42] (by decide +kernel) (by decide +kernel)
set_option maxRecDepth 20000 in
theorem gX1_isLeast_X1_startRenaming : GoodIn wsX1_isLeast (wsV RX1 64 RX1 yX1_startRenaming wsX1_startRenaming) := goodIn_app (goodIn_of _ (by decide +kernel)) ggX1_isLeast_X1_startRenaming
set_option maxRecDepth 20000 in
theorem ggX1_isLeast_X1_factorial : GoodIn wsX1_isLeast wsX1_factorial := goodIn_r _ [11] (by decide +kernel) (by decide +kernel)
set_option maxRecDepth 20000 in
theorem gX1_isLeast_X1_factorial : GoodIn wsX1_isLeast (va_wsS RX1 70 yX1_factorial wsX1_factorial) := goodIn_app (goodIn_of _ (by decide +kernel)) ggX1_isLeast_X1_factorial
set_option maxRecDepth 20000 in
theorem ggX1_isLeast_X1_rename : GoodIn wsX1_isLeast wsX1_rename := goodIn_r _ [15, 8, 2, 16, 17, 6, 18, 34, 35, 36, 37, 38, 39, 40, 41, 42] (by decide +kernel) (by decide +kernel)
set_option maxRecDepth 20000 in
theorem gX1_isLeast_X1_rename : GoodIn wsX1_isLeast (wsV RX1 74 RX1 yX1_rename wsX1_rename) := goodIn_app (goodIn_of _ (by decide +kernel)) ggX1_isLeast_X1_rename
set_option maxRecDepth 20000 in
theorem ggX1_isLeast_X1_compareRows : GoodIn wsX1_isLeast wsX1_compareRows := goodIn_r _ [21, 22, 23, 24, 25] (by decide +kernel) (by decide +kernel)
set_option maxRecDepth 20000 in
theorem gX1_isLeast_X1_compareRows : GoodIn wsX1_isLeast (va_wsS RX1 77 yX1_compareRows wsX1_compareRows) := goodIn_app (goodIn_of _ (by decide +kernel)) ggX1_isLeast_X1_compareRows
set_option maxRecDepth 20000 in
theorem ggX1_isLeast_X1_nextRenaming : GoodIn wsX1_isLeast wsX1_nextRenaming := goodIn_r _ [29, 8, 30, 31, 32, 6, 33, 34, 35, 36, 37, 38, 39, 40, 41, 42] (by decide +kernel) (by decide +kernel)
set_option maxRecDepth 20000 in
theorem gX1_isLeast_X1_nextRenaming : GoodIn wsX1_isLeast (wsV RX1 84 RX1 yX1_nextRenaming wsX1_nextRenaming) := goodIn_app (goodIn_of _ (by decide +kernel)) ggX1_isLeast_X1_nextRenaming
theorem dX1_isLeast_0 : decode cX1_isLeast 0 = .ok (.aload_n 0, 1) := by decide +kernel
theorem dX1_isLeast_1 : decode cX1_isLeast 1 = .ok (.invokevirtual 64, 3) := by decide +kernel
theorem dX1_isLeast_4 : decode cX1_isLeast 4 = .ok (.iload_n 1, 1) := by decide +kernel
theorem dX1_isLeast_5 : decode cX1_isLeast 5 = .ok (.invokestatic 70, 3) := by decide +kernel
theorem dX1_isLeast_8 : decode cX1_isLeast 8 = .ok (.istore_n 3, 1) := by decide +kernel
theorem dX1_isLeast_9 : decode cX1_isLeast 9 = .ok (.iconst 0, 1) := by decide +kernel
theorem dX1_isLeast_10 : decode cX1_isLeast 10 = .ok (.istore 4, 2) := by decide +kernel
theorem dX1_isLeast_12 : decode cX1_isLeast 12 = .ok (.iload 4, 2) := by decide +kernel
theorem dX1_isLeast_14 : decode cX1_isLeast 14 = .ok (.iload_n 3, 1) := by decide +kernel
theorem dX1_isLeast_15 : decode cX1_isLeast 15 = .ok (.if_icmp .ge 40, 3) := by decide +kernel
theorem dX1_isLeast_18 : decode cX1_isLeast 18 = .ok (.aload_n 0, 1) := by decide +kernel
theorem dX1_isLeast_19 : decode cX1_isLeast 19 = .ok (.aload_n 0, 1) := by decide +kernel
theorem dX1_isLeast_20 : decode cX1_isLeast 20 = .ok (.getfield 34, 3) := by decide +kernel
theorem dX1_isLeast_23 : decode cX1_isLeast 23 = .ok (.iload_n 2, 1) := by decide +kernel
theorem dX1_isLeast_24 : decode cX1_isLeast 24 = .ok (.invokevirtual 74, 3) := by decide +kernel
theorem dX1_isLeast_27 : decode cX1_isLeast 27 = .ok (.aload_n 0, 1) := by decide +kernel
theorem dX1_isLeast_28 : decode cX1_isLeast 28 = .ok (.getfield 25, 3) := by decide +kernel
theorem dX1_isLeast_31 : decode cX1_isLeast 31 = .ok (.aload_n 0, 1) := by decide +kernel
theorem dX1_isLeast_32 : decode cX1_isLeast 32 = .ok (.getfield 34, 3) := by decide +kernel
theorem dX1_isLeast_35 : decode cX1_isLeast 35 = .ok (.iload_n 2, 1) := by decide +kernel
theorem dX1_isLeast_36 : decode cX1_isLeast 36 = .ok (.invokestatic 77, 3) := by decide +kernel
theorem dX1_isLeast_39 : decode cX1_isLeast 39 = .ok (.ifCond .ge 5, 3) := by decide +kernel
theorem dX1_isLeast_42 : decode cX1_isLeast 42 = .ok (.iconst 0, 1) := by decide +kernel
theorem dX1_isLeast_43 : decode cX1_isLeast 43 = .ok (.ireturn, 1) := by decide +kernel
theorem dX1_isLeast_44 : decode cX1_isLeast 44 = .ok (.aload_n 0, 1) := by decide +kernel
theorem dX1_isLeast_45 : decode cX1_isLeast 45 = .ok (.iload_n 1, 1) := by decide +kernel
theorem dX1_isLeast_46 : decode cX1_isLeast 46 = .ok (.invokevirtual 84, 3) := by decide +kernel
theorem dX1_isLeast_49 : decode cX1_isLeast 49 = .ok (.iinc 4 1, 3) := by decide +kernel
theorem dX1_isLeast_52 : decode cX1_isLeast 52 = .ok (.goto (-40), 3) := by decide +kernel
theorem dX1_isLeast_55 : decode cX1_isLeast 55 = .ok (.iconst 1, 1) := by decide +kernel
theorem dX1_isLeast_56 : decode cX1_isLeast 56 = .ok (.ireturn, 1) := by decide +kernel
theorem dX1_startRenaming_0 : decode cX1_startRenaming 0 = .ok (.iconst 0, 1) := by decide +kernel
theorem dX1_startRenaming_1 : decode cX1_startRenaming 1 = .ok (.istore_n 1, 1) := by decide +kernel
theorem dX1_startRenaming_2 : decode cX1_startRenaming 2 = .ok (.iload_n 1, 1) := by decide +kernel
theorem dX1_startRenaming_3 : decode cX1_startRenaming 3 = .ok (.bipush 7, 2) := by decide +kernel
theorem dX1_startRenaming_5 : decode cX1_startRenaming 5 = .ok (.if_icmp .ge 16, 3) := by decide +kernel
theorem dX1_startRenaming_8 : decode cX1_startRenaming 8 = .ok (.aload_n 0, 1) := by decide +kernel
theorem dX1_startRenaming_9 : decode cX1_startRenaming 9 = .ok (.getfield 28, 3) := by decide +kernel
theorem dX1_startRenaming_12 : decode cX1_startRenaming 12 = .ok (.iload_n 1, 1) := by decide +kernel
theorem dX1_startRenaming_13 : decode cX1_startRenaming 13 = .ok (.iload_n 1, 1) := by decide +kernel
theorem dX1_startRenaming_14 : decode cX1_startRenaming 14 = .ok (.iastore, 1) := by decide +kernel
theorem dX1_startRenaming_15 : decode cX1_startRenaming 15 = .ok (.iinc 1 1, 3) := by decide +kernel
theorem dX1_startRenaming_18 : decode cX1_startRenaming 18 = .ok (.goto (-16), 3) := by decide +kernel
theorem dX1_startRenaming_21 : decode cX1_startRenaming 21 = .ok (.return_, 1) := by decide +kernel
set_option maxRecDepth 20000 in
theorem ggX1_nextRenaming_X1_exchange : GoodIn wsX1_nextRenaming wsX1_exchange := goodIn_r _ [6, 1, 7, 8, 9, 10, 11, 12, 13, 14, 15] (by decide +kernel) (by decide +kernel)
set_option maxRecDepth 20000 in
theorem gX1_nextRenaming_X1_exchange : GoodIn wsX1_nextRenaming (wsV RX1 104 RX1 yX1_exchange wsX1_exchange) := goodIn_app (goodIn_of _ (by decide +kernel)) ggX1_nextRenaming_X1_exchange
theorem dX1_nextRenaming_0 : decode cX1_nextRenaming 0 = .ok (.iload_n 1, 1) := by decide +kernel
theorem dX1_nextRenaming_1 : decode cX1_nextRenaming 1 = .ok (.iconst 2, 1) := by decide +kernel
theorem dX1_nextRenaming_2 : decode cX1_nextRenaming 2 = .ok (.isub, 1) := by decide +kernel
theorem dX1_nextRenaming_3 : decode cX1_nextRenaming 3 = .ok (.istore_n 2, 1) := by decide +kernel
theorem dX1_nextRenaming_4 : decode cX1_nextRenaming 4 = .ok (.iload_n 2, 1) := by decide +kernel
theorem dX1_nextRenaming_5 : decode cX1_nextRenaming 5 = .ok (.ifCond .lt 26, 3) := by decide +kernel
theorem dX1_nextRenaming_8 : decode cX1_nextRenaming 8 = .ok (.aload_n 0, 1) := by decide +kernel
theorem dX1_nextRenaming_9 : decode cX1_nextRenaming 9 = .ok (.getfield 28, 3) := by decide +kernel
theorem dX1_nextRenaming_12 : decode cX1_nextRenaming 12 = .ok (.iload_n 2, 1) := by decide +kernel
theorem dX1_nextRenaming_13 : decode cX1_nextRenaming 13 = .ok (.iaload, 1) := by decide +kernel
theorem dX1_nextRenaming_14 : decode cX1_nextRenaming 14 = .ok (.aload_n 0, 1) := by decide +kernel
theorem dX1_nextRenaming_15 : decode cX1_nextRenaming 15 = .ok (.getfield 28, 3) := by decide +kernel
theorem dX1_nextRenaming_18 : decode cX1_nextRenaming 18 = .ok (.iload_n 2, 1) := by decide +kernel
theorem dX1_nextRenaming_19 : decode cX1_nextRenaming 19 = .ok (.iconst 1, 1) := by decide +kernel
theorem dX1_nextRenaming_20 : decode cX1_nextRenaming 20 = .ok (.iadd, 1) := by decide +kernel
theorem dX1_nextRenaming_21 : decode cX1_nextRenaming 21 = .ok (.iaload, 1) := by decide +kernel
theorem dX1_nextRenaming_22 : decode cX1_nextRenaming 22 = .ok (.if_icmp .le 9, 3) := by decide +kernel
theorem dX1_nextRenaming_25 : decode cX1_nextRenaming 25 = .ok (.iinc 2 (-1), 3) := by decide +kernel
theorem dX1_nextRenaming_28 : decode cX1_nextRenaming 28 = .ok (.goto (-24), 3) := by decide +kernel
theorem dX1_nextRenaming_31 : decode cX1_nextRenaming 31 = .ok (.iload_n 2, 1) := by decide +kernel
theorem dX1_nextRenaming_32 : decode cX1_nextRenaming 32 = .ok (.ifCond .ge 4, 3) := by decide +kernel
theorem dX1_nextRenaming_35 : decode cX1_nextRenaming 35 = .ok (.return_, 1) := by decide +kernel
theorem dX1_nextRenaming_36 : decode cX1_nextRenaming 36 = .ok (.iload_n 1, 1) := by decide +kernel
theorem dX1_nextRenaming_37 : decode cX1_nextRenaming 37 = .ok (.iconst 1, 1) := by decide +kernel
theorem dX1_nextRenaming_38 : decode cX1_nextRenaming 38 = .ok (.isub, 1) := by decide +kernel
theorem dX1_nextRenaming_39 : decode cX1_nextRenaming 39 = .ok (.istore_n 3, 1) := by decide +kernel
theorem dX1_nextRenaming_40 : decode cX1_nextRenaming 40 = .ok (.iload_n 3, 1) := by decide +kernel
theorem dX1_nextRenaming_41 : decode cX1_nextRenaming 41 = .ok (.iload_n 2, 1) := by decide +kernel
theorem dX1_nextRenaming_42 : decode cX1_nextRenaming 42 = .ok (.if_icmp .le 24, 3) := by decide +kernel
theorem dX1_nextRenaming_45 : decode cX1_nextRenaming 45 = .ok (.aload_n 0, 1) := by decide +kernel
theorem dX1_nextRenaming_46 : decode cX1_nextRenaming 46 = .ok (.getfield 28, 3) := by decide +kernel
theorem dX1_nextRenaming_49 : decode cX1_nextRenaming 49 = .ok (.iload_n 3, 1) := by decide +kernel
theorem dX1_nextRenaming_50 : decode cX1_nextRenaming 50 = .ok (.iaload, 1) := by decide +kernel
theorem dX1_nextRenaming_51 : decode cX1_nextRenaming 51 = .ok (.aload_n 0, 1) := by decide +kernel
theorem dX1_nextRenaming_52 : decode cX1_nextRenaming 52 = .ok (.getfield 28, 3) := by decide +kernel
theorem dX1_nextRenaming_55 : decode cX1_nextRenaming 55 = .ok (.iload_n 2, 1) := by decide +kernel
theorem dX1_nextRenaming_56 : decode cX1_nextRenaming 56 = .ok (.iaload, 1) := by decide +kernel
theorem dX1_nextRenaming_57 : decode cX1_nextRenaming 57 = .ok (.if_icmp .ge 9, 3) := by decide +kernel
theorem dX1_nextRenaming_60 : decode cX1_nextRenaming 60 = .ok (.iinc 3 (-1), 3) := by decide +kernel
theorem dX1_nextRenaming_63 : decode cX1_nextRenaming 63 = .ok (.goto (-23), 3) := by decide +kernel
theorem dX1_nextRenaming_66 : decode cX1_nextRenaming 66 = .ok (.aload_n 0, 1) := by decide +kernel
theorem dX1_nextRenaming_67 : decode cX1_nextRenaming 67 = .ok (.iload_n 2, 1) := by decide +kernel
theorem dX1_nextRenaming_68 : decode cX1_nextRenaming 68 = .ok (.iload_n 3, 1) := by decide +kernel
theorem dX1_nextRenaming_69 : decode cX1_nextRenaming 69 = .ok (.invokevirtual 104, 3) := by decide +kernel
theorem dX1_nextRenaming_72 : decode cX1_nextRenaming 72 = .ok (.iload_n 2, 1) := by decide +kernel
theorem dX1_nextRenaming_73 : decode cX1_nextRenaming 73 = .ok (.iconst 1, 1) := by decide +kernel
theorem dX1_nextRenaming_74 : decode cX1_nextRenaming 74 = .ok (.iadd, 1) := by decide +kernel
theorem dX1_nextRenaming_75 : decode cX1_nextRenaming 75 = .ok (.istore 4, 2) := by decide +kernel
theorem dX1_nextRenaming_77 : decode cX1_nextRenaming 77 = .ok (.iload_n 1, 1) := by decide +kernel
theorem dX1_nextRenaming_78 : decode cX1_nextRenaming 78 = .ok (.iconst 1, 1) := by decide +kernel
theorem dX1_nextRenaming_79 : decode cX1_nextRenaming 79 = .ok (.isub, 1) := by decide +kernel
theorem dX1_nextRenaming_80 : decode cX1_nextRenaming 80 = .ok (.istore 5, 2) := by decide +kernel
theorem dX1_nextRenaming_82 : decode cX1_nextRenaming 82 = .ok (.iload 4, 2) := by decide +kernel
theorem dX1_nextRenaming_84 : decode cX1_nextRenaming 84 = .ok (.iload 5, 2) := by decide +kernel
theorem dX1_nextRenaming_86 : decode cX1_nextRenaming 86 = .ok (.if_icmp .ge 20, 3) := by decide +kernel
theorem dX1_nextRenaming_89 : decode cX1_nextRenaming 89 = .ok (.aload_n 0, 1) := by decide +kernel
theorem dX1_nextRenaming_90 : decode cX1_nextRenaming 90 = .ok (.iload 4, 2) := by decide +kernel
theorem dX1_nextRenaming_92 : decode cX1_nextRenaming 92 = .ok (.iload 5, 2) := by decide +kernel
theorem dX1_nextRenaming_94 : decode cX1_nextRenaming 94 = .ok (.invokevirtual 104, 3) := by decide +kernel
theorem dX1_nextRenaming_97 : decode cX1_nextRenaming 97 = .ok (.iinc 4 1, 3) := by decide +kernel
theorem dX1_nextRenaming_100 : decode cX1_nextRenaming 100 = .ok (.iinc 5 (-1), 3) := by decide +kernel
theorem dX1_nextRenaming_103 : decode cX1_nextRenaming 103 = .ok (.goto (-21), 3) := by decide +kernel
theorem dX1_nextRenaming_106 : decode cX1_nextRenaming 106 = .ok (.return_, 1) := by decide +kernel
theorem dX1_exchange_0 : decode cX1_exchange 0 = .ok (.aload_n 0, 1) := by decide +kernel
theorem dX1_exchange_1 : decode cX1_exchange 1 = .ok (.getfield 28, 3) := by decide +kernel
theorem dX1_exchange_4 : decode cX1_exchange 4 = .ok (.iload_n 1, 1) := by decide +kernel
theorem dX1_exchange_5 : decode cX1_exchange 5 = .ok (.iaload, 1) := by decide +kernel
theorem dX1_exchange_6 : decode cX1_exchange 6 = .ok (.istore_n 3, 1) := by decide +kernel
theorem dX1_exchange_7 : decode cX1_exchange 7 = .ok (.aload_n 0, 1) := by decide +kernel
theorem dX1_exchange_8 : decode cX1_exchange 8 = .ok (.getfield 28, 3) := by decide +kernel
theorem dX1_exchange_11 : decode cX1_exchange 11 = .ok (.iload_n 1, 1) := by decide +kernel
theorem dX1_exchange_12 : decode cX1_exchange 12 = .ok (.aload_n 0, 1) := by decide +kernel
theorem dX1_exchange_13 : decode cX1_exchange 13 = .ok (.getfield 28, 3) := by decide +kernel
theorem dX1_exchange_16 : decode cX1_exchange 16 = .ok (.iload_n 2, 1) := by decide +kernel
theorem dX1_exchange_17 : decode cX1_exchange 17 = .ok (.iaload, 1) := by decide +kernel
theorem dX1_exchange_18 : decode cX1_exchange 18 = .ok (.iastore, 1) := by decide +kernel
theorem dX1_exchange_19 : decode cX1_exchange 19 = .ok (.aload_n 0, 1) := by decide +kernel
theorem dX1_exchange_20 : decode cX1_exchange 20 = .ok (.getfield 28, 3) := by decide +kernel
theorem dX1_exchange_23 : decode cX1_exchange 23 = .ok (.iload_n 2, 1) := by decide +kernel
theorem dX1_exchange_24 : decode cX1_exchange 24 = .ok (.iload_n 3, 1) := by decide +kernel
theorem dX1_exchange_25 : decode cX1_exchange 25 = .ok (.iastore, 1) := by decide +kernel
theorem dX1_exchange_26 : decode cX1_exchange 26 = .ok (.return_, 1) := by decide +kernel
set_option maxRecDepth 20000 in
theorem ggX1_rename_X1_sort : GoodIn wsX1_rename wsX1_sort := goodIn_r _ [6] (by decide +kernel) (by decide +kernel)
set_option maxRecDepth 20000 in
theorem gX1_rename_X1_sort : GoodIn wsX1_rename (va_wsS RX1 61 yX1_sort wsX1_sort) := goodIn_app (goodIn_of _ (by decide +kernel)) ggX1_rename_X1_sort
theorem dX1_rename_0 : decode cX1_rename 0 = .ok (.iconst 0, 1) := by decide +kernel
theorem dX1_rename_1 : decode cX1_rename 1 = .ok (.istore_n 3, 1) := by decide +kernel
theorem dX1_rename_2 : decode cX1_rename 2 = .ok (.iload_n 3, 1) := by decide +kernel
theorem dX1_rename_3 : decode cX1_rename 3 = .ok (.iload_n 2, 1) := by decide +kernel
theorem dX1_rename_4 : decode cX1_rename 4 = .ok (.if_icmp .ge 57, 3) := by decide +kernel
theorem dX1_rename_7 : decode cX1_rename 7 = .ok (.iconst 0, 1) := by decide +kernel
theorem dX1_rename_8 : decode cX1_rename 8 = .ok (.istore 4, 2) := by decide +kernel
theorem dX1_rename_10 : decode cX1_rename 10 = .ok (.iconst 0, 1) := by decide +kernel
theorem dX1_rename_11 : decode cX1_rename 11 = .ok (.istore 5, 2) := by decide +kernel
theorem dX1_rename_13 : decode cX1_rename 13 = .ok (.iload 5, 2) := by decide +kernel
theorem dX1_rename_15 : decode cX1_rename 15 = .ok (.bipush 7, 2) := by decide +kernel
theorem dX1_rename_17 : decode cX1_rename 17 = .ok (.if_icmp .ge 30, 3) := by decide +kernel
theorem dX1_rename_20 : decode cX1_rename 20 = .ok (.iload 4, 2) := by decide +kernel
theorem dX1_rename_22 : decode cX1_rename 22 = .ok (.aload_n 1, 1) := by decide +kernel
theorem dX1_rename_23 : decode cX1_rename 23 = .ok (.iload_n 3, 1) := by decide +kernel
theorem dX1_rename_24 : decode cX1_rename 24 = .ok (.iaload, 1) := by decide +kernel
theorem dX1_rename_25 : decode cX1_rename 25 = .ok (.iload 5, 2) := by decide +kernel
theorem dX1_rename_27 : decode cX1_rename 27 = .ok (.ishr, 1) := by decide +kernel
theorem dX1_rename_28 : decode cX1_rename 28 = .ok (.iconst 1, 1) := by decide +kernel
theorem dX1_rename_29 : decode cX1_rename 29 = .ok (.iand, 1) := by decide +kernel
theorem dX1_rename_30 : decode cX1_rename 30 = .ok (.aload_n 0, 1) := by decide +kernel
theorem dX1_rename_31 : decode cX1_rename 31 = .ok (.getfield 28, 3) := by decide +kernel
theorem dX1_rename_34 : decode cX1_rename 34 = .ok (.iload 5, 2) := by decide +kernel
theorem dX1_rename_36 : decode cX1_rename 36 = .ok (.iaload, 1) := by decide +kernel
theorem dX1_rename_37 : decode cX1_rename 37 = .ok (.ishl, 1) := by decide +kernel
theorem dX1_rename_38 : decode cX1_rename 38 = .ok (.ior, 1) := by decide +kernel
theorem dX1_rename_39 : decode cX1_rename 39 = .ok (.istore 4, 2) := by decide +kernel
theorem dX1_rename_41 : decode cX1_rename 41 = .ok (.iinc 5 1, 3) := by decide +kernel
theorem dX1_rename_44 : decode cX1_rename 44 = .ok (.goto (-31), 3) := by decide +kernel
theorem dX1_rename_47 : decode cX1_rename 47 = .ok (.aload_n 0, 1) := by decide +kernel
theorem dX1_rename_48 : decode cX1_rename 48 = .ok (.getfield 25, 3) := by decide +kernel
theorem dX1_rename_51 : decode cX1_rename 51 = .ok (.iload_n 3, 1) := by decide +kernel
theorem dX1_rename_52 : decode cX1_rename 52 = .ok (.iload 4, 2) := by decide +kernel
theorem dX1_rename_54 : decode cX1_rename 54 = .ok (.iastore, 1) := by decide +kernel
theorem dX1_rename_55 : decode cX1_rename 55 = .ok (.iinc 3 1, 3) := by decide +kernel
theorem dX1_rename_58 : decode cX1_rename 58 = .ok (.goto (-56), 3) := by decide +kernel
theorem dX1_rename_61 : decode cX1_rename 61 = .ok (.aload_n 0, 1) := by decide +kernel
theorem dX1_rename_62 : decode cX1_rename 62 = .ok (.getfield 25, 3) := by decide +kernel
theorem dX1_rename_65 : decode cX1_rename 65 = .ok (.iload_n 2, 1) := by decide +kernel
theorem dX1_rename_66 : decode cX1_rename 66 = .ok (.invokestatic 61, 3) := by decide +kernel
theorem dX1_rename_69 : decode cX1_rename 69 = .ok (.return_, 1) := by decide +kernel
theorem dX1_orderOfRenaming_0 : decode cX1_orderOfRenaming 0 = .ok (.iconst 0, 1) := by decide +kernel
theorem dX1_orderOfRenaming_1 : decode cX1_orderOfRenaming 1 = .ok (.istore_n 2, 1) := by decide +kernel
theorem dX1_orderOfRenaming_2 : decode cX1_orderOfRenaming 2 = .ok (.iload_n 2, 1) := by decide +kernel
theorem dX1_orderOfRenaming_3 : decode cX1_orderOfRenaming 3 = .ok (.iload_n 1, 1) := by decide +kernel
theorem dX1_orderOfRenaming_4 : decode cX1_orderOfRenaming 4 = .ok (.if_icmp .ge 16, 3) := by decide +kernel
theorem dX1_orderOfRenaming_7 : decode cX1_orderOfRenaming 7 = .ok (.aload_n 0, 1) := by decide +kernel
theorem dX1_orderOfRenaming_8 : decode cX1_orderOfRenaming 8 = .ok (.getfield 31, 3) := by decide +kernel
theorem dX1_orderOfRenaming_11 : decode cX1_orderOfRenaming 11 = .ok (.iload_n 2, 1) := by decide +kernel
theorem dX1_orderOfRenaming_12 : decode cX1_orderOfRenaming 12 = .ok (.iload_n 2, 1) := by decide +kernel
theorem dX1_orderOfRenaming_13 : decode cX1_orderOfRenaming 13 = .ok (.iastore, 1) := by decide +kernel
theorem dX1_orderOfRenaming_14 : decode cX1_orderOfRenaming 14 = .ok (.iinc 2 1, 3) := by decide +kernel
theorem dX1_orderOfRenaming_17 : decode cX1_orderOfRenaming 17 = .ok (.goto (-15), 3) := by decide +kernel
theorem dX1_orderOfRenaming_20 : decode cX1_orderOfRenaming 20 = .ok (.iconst 1, 1) := by decide +kernel
theorem dX1_orderOfRenaming_21 : decode cX1_orderOfRenaming 21 = .ok (.istore_n 2, 1) := by decide +kernel
theorem dX1_orderOfRenaming_22 : decode cX1_orderOfRenaming 22 = .ok (.iload_n 2, 1) := by decide +kernel
theorem dX1_orderOfRenaming_23 : decode cX1_orderOfRenaming 23 = .ok (.bipush 12, 2) := by decide +kernel
theorem dX1_orderOfRenaming_25 : decode cX1_orderOfRenaming 25 = .ok (.if_icmp .ge 71, 3) := by decide +kernel
theorem dX1_orderOfRenaming_28 : decode cX1_orderOfRenaming 28 = .ok (.iconst 1, 1) := by decide +kernel
theorem dX1_orderOfRenaming_29 : decode cX1_orderOfRenaming 29 = .ok (.istore_n 3, 1) := by decide +kernel
theorem dX1_orderOfRenaming_30 : decode cX1_orderOfRenaming 30 = .ok (.iconst 0, 1) := by decide +kernel
theorem dX1_orderOfRenaming_31 : decode cX1_orderOfRenaming 31 = .ok (.istore 4, 2) := by decide +kernel
theorem dX1_orderOfRenaming_33 : decode cX1_orderOfRenaming 33 = .ok (.iload 4, 2) := by decide +kernel
theorem dX1_orderOfRenaming_35 : decode cX1_orderOfRenaming 35 = .ok (.iload_n 1, 1) := by decide +kernel
theorem dX1_orderOfRenaming_36 : decode cX1_orderOfRenaming 36 = .ok (.if_icmp .ge 48, 3) := by decide +kernel
theorem dX1_orderOfRenaming_39 : decode cX1_orderOfRenaming 39 = .ok (.aload_n 0, 1) := by decide +kernel
theorem dX1_orderOfRenaming_40 : decode cX1_orderOfRenaming 40 = .ok (.getfield 31, 3) := by decide +kernel
theorem dX1_orderOfRenaming_43 : decode cX1_orderOfRenaming 43 = .ok (.iload 4, 2) := by decide +kernel
theorem dX1_orderOfRenaming_45 : decode cX1_orderOfRenaming 45 = .ok (.aload_n 0, 1) := by decide +kernel
theorem dX1_orderOfRenaming_46 : decode cX1_orderOfRenaming 46 = .ok (.getfield 28, 3) := by decide +kernel
theorem dX1_orderOfRenaming_49 : decode cX1_orderOfRenaming 49 = .ok (.aload_n 0, 1) := by decide +kernel
theorem dX1_orderOfRenaming_50 : decode cX1_orderOfRenaming 50 = .ok (.getfield 31, 3) := by decide +kernel
theorem dX1_orderOfRenaming_53 : decode cX1_orderOfRenaming 53 = .ok (.iload 4, 2) := by decide +kernel
theorem dX1_orderOfRenaming_55 : decode cX1_orderOfRenaming 55 = .ok (.iaload, 1) := by decide +kernel
theorem dX1_orderOfRenaming_56 : decode cX1_orderOfRenaming 56 = .ok (.iaload, 1) := by decide +kernel
theorem dX1_orderOfRenaming_57 : decode cX1_orderOfRenaming 57 = .ok (.iastore, 1) := by decide +kernel
theorem dX1_orderOfRenaming_58 : decode cX1_orderOfRenaming 58 = .ok (.iload_n 3, 1) := by decide +kernel
theorem dX1_orderOfRenaming_59 : decode cX1_orderOfRenaming 59 = .ok (.aload_n 0, 1) := by decide +kernel
theorem dX1_orderOfRenaming_60 : decode cX1_orderOfRenaming 60 = .ok (.getfield 31, 3) := by decide +kernel
theorem dX1_orderOfRenaming_63 : decode cX1_orderOfRenaming 63 = .ok (.iload 4, 2) := by decide +kernel
theorem dX1_orderOfRenaming_65 : decode cX1_orderOfRenaming 65 = .ok (.iaload, 1) := by decide +kernel
theorem dX1_orderOfRenaming_66 : decode cX1_orderOfRenaming 66 = .ok (.iload 4, 2) := by decide +kernel
theorem dX1_orderOfRenaming_68 : decode cX1_orderOfRenaming 68 = .ok (.if_icmp .ne 7, 3) := by decide +kernel
theorem dX1_orderOfRenaming_71 : decode cX1_orderOfRenaming 71 = .ok (.iconst 1, 1) := by decide +kernel
theorem dX1_orderOfRenaming_72 : decode cX1_orderOfRenaming 72 = .ok (.goto 4, 3) := by decide +kernel
theorem dX1_orderOfRenaming_75 : decode cX1_orderOfRenaming 75 = .ok (.iconst 0, 1) := by decide +kernel
theorem dX1_orderOfRenaming_76 : decode cX1_orderOfRenaming 76 = .ok (.iand, 1) := by decide +kernel
theorem dX1_orderOfRenaming_77 : decode cX1_orderOfRenaming 77 = .ok (.istore_n 3, 1) := by decide +kernel
theorem dX1_orderOfRenaming_78 : decode cX1_orderOfRenaming 78 = .ok (.iinc 4 1, 3) := by decide +kernel
theorem dX1_orderOfRenaming_81 : decode cX1_orderOfRenaming 81 = .ok (.goto (-48), 3) := by decide +kernel
theorem dX1_orderOfRenaming_84 : decode cX1_orderOfRenaming 84 = .ok (.iload_n 3, 1) := by decide +kernel
theorem dX1_orderOfRenaming_85 : decode cX1_orderOfRenaming 85 = .ok (.ifCond .eq 5, 3) := by decide +kernel
theorem dX1_orderOfRenaming_88 : decode cX1_orderOfRenaming 88 = .ok (.iload_n 2, 1) := by decide +kernel
theorem dX1_orderOfRenaming_89 : decode cX1_orderOfRenaming 89 = .ok (.ireturn, 1) := by decide +kernel
theorem dX1_orderOfRenaming_90 : decode cX1_orderOfRenaming 90 = .ok (.iinc 2 1, 3) := by decide +kernel
theorem dX1_orderOfRenaming_93 : decode cX1_orderOfRenaming 93 = .ok (.goto (-71), 3) := by decide +kernel
theorem dX1_orderOfRenaming_96 : decode cX1_orderOfRenaming 96 = .ok (.bipush 12, 2) := by decide +kernel
theorem dX1_orderOfRenaming_98 : decode cX1_orderOfRenaming 98 = .ok (.ireturn, 1) := by decide +kernel
theorem dX1_factorial_0 : decode cX1_factorial 0 = .ok (.iconst 1, 1) := by decide +kernel
theorem dX1_factorial_1 : decode cX1_factorial 1 = .ok (.istore_n 1, 1) := by decide +kernel
theorem dX1_factorial_2 : decode cX1_factorial 2 = .ok (.iconst 2, 1) := by decide +kernel
theorem dX1_factorial_3 : decode cX1_factorial 3 = .ok (.istore_n 2, 1) := by decide +kernel
theorem dX1_factorial_4 : decode cX1_factorial 4 = .ok (.iload_n 2, 1) := by decide +kernel
theorem dX1_factorial_5 : decode cX1_factorial 5 = .ok (.iload_n 0, 1) := by decide +kernel
theorem dX1_factorial_6 : decode cX1_factorial 6 = .ok (.if_icmp .gt 13, 3) := by decide +kernel
theorem dX1_factorial_9 : decode cX1_factorial 9 = .ok (.iload_n 1, 1) := by decide +kernel
theorem dX1_factorial_10 : decode cX1_factorial 10 = .ok (.iload_n 2, 1) := by decide +kernel
theorem dX1_factorial_11 : decode cX1_factorial 11 = .ok (.imul, 1) := by decide +kernel
theorem dX1_factorial_12 : decode cX1_factorial 12 = .ok (.istore_n 1, 1) := by decide +kernel
theorem dX1_factorial_13 : decode cX1_factorial 13 = .ok (.iinc 2 1, 3) := by decide +kernel
theorem dX1_factorial_16 : decode cX1_factorial 16 = .ok (.goto (-12), 3) := by decide +kernel
theorem dX1_factorial_19 : decode cX1_factorial 19 = .ok (.iload_n 1, 1) := by decide +kernel
theorem dX1_factorial_20 : decode cX1_factorial 20 = .ok (.ireturn, 1) := by decide +kernel
theorem dX1_sort_0 : decode cX1_sort 0 = .ok (.iconst 1, 1) := by decide +kernel
theorem dX1_sort_1 : decode cX1_sort 1 = .ok (.istore_n 2, 1) := by decide +kernel
theorem dX1_sort_2 : decode cX1_sort 2 = .ok (.iload_n 2, 1) := by decide +kernel
theorem dX1_sort_3 : decode cX1_sort 3 = .ok (.iload_n 1, 1) := by decide +kernel
theorem dX1_sort_4 : decode cX1_sort 4 = .ok (.if_icmp .ge 52, 3) := by decide +kernel
theorem dX1_sort_7 : decode cX1_sort 7 = .ok (.iload_n 2, 1) := by decide +kernel
theorem dX1_sort_8 : decode cX1_sort 8 = .ok (.istore_n 3, 1) := by decide +kernel
theorem dX1_sort_9 : decode cX1_sort 9 = .ok (.iload_n 3, 1) := by decide +kernel
theorem dX1_sort_10 : decode cX1_sort 10 = .ok (.ifCond .le 40, 3) := by decide +kernel
theorem dX1_sort_13 : decode cX1_sort 13 = .ok (.aload_n 0, 1) := by decide +kernel
theorem dX1_sort_14 : decode cX1_sort 14 = .ok (.iload_n 3, 1) := by decide +kernel
theorem dX1_sort_15 : decode cX1_sort 15 = .ok (.iconst 1, 1) := by decide +kernel
theorem dX1_sort_16 : decode cX1_sort 16 = .ok (.isub, 1) := by decide +kernel
theorem dX1_sort_17 : decode cX1_sort 17 = .ok (.iaload, 1) := by decide +kernel
theorem dX1_sort_18 : decode cX1_sort 18 = .ok (.aload_n 0, 1) := by decide +kernel
theorem dX1_sort_19 : decode cX1_sort 19 = .ok (.iload_n 3, 1) := by decide +kernel
theorem dX1_sort_20 : decode cX1_sort 20 = .ok (.iaload, 1) := by decide +kernel
theorem dX1_sort_21 : decode cX1_sort 21 = .ok (.if_icmp .le 29, 3) := by decide +kernel
theorem dX1_sort_24 : decode cX1_sort 24 = .ok (.aload_n 0, 1) := by decide +kernel
theorem dX1_sort_25 : decode cX1_sort 25 = .ok (.iload_n 3, 1) := by decide +kernel
theorem dX1_sort_26 : decode cX1_sort 26 = .ok (.iaload, 1) := by decide +kernel
theorem dX1_sort_27 : decode cX1_sort 27 = .ok (.istore 4, 2) := by decide +kernel
theorem dX1_sort_29 : decode cX1_sort 29 = .ok (.aload_n 0, 1) := by decide +kernel
theorem dX1_sort_30 : decode cX1_sort 30 = .ok (.iload_n 3, 1) := by decide +kernel
theorem dX1_sort_31 : decode cX1_sort 31 = .ok (.aload_n 0, 1) := by decide +kernel
theorem dX1_sort_32 : decode cX1_sort 32 = .ok (.iload_n 3, 1) := by decide +kernel
theorem dX1_sort_33 : decode cX1_sort 33 = .ok (.iconst 1, 1) := by decide +kernel
theorem dX1_sort_34 : decode cX1_sort 34 = .ok (.isub, 1) := by decide +kernel
theorem dX1_sort_35 : decode cX1_sort 35 = .ok (.iaload, 1) := by decide +kernel
theorem dX1_sort_36 : decode cX1_sort 36 = .ok (.iastore, 1) := by decide +kernel
theorem dX1_sort_37 : decode cX1_sort 37 = .ok (.aload_n 0, 1) := by decide +kernel
theorem dX1_sort_38 : decode cX1_sort 38 = .ok (.iload_n 3, 1) := by decide +kernel
theorem dX1_sort_39 : decode cX1_sort 39 = .ok (.iconst 1, 1) := by decide +kernel
theorem dX1_sort_40 : decode cX1_sort 40 = .ok (.isub, 1) := by decide +kernel
theorem dX1_sort_41 : decode cX1_sort 41 = .ok (.iload 4, 2) := by decide +kernel
theorem dX1_sort_43 : decode cX1_sort 43 = .ok (.iastore, 1) := by decide +kernel
theorem dX1_sort_44 : decode cX1_sort 44 = .ok (.iinc 3 (-1), 3) := by decide +kernel
theorem dX1_sort_47 : decode cX1_sort 47 = .ok (.goto (-38), 3) := by decide +kernel
theorem dX1_sort_50 : decode cX1_sort 50 = .ok (.iinc 2 1, 3) := by decide +kernel
theorem dX1_sort_53 : decode cX1_sort 53 = .ok (.goto (-51), 3) := by decide +kernel
theorem dX1_sort_56 : decode cX1_sort 56 = .ok (.return_, 1) := by decide +kernel
set_option maxRecDepth 20000 in
theorem ggX1_compareRows_J6_compare_7cf53 : GoodIn wsX1_compareRows wsJ6_compare_7cf53 := goodIn_r _ [4] (by decide +kernel) (by decide +kernel)
set_option maxRecDepth 20000 in
theorem gX1_compareRows_J6_compare_7cf53 : GoodIn wsX1_compareRows (va_wsS RX1 108 yJ6_compare_7cf53 wsJ6_compare_7cf53) := goodIn_app (goodIn_of _ (by decide +kernel)) ggX1_compareRows_J6_compare_7cf53
theorem dX1_compareRows_0 : decode cX1_compareRows 0 = .ok (.iconst 0, 1) := by decide +kernel
theorem dX1_compareRows_1 : decode cX1_compareRows 1 = .ok (.istore_n 3, 1) := by decide +kernel
theorem dX1_compareRows_2 : decode cX1_compareRows 2 = .ok (.iload_n 3, 1) := by decide +kernel
theorem dX1_compareRows_3 : decode cX1_compareRows 3 = .ok (.iload_n 2, 1) := by decide +kernel
theorem dX1_compareRows_4 : decode cX1_compareRows 4 = .ok (.if_icmp .ge 28, 3) := by decide +kernel
theorem dX1_compareRows_7 : decode cX1_compareRows 7 = .ok (.aload_n 0, 1) := by decide +kernel
theorem dX1_compareRows_8 : decode cX1_compareRows 8 = .ok (.iload_n 3, 1) := by decide +kernel
theorem dX1_compareRows_9 : decode cX1_compareRows 9 = .ok (.iaload, 1) := by decide +kernel
theorem dX1_compareRows_10 : decode cX1_compareRows 10 = .ok (.aload_n 1, 1) := by decide +kernel
theorem dX1_compareRows_11 : decode cX1_compareRows 11 = .ok (.iload_n 3, 1) := by decide +kernel
theorem dX1_compareRows_12 : decode cX1_compareRows 12 = .ok (.iaload, 1) := by decide +kernel
theorem dX1_compareRows_13 : decode cX1_compareRows 13 = .ok (.if_icmp .eq 13, 3) := by decide +kernel
theorem dX1_compareRows_16 : decode cX1_compareRows 16 = .ok (.aload_n 0, 1) := by decide +kernel
theorem dX1_compareRows_17 : decode cX1_compareRows 17 = .ok (.iload_n 3, 1) := by decide +kernel
theorem dX1_compareRows_18 : decode cX1_compareRows 18 = .ok (.iaload, 1) := by decide +kernel
theorem dX1_compareRows_19 : decode cX1_compareRows 19 = .ok (.aload_n 1, 1) := by decide +kernel
theorem dX1_compareRows_20 : decode cX1_compareRows 20 = .ok (.iload_n 3, 1) := by decide +kernel
theorem dX1_compareRows_21 : decode cX1_compareRows 21 = .ok (.iaload, 1) := by decide +kernel
theorem dX1_compareRows_22 : decode cX1_compareRows 22 = .ok (.invokestatic 108, 3) := by decide +kernel
theorem dX1_compareRows_25 : decode cX1_compareRows 25 = .ok (.ireturn, 1) := by decide +kernel
theorem dX1_compareRows_26 : decode cX1_compareRows 26 = .ok (.iinc 3 1, 3) := by decide +kernel
theorem dX1_compareRows_29 : decode cX1_compareRows 29 = .ok (.goto (-27), 3) := by decide +kernel
theorem dX1_compareRows_32 : decode cX1_compareRows 32 = .ok (.iconst 0, 1) := by decide +kernel
theorem dX1_compareRows_33 : decode cX1_compareRows 33 = .ok (.ireturn, 1) := by decide +kernel
theorem dX2_init_0 : decode cX2_init 0 = .ok (.aload_n 0, 1) := by decide +kernel
theorem dX2_init_1 : decode cX2_init 1 = .ok (.invokespecial 3, 3) := by decide +kernel
theorem dX2_init_4 : decode cX2_init 4 = .ok (.aload_n 0, 1) := by decide +kernel
theorem dX2_init_5 : decode cX2_init 5 = .ok (.iconst 0, 1) := by decide +kernel
theorem dX2_init_6 : decode cX2_init 6 = .ok (.putfield 9, 3) := by decide +kernel
theorem dX2_init_9 : decode cX2_init 9 = .ok (.aload_n 0, 1) := by decide +kernel
theorem dX2_init_10 : decode cX2_init 10 = .ok (.iconst 0, 1) := by decide +kernel
theorem dX2_init_11 : decode cX2_init 11 = .ok (.putfield 15, 3) := by decide +kernel
theorem dX2_init_14 : decode cX2_init 14 = .ok (.aload_n 0, 1) := by decide +kernel
theorem dX2_init_15 : decode cX2_init 15 = .ok (.iconst 3, 1) := by decide +kernel
theorem dX2_init_16 : decode cX2_init 16 = .ok (.sipush 183, 3) := by decide +kernel
theorem dX2_init_19 : decode cX2_init 19 = .ok (.multianewarray 18 2, 4) := by decide +kernel
theorem dX2_init_23 : decode cX2_init 23 = .ok (.putfield 20, 3) := by decide +kernel
theorem dX2_init_26 : decode cX2_init 26 = .ok (.return_, 1) := by decide +kernel
set_option maxRecDepth 20000 in
theorem ggX2_choose_X2_add : GoodIn wsX2_choose wsX2_add := goodIn_r _ [7, 2, 8, 9, 10, 11] (by decide +kernel) (by decide +kernel)
set_option maxRecDepth 20000 in
theorem gX2_choose_X2_add : GoodIn wsX2_choose (wsV RX2 23 RX2 yX2_add wsX2_add) := goodIn_app (goodIn_of _ (by decide +kernel)) ggX2_choose_X2_add
theorem dX2_choose_0 : decode cX2_choose 0 = .ok (.aload_n 0, 1) := by decide +kernel
theorem dX2_choose_1 : decode cX2_choose 1 = .ok (.iload_n 1, 1) := by decide +kernel
theorem dX2_choose_2 : decode cX2_choose 2 = .ok (.putfield 9, 3) := by decide +kernel
theorem dX2_choose_5 : decode cX2_choose 5 = .ok (.aload_n 0, 1) := by decide +kernel
theorem dX2_choose_6 : decode cX2_choose 6 = .ok (.iconst 0, 1) := by decide +kernel
theorem dX2_choose_7 : decode cX2_choose 7 = .ok (.putfield 15, 3) := by decide +kernel
theorem dX2_choose_10 : decode cX2_choose 10 = .ok (.aload_n 0, 1) := by decide +kernel
theorem dX2_choose_11 : decode cX2_choose 11 = .ok (.getfield 9, 3) := by decide +kernel
theorem dX2_choose_14 : decode cX2_choose 14 = .ok (.ifCond .eq 33, 3) := by decide +kernel
theorem dX2_choose_17 : decode cX2_choose 17 = .ok (.aload_n 0, 1) := by decide +kernel
theorem dX2_choose_18 : decode cX2_choose 18 = .ok (.iconst 0, 1) := by decide +kernel
theorem dX2_choose_19 : decode cX2_choose 19 = .ok (.iconst 0, 1) := by decide +kernel
theorem dX2_choose_20 : decode cX2_choose 20 = .ok (.iconst 1, 1) := by decide +kernel
theorem dX2_choose_21 : decode cX2_choose 21 = .ok (.invokevirtual 23, 3) := by decide +kernel
theorem dX2_choose_24 : decode cX2_choose 24 = .ok (.iconst 0, 1) := by decide +kernel
theorem dX2_choose_25 : decode cX2_choose 25 = .ok (.istore_n 2, 1) := by decide +kernel
theorem dX2_choose_26 : decode cX2_choose 26 = .ok (.iload_n 2, 1) := by decide +kernel
theorem dX2_choose_27 : decode cX2_choose 27 = .ok (.aload_n 0, 1) := by decide +kernel
theorem dX2_choose_28 : decode cX2_choose 28 = .ok (.getfield 9, 3) := by decide +kernel
theorem dX2_choose_31 : decode cX2_choose 31 = .ok (.if_icmp .ge 16, 3) := by decide +kernel
theorem dX2_choose_34 : decode cX2_choose 34 = .ok (.aload_n 0, 1) := by decide +kernel
theorem dX2_choose_35 : decode cX2_choose 35 = .ok (.iconst 0, 1) := by decide +kernel
theorem dX2_choose_36 : decode cX2_choose 36 = .ok (.iconst 1, 1) := by decide +kernel
theorem dX2_choose_37 : decode cX2_choose 37 = .ok (.iload_n 2, 1) := by decide +kernel
theorem dX2_choose_38 : decode cX2_choose 38 = .ok (.invokevirtual 23, 3) := by decide +kernel
theorem dX2_choose_41 : decode cX2_choose 41 = .ok (.iinc 2 1, 3) := by decide +kernel
theorem dX2_choose_44 : decode cX2_choose 44 = .ok (.goto (-18), 3) := by decide +kernel
theorem dX2_choose_47 : decode cX2_choose 47 = .ok (.aload_n 0, 1) := by decide +kernel
theorem dX2_choose_48 : decode cX2_choose 48 = .ok (.getfield 9, 3) := by decide +kernel
theorem dX2_choose_51 : decode cX2_choose 51 = .ok (.ifCond .ne 7, 3) := by decide +kernel
theorem dX2_choose_54 : decode cX2_choose 54 = .ok (.iconst 5, 1) := by decide +kernel
theorem dX2_choose_55 : decode cX2_choose 55 = .ok (.goto 7, 3) := by decide +kernel
theorem dX2_choose_58 : decode cX2_choose 58 = .ok (.aload_n 0, 1) := by decide +kernel
theorem dX2_choose_59 : decode cX2_choose 59 = .ok (.getfield 9, 3) := by decide +kernel
theorem dX2_choose_62 : decode cX2_choose 62 = .ok (.istore_n 2, 1) := by decide +kernel
theorem dX2_choose_63 : decode cX2_choose 63 = .ok (.iconst 0, 1) := by decide +kernel
theorem dX2_choose_64 : decode cX2_choose 64 = .ok (.istore_n 3, 1) := by decide +kernel
theorem dX2_choose_65 : decode cX2_choose 65 = .ok (.iload_n 3, 1) := by decide +kernel
theorem dX2_choose_66 : decode cX2_choose 66 = .ok (.iload_n 2, 1) := by decide +kernel
theorem dX2_choose_67 : decode cX2_choose 67 = .ok (.if_icmp .ge 32, 3) := by decide +kernel
theorem dX2_choose_70 : decode cX2_choose 70 = .ok (.iconst 0, 1) := by decide +kernel
theorem dX2_choose_71 : decode cX2_choose 71 = .ok (.istore 4, 2) := by decide +kernel
theorem dX2_choose_73 : decode cX2_choose 73 = .ok (.iload 4, 2) := by decide +kernel
theorem dX2_choose_75 : decode cX2_choose 75 = .ok (.iload_n 2, 1) := by decide +kernel
theorem dX2_choose_76 : decode cX2_choose 76 = .ok (.if_icmp .ge 17, 3) := by decide +kernel
theorem dX2_choose_79 : decode cX2_choose 79 = .ok (.aload_n 0, 1) := by decide +kernel
theorem dX2_choose_80 : decode cX2_choose 80 = .ok (.iconst 1, 1) := by decide +kernel
theorem dX2_choose_81 : decode cX2_choose 81 = .ok (.iload_n 3, 1) := by decide +kernel
theorem dX2_choose_82 : decode cX2_choose 82 = .ok (.iload 4, 2) := by decide +kernel
theorem dX2_choose_84 : decode cX2_choose 84 = .ok (.invokevirtual 23, 3) := by decide +kernel
theorem dX2_choose_87 : decode cX2_choose 87 = .ok (.iinc 4 1, 3) := by decide +kernel
theorem dX2_choose_90 : decode cX2_choose 90 = .ok (.goto (-17), 3) := by decide +kernel
theorem dX2_choose_93 : decode cX2_choose 93 = .ok (.iinc 3 1, 3) := by decide +kernel
theorem dX2_choose_96 : decode cX2_choose 96 = .ok (.goto (-31), 3) := by decide +kernel
theorem dX2_choose_99 : decode cX2_choose 99 = .ok (.return_, 1) := by decide +kernel
theorem dX2_add_0 : decode cX2_add 0 = .ok (.aload_n 0, 1) := by decide +kernel
theorem dX2_add_1 : decode cX2_add 1 = .ok (.getfield 15, 3) := by decide +kernel
theorem dX2_add_4 : decode cX2_add 4 = .ok (.sipush 183, 3) := by decide +kernel
theorem dX2_add_7 : decode cX2_add 7 = .ok (.if_icmp .ge 49, 3) := by decide +kernel
theorem dX2_add_10 : decode cX2_add 10 = .ok (.aload_n 0, 1) := by decide +kernel
theorem dX2_add_11 : decode cX2_add 11 = .ok (.getfield 20, 3) := by decide +kernel
theorem dX2_add_14 : decode cX2_add 14 = .ok (.iconst 0, 1) := by decide +kernel
theorem dX2_add_15 : decode cX2_add 15 = .ok (.aaload, 1) := by decide +kernel
theorem dX2_add_16 : decode cX2_add 16 = .ok (.aload_n 0, 1) := by decide +kernel
theorem dX2_add_17 : decode cX2_add 17 = .ok (.getfield 15, 3) := by decide +kernel
theorem dX2_add_20 : decode cX2_add 20 = .ok (.iload_n 1, 1) := by decide +kernel
theorem dX2_add_21 : decode cX2_add 21 = .ok (.iastore, 1) := by decide +kernel
theorem dX2_add_22 : decode cX2_add 22 = .ok (.aload_n 0, 1) := by decide +kernel
theorem dX2_add_23 : decode cX2_add 23 = .ok (.getfield 20, 3) := by decide +kernel
theorem dX2_add_26 : decode cX2_add 26 = .ok (.iconst 1, 1) := by decide +kernel
theorem dX2_add_27 : decode cX2_add 27 = .ok (.aaload, 1) := by decide +kernel
theorem dX2_add_28 : decode cX2_add 28 = .ok (.aload_n 0, 1) := by decide +kernel
theorem dX2_add_29 : decode cX2_add 29 = .ok (.getfield 15, 3) := by decide +kernel
theorem dX2_add_32 : decode cX2_add 32 = .ok (.iload_n 2, 1) := by decide +kernel
theorem dX2_add_33 : decode cX2_add 33 = .ok (.iastore, 1) := by decide +kernel
theorem dX2_add_34 : decode cX2_add 34 = .ok (.aload_n 0, 1) := by decide +kernel
theorem dX2_add_35 : decode cX2_add 35 = .ok (.getfield 20, 3) := by decide +kernel
theorem dX2_add_38 : decode cX2_add 38 = .ok (.iconst 2, 1) := by decide +kernel
theorem dX2_add_39 : decode cX2_add 39 = .ok (.aaload, 1) := by decide +kernel
theorem dX2_add_40 : decode cX2_add 40 = .ok (.aload_n 0, 1) := by decide +kernel
theorem dX2_add_41 : decode cX2_add 41 = .ok (.getfield 15, 3) := by decide +kernel
theorem dX2_add_44 : decode cX2_add 44 = .ok (.iload_n 3, 1) := by decide +kernel
theorem dX2_add_45 : decode cX2_add 45 = .ok (.iastore, 1) := by decide +kernel
theorem dX2_add_46 : decode cX2_add 46 = .ok (.aload_n 0, 1) := by decide +kernel
theorem dX2_add_47 : decode cX2_add 47 = .ok (.dup, 1) := by decide +kernel
theorem dX2_add_48 : decode cX2_add 48 = .ok (.getfield 15, 3) := by decide +kernel
theorem dX2_add_51 : decode cX2_add 51 = .ok (.iconst 1, 1) := by decide +kernel
theorem dX2_add_52 : decode cX2_add 52 = .ok (.iadd, 1) := by decide +kernel
theorem dX2_add_53 : decode cX2_add 53 = .ok (.putfield 15, 3) := by decide +kernel
theorem dX2_add_56 : decode cX2_add 56 = .ok (.return_, 1) := by decide +kernel
set_option maxRecDepth 20000 in
theorem ggX2_rest_J9_floorMod_7cf53 : GoodIn wsX2_rest wsJ9_floorMod_7cf53 := goodIn_r _ [5] (by decide +kernel) (by decide +kernel)
set_option maxRecDepth 20000 in
theorem gX2_rest_J9_floorMod_7cf53 : GoodIn wsX2_rest (va_wsS RX2 27 yJ9_floorMod_7cf53 wsJ9_floorMod_7cf53) := goodIn_app (goodIn_of _ (by decide +kernel)) ggX2_rest_J9_floorMod_7cf53
theorem dX2_rest_0 : decode cX2_rest 0 = .ok (.aload_n 0, 1) := by decide +kernel
theorem dX2_rest_1 : decode cX2_rest 1 = .ok (.getfield 9, 3) := by decide +kernel
theorem dX2_rest_4 : decode cX2_rest 4 = .ok (.ifCond .ne 7, 3) := by decide +kernel
theorem dX2_rest_7 : decode cX2_rest 7 = .ok (.iload_n 1, 1) := by decide +kernel
theorem dX2_rest_8 : decode cX2_rest 8 = .ok (.goto 11, 3) := by decide +kernel
theorem dX2_rest_11 : decode cX2_rest 11 = .ok (.iload_n 1, 1) := by decide +kernel
theorem dX2_rest_12 : decode cX2_rest 12 = .ok (.aload_n 0, 1) := by decide +kernel
theorem dX2_rest_13 : decode cX2_rest 13 = .ok (.getfield 9, 3) := by decide +kernel
theorem dX2_rest_16 : decode cX2_rest 16 = .ok (.invokestatic 27, 3) := by decide +kernel
theorem dX2_rest_19 : decode cX2_rest 19 = .ok (.ireturn, 1) := by decide +kernel
set_option maxRecDepth 20000 in
theorem ggX2_placeAt_X2_quotient : GoodIn wsX2_placeAt wsX2_quotient := goodIn_r _ [5, 6, 7, 8, 9] (by decide +kernel) (by decide +kernel)
set_option maxRecDepth 20000 in
theorem gX2_placeAt_X2_quotient : GoodIn wsX2_placeAt (va_wsS RX2 33 yX2_quotient wsX2_quotient) := goodIn_app (goodIn_of _ (by decide +kernel)) ggX2_placeAt_X2_quotient
theorem dX2_placeAt_0 : decode cX2_placeAt 0 = .ok (.aload_n 1, 1) := by decide +kernel
theorem dX2_placeAt_1 : decode cX2_placeAt 1 = .ok (.iconst 0, 1) := by decide +kernel
theorem dX2_placeAt_2 : decode cX2_placeAt 2 = .ok (.iaload, 1) := by decide +kernel
theorem dX2_placeAt_3 : decode cX2_placeAt 3 = .ok (.ifCond .eq 43, 3) := by decide +kernel
theorem dX2_placeAt_6 : decode cX2_placeAt 6 = .ok (.aload_n 0, 1) := by decide +kernel
theorem dX2_placeAt_7 : decode cX2_placeAt 7 = .ok (.getfield 9, 3) := by decide +kernel
theorem dX2_placeAt_10 : decode cX2_placeAt 10 = .ok (.iconst 1, 1) := by decide +kernel
theorem dX2_placeAt_11 : decode cX2_placeAt 11 = .ok (.iadd, 1) := by decide +kernel
theorem dX2_placeAt_12 : decode cX2_placeAt 12 = .ok (.aload_n 0, 1) := by decide +kernel
theorem dX2_placeAt_13 : decode cX2_placeAt 13 = .ok (.getfield 9, 3) := by decide +kernel
theorem dX2_placeAt_16 : decode cX2_placeAt 16 = .ok (.aload_n 1, 1) := by decide +kernel
theorem dX2_placeAt_17 : decode cX2_placeAt 17 = .ok (.iconst 1, 1) := by decide +kernel
theorem dX2_placeAt_18 : decode cX2_placeAt 18 = .ok (.iaload, 1) := by decide +kernel
theorem dX2_placeAt_19 : decode cX2_placeAt 19 = .ok (.aload_n 1, 1) := by decide +kernel
theorem dX2_placeAt_20 : decode cX2_placeAt 20 = .ok (.iconst 0, 1) := by decide +kernel
theorem dX2_placeAt_21 : decode cX2_placeAt 21 = .ok (.iaload, 1) := by decide +kernel
theorem dX2_placeAt_22 : decode cX2_placeAt 22 = .ok (.invokestatic 33, 3) := by decide +kernel
theorem dX2_placeAt_25 : decode cX2_placeAt 25 = .ok (.aload_n 0, 1) := by decide +kernel
theorem dX2_placeAt_26 : decode cX2_placeAt 26 = .ok (.getfield 9, 3) := by decide +kernel
theorem dX2_placeAt_29 : decode cX2_placeAt 29 = .ok (.imul, 1) := by decide +kernel
theorem dX2_placeAt_30 : decode cX2_placeAt 30 = .ok (.iadd, 1) := by decide +kernel
theorem dX2_placeAt_31 : decode cX2_placeAt 31 = .ok (.aload_n 0, 1) := by decide +kernel
theorem dX2_placeAt_32 : decode cX2_placeAt 32 = .ok (.getfield 9, 3) := by decide +kernel
theorem dX2_placeAt_35 : decode cX2_placeAt 35 = .ok (.aload_n 1, 1) := by decide +kernel
theorem dX2_placeAt_36 : decode cX2_placeAt 36 = .ok (.iconst 2, 1) := by decide +kernel
theorem dX2_placeAt_37 : decode cX2_placeAt 37 = .ok (.iaload, 1) := by decide +kernel
theorem dX2_placeAt_38 : decode cX2_placeAt 38 = .ok (.aload_n 1, 1) := by decide +kernel
theorem dX2_placeAt_39 : decode cX2_placeAt 39 = .ok (.iconst 0, 1) := by decide +kernel
theorem dX2_placeAt_40 : decode cX2_placeAt 40 = .ok (.iaload, 1) := by decide +kernel
theorem dX2_placeAt_41 : decode cX2_placeAt 41 = .ok (.invokestatic 33, 3) := by decide +kernel
theorem dX2_placeAt_44 : decode cX2_placeAt 44 = .ok (.iadd, 1) := by decide +kernel
theorem dX2_placeAt_45 : decode cX2_placeAt 45 = .ok (.ireturn, 1) := by decide +kernel
theorem dX2_placeAt_46 : decode cX2_placeAt 46 = .ok (.aload_n 1, 1) := by decide +kernel
theorem dX2_placeAt_47 : decode cX2_placeAt 47 = .ok (.iconst 1, 1) := by decide +kernel
theorem dX2_placeAt_48 : decode cX2_placeAt 48 = .ok (.iaload, 1) := by decide +kernel
theorem dX2_placeAt_49 : decode cX2_placeAt 49 = .ok (.ifCond .eq 19, 3) := by decide +kernel
theorem dX2_placeAt_52 : decode cX2_placeAt 52 = .ok (.iconst 1, 1) := by decide +kernel
theorem dX2_placeAt_53 : decode cX2_placeAt 53 = .ok (.aload_n 0, 1) := by decide +kernel
theorem dX2_placeAt_54 : decode cX2_placeAt 54 = .ok (.getfield 9, 3) := by decide +kernel
theorem dX2_placeAt_57 : decode cX2_placeAt 57 = .ok (.aload_n 1, 1) := by decide +kernel
theorem dX2_placeAt_58 : decode cX2_placeAt 58 = .ok (.iconst 2, 1) := by decide +kernel
theorem dX2_placeAt_59 : decode cX2_placeAt 59 = .ok (.iaload, 1) := by decide +kernel
theorem dX2_placeAt_60 : decode cX2_placeAt 60 = .ok (.aload_n 1, 1) := by decide +kernel
theorem dX2_placeAt_61 : decode cX2_placeAt 61 = .ok (.iconst 1, 1) := by decide +kernel
theorem dX2_placeAt_62 : decode cX2_placeAt 62 = .ok (.iaload, 1) := by decide +kernel
theorem dX2_placeAt_63 : decode cX2_placeAt 63 = .ok (.invokestatic 33, 3) := by decide +kernel
theorem dX2_placeAt_66 : decode cX2_placeAt 66 = .ok (.iadd, 1) := by decide +kernel
theorem dX2_placeAt_67 : decode cX2_placeAt 67 = .ok (.ireturn, 1) := by decide +kernel
theorem dX2_placeAt_68 : decode cX2_placeAt 68 = .ok (.aload_n 1, 1) := by decide +kernel
theorem dX2_placeAt_69 : decode cX2_placeAt 69 = .ok (.iconst 2, 1) := by decide +kernel
theorem dX2_placeAt_70 : decode cX2_placeAt 70 = .ok (.iaload, 1) := by decide +kernel
theorem dX2_placeAt_71 : decode cX2_placeAt 71 = .ok (.ifCond .eq 7, 3) := by decide +kernel
theorem dX2_placeAt_74 : decode cX2_placeAt 74 = .ok (.iconst 0, 1) := by decide +kernel
theorem dX2_placeAt_75 : decode cX2_placeAt 75 = .ok (.goto 5, 3) := by decide +kernel
theorem dX2_placeAt_78 : decode cX2_placeAt 78 = .ok (.bipush (-4), 2) := by decide +kernel
theorem dX2_placeAt_80 : decode cX2_placeAt 80 = .ok (.ireturn, 1) := by decide +kernel
set_option maxRecDepth 20000 in
theorem ggX2_quotient_J9_floorMod_7cf53 : GoodIn wsX2_quotient wsJ9_floorMod_7cf53 := goodIn_r _ [4] (by decide +kernel) (by decide +kernel)
set_option maxRecDepth 20000 in
theorem gX2_quotient_J9_floorMod_7cf53 : GoodIn wsX2_quotient (va_wsS RX2 27 yJ9_floorMod_7cf53 wsJ9_floorMod_7cf53) := goodIn_app (goodIn_of _ (by decide +kernel)) ggX2_quotient_J9_floorMod_7cf53
theorem dX2_quotient_0 : decode cX2_quotient 0 = .ok (.iload_n 0, 1) := by decide +kernel
theorem dX2_quotient_1 : decode cX2_quotient 1 = .ok (.ifCond .gt 6, 3) := by decide +kernel
theorem dX2_quotient_4 : decode cX2_quotient 4 = .ok (.bipush (-4), 2) := by decide +kernel
theorem dX2_quotient_6 : decode cX2_quotient 6 = .ok (.ireturn, 1) := by decide +kernel
theorem dX2_quotient_7 : decode cX2_quotient 7 = .ok (.iload_n 1, 1) := by decide +kernel
theorem dX2_quotient_8 : decode cX2_quotient 8 = .ok (.iload_n 0, 1) := by decide +kernel
theorem dX2_quotient_9 : decode cX2_quotient 9 = .ok (.invokestatic 27, 3) := by decide +kernel
theorem dX2_quotient_12 : decode cX2_quotient 12 = .ok (.istore_n 3, 1) := by decide +kernel
theorem dX2_quotient_13 : decode cX2_quotient 13 = .ok (.iload_n 2, 1) := by decide +kernel
theorem dX2_quotient_14 : decode cX2_quotient 14 = .ok (.iload_n 0, 1) := by decide +kernel
theorem dX2_quotient_15 : decode cX2_quotient 15 = .ok (.invokestatic 27, 3) := by decide +kernel
theorem dX2_quotient_18 : decode cX2_quotient 18 = .ok (.istore 4, 2) := by decide +kernel
theorem dX2_quotient_20 : decode cX2_quotient 20 = .ok (.iconst 0, 1) := by decide +kernel
theorem dX2_quotient_21 : decode cX2_quotient 21 = .ok (.istore 5, 2) := by decide +kernel
theorem dX2_quotient_23 : decode cX2_quotient 23 = .ok (.iload 5, 2) := by decide +kernel
theorem dX2_quotient_25 : decode cX2_quotient 25 = .ok (.iload_n 0, 1) := by decide +kernel
theorem dX2_quotient_26 : decode cX2_quotient 26 = .ok (.if_icmp .ge 28, 3) := by decide +kernel
theorem dX2_quotient_29 : decode cX2_quotient 29 = .ok (.iload 4, 2) := by decide +kernel
theorem dX2_quotient_31 : decode cX2_quotient 31 = .ok (.ifCond .eq 23, 3) := by decide +kernel
theorem dX2_quotient_34 : decode cX2_quotient 34 = .ok (.iload 5, 2) := by decide +kernel
theorem dX2_quotient_36 : decode cX2_quotient 36 = .ok (.iload 4, 2) := by decide +kernel
theorem dX2_quotient_38 : decode cX2_quotient 38 = .ok (.imul, 1) := by decide +kernel
theorem dX2_quotient_39 : decode cX2_quotient 39 = .ok (.iload_n 0, 1) := by decide +kernel
theorem dX2_quotient_40 : decode cX2_quotient 40 = .ok (.irem, 1) := by decide +kernel
theorem dX2_quotient_41 : decode cX2_quotient 41 = .ok (.iload_n 3, 1) := by decide +kernel
theorem dX2_quotient_42 : decode cX2_quotient 42 = .ok (.if_icmp .ne 6, 3) := by decide +kernel
theorem dX2_quotient_45 : decode cX2_quotient 45 = .ok (.iload 5, 2) := by decide +kernel
theorem dX2_quotient_47 : decode cX2_quotient 47 = .ok (.ireturn, 1) := by decide +kernel
theorem dX2_quotient_48 : decode cX2_quotient 48 = .ok (.iinc 5 1, 3) := by decide +kernel
theorem dX2_quotient_51 : decode cX2_quotient 51 = .ok (.goto (-28), 3) := by decide +kernel
theorem dX2_quotient_54 : decode cX2_quotient 54 = .ok (.bipush (-4), 2) := by decide +kernel
theorem dX2_quotient_56 : decode cX2_quotient 56 = .ok (.ireturn, 1) := by decide +kernel
set_option maxRecDepth 20000 in
theorem ggX3_init_X2_init : GoodIn wsX3_init wsX2_init := goodIn_r _ [24, 25, 2, 3, 26, 27, 28, 10, 29, 30, 31, 32] (by decide +kernel) (by decide +kernel)
set_option maxRecDepth 20000 in
theorem gX3_init_X2_init_n11 : GoodIn wsX3_init (wsX2_init) := ggX3_init_X2_init
theorem dX3_init_0 : decode cX3_init 0 = .ok (.aload_n 0, 1) := by decide +kernel
theorem dX3_init_1 : decode cX3_init 1 = .ok (.invokespecial 3, 3) := by decide +kernel
theorem dX3_init_4 : decode cX3_init 4 = .ok (.aload_n 0, 1) := by decide +kernel
theorem dX3_init_5 : decode cX3_init 5 = .ok (.new 9, 3) := by decide +kernel
theorem dX3_init_8 : decode cX3_init 8 = .ok (.dup, 1) := by decide +kernel
theorem dX3_init_9 : decode cX3_init 9 = .ok (.invokespecial 11, 3) := by decide +kernel
theorem dX3_init_12 : decode cX3_init 12 = .ok (.putfield 12, 3) := by decide +kernel
theorem dX3_init_15 : decode cX3_init 15 = .ok (.aload_n 0, 1) := by decide +kernel
theorem dX3_init_16 : decode cX3_init 16 = .ok (.iconst 0, 1) := by decide +kernel
theorem dX3_init_17 : decode cX3_init 17 = .ok (.putfield 18, 3) := by decide +kernel
theorem dX3_init_20 : decode cX3_init 20 = .ok (.aload_n 0, 1) := by decide +kernel
theorem dX3_init_21 : decode cX3_init 21 = .ok (.iconst 0, 1) := by decide +kernel
theorem dX3_init_22 : decode cX3_init 22 = .ok (.putfield 22, 3) := by decide +kernel
theorem dX3_init_25 : decode cX3_init 25 = .ok (.aload_n 0, 1) := by decide +kernel
theorem dX3_init_26 : decode cX3_init 26 = .ok (.bipush 10, 2) := by decide +kernel
theorem dX3_init_28 : decode cX3_init 28 = .ok (.newarray .int, 2) := by decide +kernel
theorem dX3_init_30 : decode cX3_init 30 = .ok (.putfield 26, 3) := by decide +kernel
theorem dX3_init_33 : decode cX3_init 33 = .ok (.aload_n 0, 1) := by decide +kernel
theorem dX3_init_34 : decode cX3_init 34 = .ok (.bipush 11, 2) := by decide +kernel
theorem dX3_init_36 : decode cX3_init 36 = .ok (.newarray .int, 2) := by decide +kernel
theorem dX3_init_38 : decode cX3_init 38 = .ok (.putfield 30, 3) := by decide +kernel
theorem dX3_init_41 : decode cX3_init 41 = .ok (.aload_n 0, 1) := by decide +kernel
theorem dX3_init_42 : decode cX3_init 42 = .ok (.bipush 120, 2) := by decide +kernel
theorem dX3_init_44 : decode cX3_init 44 = .ok (.newarray .int, 2) := by decide +kernel
theorem dX3_init_46 : decode cX3_init 46 = .ok (.putfield 33, 3) := by decide +kernel
theorem dX3_init_49 : decode cX3_init 49 = .ok (.aload_n 0, 1) := by decide +kernel
theorem dX3_init_50 : decode cX3_init 50 = .ok (.bipush 120, 2) := by decide +kernel
theorem dX3_init_52 : decode cX3_init 52 = .ok (.newarray .int, 2) := by decide +kernel
theorem dX3_init_54 : decode cX3_init 54 = .ok (.putfield 36, 3) := by decide +kernel
theorem dX3_init_57 : decode cX3_init 57 = .ok (.aload_n 0, 1) := by decide +kernel
theorem dX3_init_58 : decode cX3_init 58 = .ok (.bipush 120, 2) := by decide +kernel
theorem dX3_init_60 : decode cX3_init 60 = .ok (.newarray .int, 2) := by decide +kernel
theorem dX3_init_62 : decode cX3_init 62 = .ok (.putfield 39, 3) := by decide +kernel
theorem dX3_init_65 : decode cX3_init 65 = .ok (.aload_n 0, 1) := by decide +kernel
theorem dX3_init_66 : decode cX3_init 66 = .ok (.iconst 3, 1) := by decide +kernel
theorem dX3_init_67 : decode cX3_init 67 = .ok (.bipush 120, 2) := by decide +kernel
theorem dX3_init_69 : decode cX3_init 69 = .ok (.multianewarray 42 2, 4) := by decide +kernel
theorem dX3_init_73 : decode cX3_init 73 = .ok (.putfield 44, 3) := by decide +kernel
theorem dX3_init_76 : decode cX3_init 76 = .ok (.aload_n 0, 1) := by decide +kernel
theorem dX3_init_77 : decode cX3_init 77 = .ok (.iconst 3, 1) := by decide +kernel
theorem dX3_init_78 : decode cX3_init 78 = .ok (.newarray .int, 2) := by decide +kernel
theorem dX3_init_80 : decode cX3_init 80 = .ok (.putfield 47, 3) := by decide +kernel
theorem dX3_init_83 : decode cX3_init 83 = .ok (.aload_n 0, 1) := by decide +kernel
theorem dX3_init_84 : decode cX3_init 84 = .ok (.iconst 3, 1) := by decide +kernel
theorem dX3_init_85 : decode cX3_init 85 = .ok (.newarray .int, 2) := by decide +kernel
theorem dX3_init_87 : decode cX3_init 87 = .ok (.putfield 50, 3) := by decide +kernel
theorem dX3_init_90 : decode cX3_init 90 = .ok (.aload_n 0, 1) := by decide +kernel
theorem dX3_init_91 : decode cX3_init 91 = .ok (.iconst 3, 1) := by decide +kernel
theorem dX3_init_92 : decode cX3_init 92 = .ok (.newarray .int, 2) := by decide +kernel
theorem dX3_init_94 : decode cX3_init 94 = .ok (.putfield 53, 3) := by decide +kernel
theorem dX3_init_97 : decode cX3_init 97 = .ok (.aload_n 0, 1) := by decide +kernel
theorem dX3_init_98 : decode cX3_init 98 = .ok (.iconst 3, 1) := by decide +kernel
theorem dX3_init_99 : decode cX3_init 99 = .ok (.newarray .int, 2) := by decide +kernel
theorem dX3_init_101 : decode cX3_init 101 = .ok (.putfield 56, 3) := by decide +kernel
theorem dX3_init_104 : decode cX3_init 104 = .ok (.aload_n 0, 1) := by decide +kernel
theorem dX3_init_105 : decode cX3_init 105 = .ok (.aload_n 1, 1) := by decide +kernel
theorem dX3_init_106 : decode cX3_init 106 = .ok (.putfield 59, 3) := by decide +kernel
theorem dX3_init_109 : decode cX3_init 109 = .ok (.return_, 1) := by decide +kernel
theorem dX3_forget_0 : decode cX3_forget 0 = .ok (.aload_n 0, 1) := by decide +kernel
theorem dX3_forget_1 : decode cX3_forget 1 = .ok (.iconst 0, 1) := by decide +kernel
theorem dX3_forget_2 : decode cX3_forget 2 = .ok (.putfield 18, 3) := by decide +kernel
theorem dX3_forget_5 : decode cX3_forget 5 = .ok (.aload_n 0, 1) := by decide +kernel
theorem dX3_forget_6 : decode cX3_forget 6 = .ok (.iconst 0, 1) := by decide +kernel
theorem dX3_forget_7 : decode cX3_forget 7 = .ok (.putfield 22, 3) := by decide +kernel
theorem dX3_forget_10 : decode cX3_forget 10 = .ok (.return_, 1) := by decide +kernel
set_option maxRecDepth 20000 in
theorem ggX3_seek_X2_choose : GoodIn wsX3_seek wsX2_choose := goodIn_r _ [10, 11, 12, 13, 14, 15, 9, 16, 17, 113, 114, 115] (by decide +kernel) (by decide +kernel)
set_option maxRecDepth 20000 in
theorem gX3_seek_X2_choose : GoodIn wsX3_seek (wsV RX3 63 RX2 yX2_choose wsX2_choose) := goodIn_app (goodIn_of _ (by decide +kernel)) ggX3_seek_X2_choose
set_option maxRecDepth 20000 in
theorem ggX3_seek_X3_gatherWants : GoodIn wsX3_seek wsX3_gatherWants := goodIn_r _ [22, 23, 24, 25, 26, 27, 28, 29, 30, 31, 32, 33, 34, 35, 36, 37, 38, 39, 40, 21, 41, 42, 43, 44, 45, 46, 47, 48, 49, 1, 50, 99, 100, 101, 102, 103, 104, 105, 106, 107, 108, 109, 110, 111, 112, 116, 117, 118, 119, 120, 113, 114, 115] (by decide +kernel) (by decide +kernel)
set_option maxRecDepth 20000 in
theorem gX3_seek_X3_gatherWants : GoodIn wsX3_seek (wsV RX3 67 RX3 yX3_gatherWants wsX3_gatherWants) := goodIn_app (goodIn_of _ (by decide +kernel)) ggX3_seek_X3_gatherWants
set_option maxRecDepth 20000 in
theorem ggX3_seek_X3_forget : GoodIn wsX3_seek wsX3_forget := goodIn_r _ [54, 4, 2, 99, 100, 101, 102, 103, 104, 105, 106, 107, 108, 109, 110, 111, 112] (by decide +kernel) (by decide +kernel)
set_option maxRecDepth 20000 in
theorem gX3_seek_X3_forget : GoodIn wsX3_seek (wsV RX3 70 RX3 yX3_forget wsX3_forget) := goodIn_app (goodIn_of _ (by decide +kernel)) ggX3_seek_X3_forget
set_option maxRecDepth 20000 in
theorem ggX3_seek_X3_enter : GoodIn wsX3_seek wsX3_enter := goodIn_r _ [58, 3, 59, 60, 61, 21, 62, 23, 24, 25, 63, 64, 65, 66, 67, 68, 69, 70, 71, 72, 73, 74, 1, 75, 76, 77, 78, 79, 80, 81, 82, 9, 83, 11, 84, 85, 86, 87, 99, 100, 101, 102, 103, 104, 105, 106, 107, 108, 109, 110, 111, 112, 113, 114, 115] (by decide +kernel) (by decide +kernel)
set_option maxRecDepth 20000 in
theorem gX3_seek_X3_enter : GoodIn wsX3_seek (wsV RX3 73 RX3 yX3_enter wsX3_enter) := goodIn_app (goodIn_of _ (by decide +kernel)) ggX3_seek_X3_enter
set_option maxRecDepth 20000 in
theorem ggX3_seek_X3_goes : GoodIn wsX3_seek wsX3_goes := goodIn_r _ [91, 3, 1, 75, 23, 64, 26, 80, 81, 82, 9, 83, 11, 84, 85, 86, 87, 92, 93, 21, 94, 95, 96, 97, 98, 99, 100, 101, 102, 103, 104, 105, 106, 107, 108, 109, 110, 111, 112, 113, 114, 115] (by decide +kernel) (by decide +kernel)
set_option maxRecDepth 20000 in
theorem gX3_seek_X3_goes : GoodIn wsX3_seek (wsV RX3 76 RX3 yX3_goes wsX3_goes) := goodIn_app (goodIn_of _ (by decide +kernel)) ggX3_seek_X3_goes
theorem dX3_seek_0 : decode cX3_seek 0 = .ok (.aload_n 0, 1) := by decide +kernel
theorem dX3_seek_1 : decode cX3_seek 1 = .ok (.getfield 12, 3) := by decide +kernel
theorem dX3_seek_4 : decode cX3_seek 4 = .ok (.iload_n 2, 1) := by decide +kernel
theorem dX3_seek_5 : decode cX3_seek 5 = .ok (.invokevirtual 63, 3) := by decide +kernel
theorem dX3_seek_8 : decode cX3_seek 8 = .ok (.aload_n 0, 1) := by decide +kernel
theorem dX3_seek_9 : decode cX3_seek 9 = .ok (.iload_n 1, 1) := by decide +kernel
theorem dX3_seek_10 : decode cX3_seek 10 = .ok (.invokevirtual 67, 3) := by decide +kernel
theorem dX3_seek_13 : decode cX3_seek 13 = .ok (.aload_n 0, 1) := by decide +kernel
theorem dX3_seek_14 : decode cX3_seek 14 = .ok (.invokevirtual 70, 3) := by decide +kernel
theorem dX3_seek_17 : decode cX3_seek 17 = .ok (.iconst 0, 1) := by decide +kernel
theorem dX3_seek_18 : decode cX3_seek 18 = .ok (.istore 4, 2) := by decide +kernel
theorem dX3_seek_20 : decode cX3_seek 20 = .ok (.aload_n 0, 1) := by decide +kernel
theorem dX3_seek_21 : decode cX3_seek 21 = .ok (.iload 4, 2) := by decide +kernel
theorem dX3_seek_23 : decode cX3_seek 23 = .ok (.invokevirtual 73, 3) := by decide +kernel
theorem dX3_seek_26 : decode cX3_seek 26 = .ok (.aload_n 0, 1) := by decide +kernel
theorem dX3_seek_27 : decode cX3_seek 27 = .ok (.getfield 22, 3) := by decide +kernel
theorem dX3_seek_30 : decode cX3_seek 30 = .ok (.iload_n 3, 1) := by decide +kernel
theorem dX3_seek_31 : decode cX3_seek 31 = .ok (.if_icmp .ge 92, 3) := by decide +kernel
theorem dX3_seek_34 : decode cX3_seek 34 = .ok (.aload_n 0, 1) := by decide +kernel
theorem dX3_seek_35 : decode cX3_seek 35 = .ok (.dup, 1) := by decide +kernel
theorem dX3_seek_36 : decode cX3_seek 36 = .ok (.getfield 22, 3) := by decide +kernel
theorem dX3_seek_39 : decode cX3_seek 39 = .ok (.iconst 1, 1) := by decide +kernel
theorem dX3_seek_40 : decode cX3_seek 40 = .ok (.iadd, 1) := by decide +kernel
theorem dX3_seek_41 : decode cX3_seek 41 = .ok (.putfield 22, 3) := by decide +kernel
theorem dX3_seek_44 : decode cX3_seek 44 = .ok (.aload_n 0, 1) := by decide +kernel
theorem dX3_seek_45 : decode cX3_seek 45 = .ok (.getfield 26, 3) := by decide +kernel
theorem dX3_seek_48 : decode cX3_seek 48 = .ok (.iload 4, 2) := by decide +kernel
theorem dX3_seek_50 : decode cX3_seek 50 = .ok (.dup2, 1) := by decide +kernel
theorem dX3_seek_51 : decode cX3_seek 51 = .ok (.iaload, 1) := by decide +kernel
theorem dX3_seek_52 : decode cX3_seek 52 = .ok (.iconst 1, 1) := by decide +kernel
theorem dX3_seek_53 : decode cX3_seek 53 = .ok (.iadd, 1) := by decide +kernel
theorem dX3_seek_54 : decode cX3_seek 54 = .ok (.iastore, 1) := by decide +kernel
theorem dX3_seek_55 : decode cX3_seek 55 = .ok (.aload_n 0, 1) := by decide +kernel
theorem dX3_seek_56 : decode cX3_seek 56 = .ok (.iload 4, 2) := by decide +kernel
theorem dX3_seek_58 : decode cX3_seek 58 = .ok (.invokevirtual 76, 3) := by decide +kernel
theorem dX3_seek_61 : decode cX3_seek 61 = .ok (.ifCond .eq 25, 3) := by decide +kernel
theorem dX3_seek_64 : decode cX3_seek 64 = .ok (.iinc 4 1, 3) := by decide +kernel
theorem dX3_seek_67 : decode cX3_seek 67 = .ok (.iload 4, 2) := by decide +kernel
theorem dX3_seek_69 : decode cX3_seek 69 = .ok (.iload_n 1, 1) := by decide +kernel
theorem dX3_seek_70 : decode cX3_seek 70 = .ok (.if_icmp .lt 10, 3) := by decide +kernel
theorem dX3_seek_73 : decode cX3_seek 73 = .ok (.aload_n 0, 1) := by decide +kernel
theorem dX3_seek_74 : decode cX3_seek 74 = .ok (.iconst 1, 1) := by decide +kernel
theorem dX3_seek_75 : decode cX3_seek 75 = .ok (.putfield 18, 3) := by decide +kernel
theorem dX3_seek_78 : decode cX3_seek 78 = .ok (.iconst 1, 1) := by decide +kernel
theorem dX3_seek_79 : decode cX3_seek 79 = .ok (.ireturn, 1) := by decide +kernel
theorem dX3_seek_80 : decode cX3_seek 80 = .ok (.aload_n 0, 1) := by decide +kernel
theorem dX3_seek_81 : decode cX3_seek 81 = .ok (.iload 4, 2) := by decide +kernel
theorem dX3_seek_83 : decode cX3_seek 83 = .ok (.invokevirtual 73, 3) := by decide +kernel
theorem dX3_seek_86 : decode cX3_seek 86 = .ok (.iload 4, 2) := by decide +kernel
theorem dX3_seek_88 : decode cX3_seek 88 = .ok (.ifCond .lt 28, 3) := by decide +kernel
theorem dX3_seek_91 : decode cX3_seek 91 = .ok (.aload_n 0, 1) := by decide +kernel
theorem dX3_seek_92 : decode cX3_seek 92 = .ok (.getfield 26, 3) := by decide +kernel
theorem dX3_seek_95 : decode cX3_seek 95 = .ok (.iload 4, 2) := by decide +kernel
theorem dX3_seek_97 : decode cX3_seek 97 = .ok (.iaload, 1) := by decide +kernel
theorem dX3_seek_98 : decode cX3_seek 98 = .ok (.iconst 1, 1) := by decide +kernel
theorem dX3_seek_99 : decode cX3_seek 99 = .ok (.iadd, 1) := by decide +kernel
theorem dX3_seek_100 : decode cX3_seek 100 = .ok (.aload_n 0, 1) := by decide +kernel
theorem dX3_seek_101 : decode cX3_seek 101 = .ok (.getfield 12, 3) := by decide +kernel
theorem dX3_seek_104 : decode cX3_seek 104 = .ok (.getfield 80, 3) := by decide +kernel
theorem dX3_seek_107 : decode cX3_seek 107 = .ok (.if_icmp .lt 9, 3) := by decide +kernel
theorem dX3_seek_110 : decode cX3_seek 110 = .ok (.iinc 4 (-1), 3) := by decide +kernel
theorem dX3_seek_113 : decode cX3_seek 113 = .ok (.goto (-27), 3) := by decide +kernel
theorem dX3_seek_116 : decode cX3_seek 116 = .ok (.iload 4, 2) := by decide +kernel
