theorem wsL_law_x0 : ∀ w ∈ (vx_atS RX6 160 "java/lang/ArithmeticException" ["java/lang/RuntimeException", "java/lang/Exception"]).filter goodWord, w ∈ lw_tbl := by decide +kernel
theorem wsL_law_in : ∀ w ∈ wsL_law, w ∈ lw_tbl := fun w h => (List.mem_append.mp h).elim (fun h => wsL_law_in0 w h) (fun h => wsL_law_x0 w h)
theorem inlX0 : ∀ w ∈ wsX00, w ∈ wsL_law := fun _ h => List.mem_append_left _ (List.mem_append_left _ (List.mem_append_left _ (List.mem_append_left _ (List.mem_append_right _ h))))
theorem inX0 : ∀ w ∈ wsX00, w ∈ lw_tbl := fun w h => wsL_law_in w (inlX0 w h)
theorem inlX1 : ∀ w ∈ wsX10, w ∈ wsL_law := fun _ h => List.mem_append_left _ (List.mem_append_left _ (List.mem_append_left _ (List.mem_append_right _ h)))
theorem inX1 : ∀ w ∈ wsX10, w ∈ lw_tbl := fun w h => wsL_law_in w (inlX1 w h)
theorem inlX2 : ∀ w ∈ wsX20, w ∈ wsL_law := fun _ h => List.mem_append_left _ (List.mem_append_left _ (List.mem_append_right _ h))
theorem inX2 : ∀ w ∈ wsX20, w ∈ lw_tbl := fun w h => wsL_law_in w (inlX2 w h)
theorem inlX3 : ∀ w ∈ wsX30, w ∈ wsL_law := fun _ h => List.mem_append_left _ (List.mem_append_left _ (List.mem_append_left _ (List.mem_append_left _ (List.mem_append_left _ (List.mem_append_right _ h)))))
theorem inX3 : ∀ w ∈ wsX30, w ∈ lw_tbl := fun w h => wsL_law_in w (inlX3 w h)
theorem inlX4 : ∀ w ∈ wsX40, w ∈ wsL_law := fun _ h => List.mem_append_left _ (List.mem_append_left _ (List.mem_append_left _ (List.mem_append_left _ (List.mem_append_left _ (List.mem_append_left _ (List.mem_append_left _ (List.mem_append_right _ h)))))))
theorem inX4 : ∀ w ∈ wsX40, w ∈ lw_tbl := fun w h => wsL_law_in w (inlX4 w h)
theorem inlX5 : ∀ w ∈ wsX50, w ∈ wsL_law := fun _ h => List.mem_append_left _ (List.mem_append_left _ (List.mem_append_left _ (List.mem_append_left _ (List.mem_append_left _ (List.mem_append_left _ (List.mem_append_right _ h))))))
theorem inX5 : ∀ w ∈ wsX50, w ∈ lw_tbl := fun w h => wsL_law_in w (inlX5 w h)
theorem inlX6 : ∀ w ∈ wsX60, w ∈ wsL_law := fun _ h => List.mem_append_left _ (List.mem_append_left _ (List.mem_append_left _ (List.mem_append_left _ (List.mem_append_left _ (List.mem_append_left _ (List.mem_append_left _ (List.mem_append_left _ (List.mem_append_left _ (List.mem_append_right _ h)))))))))
theorem inX6 : ∀ w ∈ wsX60, w ∈ lw_tbl := fun w h => wsL_law_in w (inlX6 w h)
theorem inlX7 : ∀ w ∈ wsX70, w ∈ wsL_law := fun _ h => List.mem_append_left _ (List.mem_append_left _ (List.mem_append_left _ (List.mem_append_left _ (List.mem_append_left _ (List.mem_append_left _ (List.mem_append_left _ (List.mem_append_left _ (List.mem_append_right _ h))))))))
theorem inX7 : ∀ w ∈ wsX70, w ∈ lw_tbl := fun w h => wsL_law_in w (inlX7 w h)
theorem inJ6 : ∀ w ∈ wsJ60, w ∈ lw_tbl := by decide +kernel
theorem inJ9 : ∀ w ∈ wsJ90, w ∈ lw_tbl := by decide +kernel
theorem inJ0 : ∀ w ∈ wsJ00, w ∈ lw_tbl := by decide +kernel
theorem inJ10 : ∀ w ∈ wsJ100, w ∈ lw_tbl := by decide +kernel
theorem inJ7 : ∀ w ∈ wsJ70, w ∈ lw_tbl := by decide +kernel
set_option maxRecDepth 20000 in
theorem ggL_meet_X6_meet : GoodIn wsL_meet wsX6_meet := goodIn_ca (goodIn_r _ [6, 7, 8, 9, 10, 11, 5, 12, 13, 14, 15, 16, 17, 18, 19, 20, 21, 22, 23, 24, 25, 26, 27, 28, 29, 30, 31, 32, 33, 34, 35, 36, 37, 38, 39, 40, 41, 42, 43, 44, 45, 46, 47, 48, 49, 50, 51, 52, 53, 54, 55, 56, 57, 58, 59, 60, 61, 62, 63, 64, 65, 66, 67, 68, 69, 70, 71, 72, 73, 74, 75, 76, 77, 78, 79, 80, 81, 82, 83, 84, 85, 86, 87, 88, 89, 90, 91, 92, 93, 94, 95, 96, 97, 98] (by decide +kernel) (by decide +kernel)) (goodIn_sub (fun _ h => List.mem_cons_of_mem _ (List.mem_append_right _ h)) (by decide +kernel))
set_option maxRecDepth 20000 in
theorem gL_meet_X6_meet : GoodIn wsL_meet (wsV RL 7 RX6 yX6_meet wsX6_meet) := goodIn_app (goodIn_of _ (by decide +kernel)) ggL_meet_X6_meet
theorem dL_meet_0 : decode cL_meet 0 = .ok (.aload_n 3, 1) := by decide +kernel
theorem dL_meet_1 : decode cL_meet 1 = .ok (.iconst 0, 1) := by decide +kernel
theorem dL_meet_2 : decode cL_meet 2 = .ok (.aload_n 0, 1) := by decide +kernel
theorem dL_meet_3 : decode cL_meet 3 = .ok (.iload_n 1, 1) := by decide +kernel
theorem dL_meet_4 : decode cL_meet 4 = .ok (.iload_n 2, 1) := by decide +kernel
theorem dL_meet_5 : decode cL_meet 5 = .ok (.invokevirtual 7, 3) := by decide +kernel
theorem dL_meet_8 : decode cL_meet 8 = .ok (.i2l, 1) := by decide +kernel
theorem dL_meet_9 : decode cL_meet 9 = .ok (.lastore, 1) := by decide +kernel
theorem dL_meet_10 : decode cL_meet 10 = .ok (.goto 7, 3) := by decide +kernel
theorem dL_meet_13 : decode cL_meet 13 = .ok (.astore 4, 2) := by decide +kernel
theorem dL_meet_15 : decode cL_meet 15 = .ok (.iconst 1, 1) := by decide +kernel
theorem dL_meet_16 : decode cL_meet 16 = .ok (.ireturn, 1) := by decide +kernel
theorem dL_meet_17 : decode cL_meet 17 = .ok (.iconst 0, 1) := by decide +kernel
theorem dL_meet_18 : decode cL_meet 18 = .ok (.ireturn, 1) := by decide +kernel
set_option maxRecDepth 20000 in
theorem ggL_pivot_X6_pivot : GoodIn wsL_pivot wsX6_pivot := goodIn_ca (goodIn_r _ [6, 7, 8, 9, 10, 5, 11, 12, 13, 14, 15, 16, 17, 18, 19, 20] (by decide +kernel) (by decide +kernel)) (goodIn_sub (fun _ h => List.mem_cons_of_mem _ (List.mem_append_right _ h)) (by decide +kernel))
set_option maxRecDepth 20000 in
theorem gL_pivot_X6_pivot : GoodIn wsL_pivot (wsV RL 15 RX6 yX6_pivot wsX6_pivot) := goodIn_app (goodIn_of _ (by decide +kernel)) ggL_pivot_X6_pivot
theorem dL_pivot_0 : decode cL_pivot 0 = .ok (.aload 4, 2) := by decide +kernel
theorem dL_pivot_2 : decode cL_pivot 2 = .ok (.iconst 0, 1) := by decide +kernel
theorem dL_pivot_3 : decode cL_pivot 3 = .ok (.aload_n 0, 1) := by decide +kernel
theorem dL_pivot_4 : decode cL_pivot 4 = .ok (.iload_n 1, 1) := by decide +kernel
theorem dL_pivot_5 : decode cL_pivot 5 = .ok (.iload_n 2, 1) := by decide +kernel
theorem dL_pivot_6 : decode cL_pivot 6 = .ok (.iload_n 3, 1) := by decide +kernel
theorem dL_pivot_7 : decode cL_pivot 7 = .ok (.invokevirtual 15, 3) := by decide +kernel
theorem dL_pivot_10 : decode cL_pivot 10 = .ok (.i2l, 1) := by decide +kernel
theorem dL_pivot_11 : decode cL_pivot 11 = .ok (.lastore, 1) := by decide +kernel
theorem dL_pivot_12 : decode cL_pivot 12 = .ok (.goto 7, 3) := by decide +kernel
theorem dL_pivot_15 : decode cL_pivot 15 = .ok (.astore 5, 2) := by decide +kernel
theorem dL_pivot_17 : decode cL_pivot 17 = .ok (.iconst 1, 1) := by decide +kernel
theorem dL_pivot_18 : decode cL_pivot 18 = .ok (.ireturn, 1) := by decide +kernel
theorem dL_pivot_19 : decode cL_pivot 19 = .ok (.iconst 0, 1) := by decide +kernel
theorem dL_pivot_20 : decode cL_pivot 20 = .ok (.ireturn, 1) := by decide +kernel
set_option maxRecDepth 20000 in
theorem ggL_law_X6_init : GoodIn wsL_law wsX6_init := goodIn_r _ [9, 10, 11, 12, 13, 14, 15, 16, 17, 18, 19, 20, 21, 22, 23, 24, 25, 26, 27, 28, 29, 30, 31, 32, 33, 34, 35, 36, 37, 38, 39, 40, 41, 42, 43, 44, 45, 46, 47, 48, 49, 50, 51, 52, 53, 54, 55, 56, 57, 58, 59, 60, 61, 62, 63, 64, 65, 66, 67, 68, 69, 70, 71, 72, 73, 74, 75, 76, 77, 78, 79, 80, 81, 82, 83, 84, 85, 86, 87, 88, 89, 90, 91, 92, 93, 94, 95, 96, 97, 98, 99, 100, 101, 102, 103, 104, 105, 106, 107, 108, 109, 110, 111, 112, 113, 114, 115, 116, 117, 118, 878, 879, 880, 881, 882, 883, 884, 885, 939, 940, 941, 942, 943, 944, 945, 946, 947, 948, 949, 950, 951, 952, 953, 954, 955, 956, 957, 958, 959, 960, 961, 962, 963, 964, 965, 966, 967, 968, 969, 970, 971, 972, 973, 974, 975, 976, 977, 978, 979, 980, 981, 982, 983, 984, 985, 986, 987, 988] (by decide +kernel) (by decide +kernel)
set_option maxRecDepth 20000 in
theorem gL_law_X6_init : GoodIn wsL_law (wsX6_init) := ggL_law_X6_init
set_option maxRecDepth 20000 in
theorem ggL_law_X7_init : GoodIn wsL_law wsX7_init := goodIn_r _ [121, 122, 11, 12, 13, 123, 124, 125, 126, 127, 128, 129, 130, 131, 132, 133, 134, 135, 136, 137, 138, 139, 140, 141, 142, 143, 144, 145, 146, 147, 148, 149, 150, 151, 152, 153, 154, 155, 156, 157, 158, 159, 886, 887, 888, 889, 890, 891, 892, 893, 894, 895, 896, 897, 898, 899, 900, 901, 902, 903, 904, 905, 906, 907, 908, 909, 910, 911, 912, 913, 914, 915, 916, 917, 918, 919, 920, 921, 922, 923, 924, 925, 926, 927, 928, 929, 930, 931, 932, 933, 934, 935, 936, 937, 938] (by decide +kernel) (by decide +kernel)
set_option maxRecDepth 20000 in
theorem gL_law_X7_init : GoodIn wsL_law (wsX7_init) := ggL_law_X7_init
set_option maxRecDepth 20000 in
theorem ggL_law_X6_sign : GoodIn wsL_law wsX6_sign := goodIn_r _ [163, 15, 14, 878, 879, 880, 881, 882, 883, 884, 885] (by decide +kernel) (by decide +kernel)
set_option maxRecDepth 20000 in
theorem gL_law_X6_sign : GoodIn wsL_law (wsV RL 23 RX6 yX6_sign wsX6_sign) := goodIn_app (goodIn_of _ (by decide +kernel)) ggL_law_X6_sign
set_option maxRecDepth 20000 in
theorem ggL_law_X7_sign : GoodIn wsL_law wsX7_sign := goodIn_r _ [167, 168, 169, 123, 170, 171, 5, 172, 886, 887, 888, 889, 890, 891, 892, 893, 894, 895, 896, 897, 898, 899, 900, 901, 902, 903, 904, 905, 906, 907, 908, 909, 910, 911, 912, 913, 914, 915, 916, 917, 918, 919, 920, 921, 922, 923, 924, 925, 926, 927, 928, 929, 930, 931, 932, 933, 934, 935, 936, 937, 938] (by decide +kernel) (by decide +kernel)
set_option maxRecDepth 20000 in
theorem gL_law_X7_sign : GoodIn wsL_law (wsV RL 27 RX7 yX7_sign wsX7_sign) := goodIn_app (goodIn_of _ (by decide +kernel)) ggL_law_X7_sign
set_option maxRecDepth 20000 in
theorem ggL_law_X6_read : GoodIn wsL_law wsX6_read := goodIn_r _ [176, 20, 14, 15, 19, 24, 28, 32, 36, 177, 178, 179, 180, 18, 181, 40, 41, 42, 48, 182, 183, 184, 185, 44, 186, 187, 188, 189, 46, 47, 190, 191, 192, 193, 194, 195, 196, 197, 43, 198, 199, 200, 201, 202, 203, 204, 205, 206, 207, 208, 209, 210, 211, 23, 212, 53, 54, 55, 56, 57, 213, 214, 215, 216, 217, 218, 219, 220, 221, 222, 223, 224, 225, 226, 227, 228, 229, 230, 231, 232, 27, 233, 66, 67, 234, 235, 236, 31, 237, 91, 92, 238, 239, 240, 35, 241, 108, 878, 879, 880, 881, 882, 883, 884, 885, 939, 940, 941, 942, 943, 944, 945, 946, 947, 948, 949, 950, 951, 952, 953, 954, 955, 956, 957, 958, 959, 960, 961, 962, 963, 964, 965, 966, 967, 968, 969, 970, 971, 972, 973, 974, 975, 976, 977, 978, 979, 980, 981, 982, 983, 984, 985] (by decide +kernel) (by decide +kernel)
set_option maxRecDepth 20000 in
theorem gL_law_X6_read : GoodIn wsL_law (wsV RL 28 RX6 yX6_read wsX6_read) := goodIn_app (goodIn_of _ (by decide +kernel)) ggL_law_X6_read
set_option maxRecDepth 20000 in
theorem ggL_law_X7_read : GoodIn wsL_law wsX7_read := goodIn_r _ [245, 168, 169, 246, 247, 248, 125, 126, 129, 128, 130, 124, 127, 249, 250, 251, 252, 253, 254, 159, 255, 256, 257, 5, 258, 123, 131, 170, 171, 172, 259, 260, 261, 262, 886, 887, 888, 889, 890, 891, 892, 893, 894, 895, 896, 897, 898, 899, 900, 901, 902, 903, 904, 905, 906, 907, 908, 909, 910, 911, 912, 913, 914, 915, 916, 917, 918, 919, 920, 921, 922, 923, 924, 925, 926, 927, 928, 929, 930, 931, 932, 933, 934, 935, 936, 937, 938] (by decide +kernel) (by decide +kernel)
set_option maxRecDepth 20000 in
theorem gL_law_X7_read : GoodIn wsL_law (wsV RL 32 RX7 yX7_read wsX7_read) := goodIn_app (goodIn_of _ (by decide +kernel)) ggL_law_X7_read
set_option maxRecDepth 20000 in
theorem ggL_law_X6_count : GoodIn wsL_law wsX6_count := goodIn_r _ [266, 19, 267, 268, 24, 269, 270, 32, 271, 28, 272, 15, 273, 878, 879, 880, 881, 882, 883, 884, 885, 939, 940, 941, 942, 943, 944, 945, 946, 947, 948, 949, 950, 951, 966, 967, 968, 969, 970, 971, 972, 973, 974, 975, 976, 952, 953, 954, 955, 956, 957, 958, 959, 960, 961, 962, 963, 964, 965] (by decide +kernel) (by decide +kernel)
set_option maxRecDepth 20000 in
theorem gL_law_X6_count : GoodIn wsL_law (wsV RL 33 RX6 yX6_count wsX6_count) := goodIn_app (goodIn_of _ (by decide +kernel)) ggL_law_X6_count
set_option maxRecDepth 20000 in
theorem ggL_law_X7_count : GoodIn wsL_law wsX7_count := goodIn_r _ [277, 168, 246, 248, 249, 250, 251, 254, 169, 159, 886, 887, 888, 889, 890, 891, 892, 893, 894, 895, 896, 897, 898, 899, 900, 901, 902, 903, 904, 905, 906, 907, 908, 909, 910, 911, 912, 913, 914, 915, 916, 917, 918, 919, 920, 921, 922, 923, 924, 925, 926, 927, 928, 929, 930, 931, 932, 933, 934, 935, 936, 937, 938] (by decide +kernel) (by decide +kernel)
set_option maxRecDepth 20000 in
theorem gL_law_X7_count : GoodIn wsL_law (wsV RL 36 RX7 yX7_count wsX7_count) := goodIn_app (goodIn_of _ (by decide +kernel)) ggL_law_X7_count
set_option maxRecDepth 20000 in
theorem ggL_law_X6_line : GoodIn wsL_law wsX6_line := goodIn_r _ [281, 19, 282, 283, 284, 285, 286, 287, 18, 288, 41, 878, 879, 880, 881, 882, 883, 884, 885, 939, 940, 941, 942, 943, 944, 945, 946] (by decide +kernel) (by decide +kernel)
set_option maxRecDepth 20000 in
theorem gL_law_X6_line : GoodIn wsL_law (wsV RL 37 RX6 yX6_line wsX6_line) := goodIn_app (goodIn_of _ (by decide +kernel)) ggL_law_X6_line
set_option maxRecDepth 20000 in
theorem ggL_law_X7_line : GoodIn wsL_law wsX7_line := goodIn_r _ [292, 168, 248, 126, 127, 124, 170, 171, 5, 172, 886, 887, 888, 889, 890, 891, 892, 893, 894, 895, 896, 897, 898, 899, 900, 901, 902, 903, 904, 905, 906, 907, 908, 909, 910, 911, 912, 913, 914, 915, 916, 917, 918, 919, 920, 921, 922, 923, 924, 925, 926, 927, 928, 929, 930, 931, 932, 933, 934, 935, 936, 937, 938] (by decide +kernel) (by decide +kernel)
set_option maxRecDepth 20000 in
theorem gL_law_X7_line : GoodIn wsL_law (wsV RL 41 RX7 yX7_line wsX7_line) := goodIn_app (goodIn_of _ (by decide +kernel)) ggL_law_X7_line
set_option maxRecDepth 20000 in
theorem ggL_law_X6_bar : GoodIn wsL_law wsX6_bar := goodIn_r _ [296, 19, 24, 297, 298, 299, 300, 18, 301, 302, 303, 304, 305, 40, 306, 221, 23, 222, 223, 224, 225, 226, 227, 228, 229, 307, 308, 309, 310, 54, 56, 878, 879, 880, 881, 882, 883, 884, 885, 947, 948, 949, 950, 951, 939, 940, 941, 942, 943, 944, 945, 946] (by decide +kernel) (by decide +kernel)
set_option maxRecDepth 20000 in
theorem gL_law_X6_bar : GoodIn wsL_law (wsV RL 42 RX6 yX6_bar wsX6_bar) := goodIn_app (goodIn_of _ (by decide +kernel)) ggL_law_X6_bar
set_option maxRecDepth 20000 in
theorem ggL_law_X7_bar : GoodIn wsL_law wsX7_bar := goodIn_r _ [314, 168, 249, 132, 315, 316, 317, 5, 318, 246, 170, 171, 172, 319, 320, 321, 322, 323, 324, 325, 248, 128, 326, 327, 328, 329, 886, 887, 888, 889, 890, 891, 892, 893, 894, 895, 896, 897, 898, 899, 900, 901, 902, 903, 904, 905, 906, 907, 908, 909, 910, 911, 912, 913, 914, 915, 916, 917, 918, 919, 920, 921, 922, 923, 924, 925, 926, 927, 928, 929, 930, 931, 932, 933, 934, 935, 936, 937, 938] (by decide +kernel) (by decide +kernel)
set_option maxRecDepth 20000 in
theorem gL_law_X7_bar : GoodIn wsL_law (wsV RL 45 RX7 yX7_bar wsX7_bar) := goodIn_app (goodIn_of _ (by decide +kernel)) ggL_law_X7_bar
set_option maxRecDepth 20000 in
theorem ggL_law_X6_orient : GoodIn wsL_law wsX6_orient := goodIn_r _ [333, 19, 24, 297, 334, 298, 299, 300, 18, 301, 302, 303, 304, 305, 40, 306, 221, 23, 222, 223, 224, 225, 226, 227, 228, 229, 335, 336, 337, 338, 339, 340, 341, 55, 57, 878, 879, 880, 881, 882, 883, 884, 885, 947, 948, 949, 950, 951, 939, 940, 941, 942, 943, 944, 945, 946] (by decide +kernel) (by decide +kernel)
set_option maxRecDepth 20000 in
theorem gL_law_X6_orient : GoodIn wsL_law (wsV RL 46 RX6 yX6_orient wsX6_orient) := goodIn_app (goodIn_of _ (by decide +kernel)) ggL_law_X6_orient
set_option maxRecDepth 20000 in
theorem ggL_law_X7_orient : GoodIn wsL_law wsX7_orient := goodIn_r _ [345, 168, 134, 250, 133, 315, 316, 317, 5, 318, 246, 170, 171, 172, 319, 320, 321, 346, 347, 348, 349, 350, 351, 352, 322, 323, 324, 325, 248, 128, 886, 887, 888, 889, 890, 891, 892, 893, 894, 895, 896, 897, 898, 899, 900, 901, 902, 903, 904, 905, 906, 907, 908, 909, 910, 911, 912, 913, 914, 915, 916, 917, 918, 919, 920, 921, 922, 923, 924, 925, 926, 927, 928, 929, 930, 931, 932, 933, 934, 935, 936, 937, 938] (by decide +kernel) (by decide +kernel)
set_option maxRecDepth 20000 in
theorem gL_law_X7_orient : GoodIn wsL_law (wsV RL 50 RX7 yX7_orient wsX7_orient) := goodIn_app (goodIn_of _ (by decide +kernel)) ggL_law_X7_orient
