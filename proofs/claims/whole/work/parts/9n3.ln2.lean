set_option maxRecDepth 20000 in
theorem ggL_law_X6_realise : GoodIn wsL_law wsX6_realise := goodIn_r _ [356, 19, 268, 28, 267, 357, 358, 2, 359, 360, 361, 362, 363, 27, 364, 65, 67, 68, 66, 365, 366, 367, 368, 64, 369, 83, 84, 370, 371, 372, 373, 86, 374, 375, 376, 377, 69, 70, 71, 72, 378, 221, 23, 222, 223, 224, 225, 226, 227, 228, 229, 379, 380, 381, 382, 79, 383, 384, 385, 386, 387, 388, 389, 390, 391, 231, 232, 233, 392, 393, 394, 395, 396, 397, 398, 399, 77, 74, 400, 401, 402, 403, 75, 76, 404, 405, 406, 407, 408, 409, 410, 411, 412, 413, 414, 415, 416, 417, 418, 419, 420, 421, 422, 423, 424, 425, 426, 427, 428, 429, 204, 430, 878, 879, 880, 881, 882, 883, 884, 885, 939, 940, 941, 942, 943, 944, 945, 946, 952, 953, 954, 955, 956, 957, 958, 959, 960, 961, 962, 963, 964, 965, 986, 987, 988, 947, 948, 949, 950, 951] (by decide +kernel) (by decide +kernel)
set_option maxRecDepth 20000 in
theorem gL_law_X6_realise : GoodIn wsL_law (wsV RL 51 RX6 yX6_realise wsX6_realise) := goodIn_app (goodIn_of _ (by decide +kernel)) ggL_law_X6_realise
set_option maxRecDepth 20000 in
theorem ggL_law_X7_realise : GoodIn wsL_law wsX7_realise := goodIn_r _ [434, 168, 248, 252, 254, 136, 137, 246, 435, 436, 5, 437, 170, 171, 172, 438, 439, 440, 441, 442, 443, 444, 134, 142, 445, 446, 447, 448, 138, 139, 140, 141, 449, 450, 451, 319, 320, 321, 349, 350, 351, 352, 250, 133, 326, 327, 328, 329, 249, 132, 322, 323, 324, 325, 128, 452, 453, 454, 455, 456, 457, 458, 459, 460, 461, 462, 463, 464, 465, 466, 467, 468, 135, 886, 887, 888, 889, 890, 891, 892, 893, 894, 895, 896, 897, 898, 899, 900, 901, 902, 903, 904, 905, 906, 907, 908, 909, 910, 911, 912, 913, 914, 915, 916, 917, 918, 919, 920, 921, 922, 923, 924, 925, 926, 927, 928, 929, 930, 931, 932, 933, 934, 935, 936, 937, 938] (by decide +kernel) (by decide +kernel)
set_option maxRecDepth 20000 in
theorem gL_law_X7_realise : GoodIn wsL_law (wsV RL 54 RX7 yX7_realise wsX7_realise) := goodIn_app (goodIn_of _ (by decide +kernel)) ggL_law_X7_realise
set_option maxRecDepth 20000 in
theorem ggL_law_X6_coordinate : GoodIn wsL_law wsX6_coordinate := goodIn_r _ [472, 19, 28, 473, 474, 303, 304, 18, 305, 40, 475, 476, 477, 27, 478, 68, 65, 408, 878, 879, 880, 881, 882, 883, 884, 885, 952, 953, 954, 955, 956, 957, 958, 959, 960, 961, 962, 963, 964, 965, 939, 940, 941, 942, 943, 944, 945, 946, 986, 987, 988] (by decide +kernel) (by decide +kernel)
set_option maxRecDepth 20000 in
theorem gL_law_X6_coordinate : GoodIn wsL_law (wsV RL 55 RX6 yX6_coordinate wsX6_coordinate) := goodIn_app (goodIn_of _ (by decide +kernel)) ggL_law_X6_coordinate
set_option maxRecDepth 20000 in
theorem ggL_law_X7_coordinate : GoodIn wsL_law wsX7_coordinate := goodIn_r _ [482, 168, 246, 252, 135, 468, 170, 171, 5, 172, 449, 450, 451, 886, 887, 888, 889, 890, 891, 892, 893, 894, 895, 896, 897, 898, 899, 900, 901, 902, 903, 904, 905, 906, 907, 908, 909, 910, 911, 912, 913, 914, 915, 916, 917, 918, 919, 920, 921, 922, 923, 924, 925, 926, 927, 928, 929, 930, 931, 932, 933, 934, 935, 936, 937, 938] (by decide +kernel) (by decide +kernel)
set_option maxRecDepth 20000 in
theorem gL_law_X7_coordinate : GoodIn wsL_law (wsV RL 58 RX7 yX7_coordinate wsX7_coordinate) := goodIn_app (goodIn_of _ (by decide +kernel)) ggL_law_X7_coordinate
set_option maxRecDepth 20000 in
theorem ggL_law_X6_check : GoodIn wsL_law wsX6_check := goodIn_r _ [486, 28, 473, 19, 267, 487, 488, 489, 27, 490, 374, 375, 376, 377, 69, 70, 71, 72, 378, 221, 23, 222, 223, 224, 225, 226, 227, 228, 229, 379, 380, 381, 382, 79, 383, 384, 385, 386, 387, 388, 389, 65, 390, 396, 397, 398, 399, 77, 74, 400, 401, 402, 403, 75, 76, 404, 405, 406, 407, 408, 68, 409, 410, 411, 412, 413, 414, 415, 64, 416, 83, 417, 418, 419, 420, 421, 422, 423, 424, 425, 426, 427, 428, 429, 204, 430, 878, 879, 880, 881, 882, 883, 884, 885, 952, 953, 954, 955, 956, 957, 958, 959, 960, 961, 962, 963, 964, 965, 939, 940, 941, 942, 943, 944, 945, 946, 947, 948, 949, 950, 951, 986, 987, 988] (by decide +kernel) (by decide +kernel)
set_option maxRecDepth 20000 in
theorem gL_law_X6_check : GoodIn wsL_law (wsV RL 59 RX6 yX6_check wsX6_check) := goodIn_app (goodIn_of _ (by decide +kernel)) ggL_law_X6_check
set_option maxRecDepth 20000 in
theorem ggL_law_X7_check : GoodIn wsL_law wsX7_check := goodIn_r _ [494, 168, 252, 468, 246, 135, 441, 442, 443, 5, 444, 134, 142, 445, 446, 447, 448, 138, 139, 140, 141, 438, 439, 440, 449, 450, 451, 319, 320, 321, 349, 350, 351, 352, 250, 133, 326, 327, 328, 329, 249, 132, 322, 323, 324, 325, 248, 128, 456, 457, 458, 459, 460, 461, 462, 463, 886, 887, 888, 889, 890, 891, 892, 893, 894, 895, 896, 897, 898, 899, 900, 901, 902, 903, 904, 905, 906, 907, 908, 909, 910, 911, 912, 913, 914, 915, 916, 917, 918, 919, 920, 921, 922, 923, 924, 925, 926, 927, 928, 929, 930, 931, 932, 933, 934, 935, 936, 937, 938] (by decide +kernel) (by decide +kernel)
set_option maxRecDepth 20000 in
theorem gL_law_X7_check : GoodIn wsL_law (wsV RL 62 RX7 yX7_check wsX7_check) := goodIn_app (goodIn_of _ (by decide +kernel)) ggL_law_X7_check
set_option maxRecDepth 20000 in
theorem ggL_law_L_meet : GoodIn wsL_law wsL_meet := goodIn_ca (goodIn_r _ [498, 499, 500, 501, 502, 2, 503, 504, 505, 506, 507, 508, 509, 19, 28, 473, 510, 511, 283, 285, 286, 287, 18, 288, 41, 512, 513, 514, 27, 515, 77, 78, 75, 65, 400, 401, 402, 403, 76, 404, 405, 406, 407, 408, 68, 409, 410, 411, 412, 413, 414, 415, 64, 416, 83, 417, 418, 419, 420, 516, 517, 518, 519, 520, 521, 522, 878, 879, 880, 881, 882, 883, 884, 885, 952, 953, 954, 955, 956, 957, 958, 959, 960, 961, 962, 963, 964, 965, 986, 987, 988, 939, 940, 941, 942, 943, 944, 945, 946] (by decide +kernel) (by decide +kernel)) (goodIn_sub (fun _ h => List.mem_append_right _ h) (by decide +kernel))
set_option maxRecDepth 20000 in
theorem gL_law_L_meet : GoodIn wsL_law (va_wsS RL 63 yL_meet wsL_meet) := goodIn_app (goodIn_of _ (by decide +kernel)) ggL_law_L_meet
set_option maxRecDepth 20000 in
theorem ggL_law_X7_meet : GoodIn wsL_law wsX7_meet := goodIn_r _ [526, 168, 248, 252, 468, 170, 171, 5, 172, 445, 446, 447, 448, 138, 139, 140, 141, 438, 439, 440, 449, 450, 451, 527, 528, 529, 530, 135, 127, 460, 461, 462, 463, 886, 887, 888, 889, 890, 891, 892, 893, 894, 895, 896, 897, 898, 899, 900, 901, 902, 903, 904, 905, 906, 907, 908, 909, 910, 911, 912, 913, 914, 915, 916, 917, 918, 919, 920, 921, 922, 923, 924, 925, 926, 927, 928, 929, 930, 931, 932, 933, 934, 935, 936, 937, 938] (by decide +kernel) (by decide +kernel)
set_option maxRecDepth 20000 in
theorem gL_law_X7_meet : GoodIn wsL_law (wsV RL 68 RX7 yX7_meet wsX7_meet) := goodIn_app (goodIn_of _ (by decide +kernel)) ggL_law_X7_meet
set_option maxRecDepth 20000 in
theorem ggL_law_X7_thrown : GoodIn wsL_law wsX7_thrown := goodIn_r _ [534, 168, 886, 887, 888, 889, 890, 891, 892, 893, 894, 895, 896, 897, 898, 899, 900, 901, 902, 903, 904, 905, 906, 907, 908, 909, 910, 911, 912, 913, 914, 915, 916, 917, 918, 919, 920, 921, 922, 923, 924, 925, 926, 927, 928, 929, 930, 931, 932, 933, 934, 935, 936, 937, 938] (by decide +kernel) (by decide +kernel)
set_option maxRecDepth 20000 in
theorem gL_law_X7_thrown : GoodIn wsL_law (wsV RL 69 RX7 yX7_thrown wsX7_thrown) := goodIn_app (goodIn_of _ (by decide +kernel)) ggL_law_X7_thrown
set_option maxRecDepth 20000 in
theorem ggL_law_X6_meets : GoodIn wsL_law wsX6_meets := goodIn_r _ [538, 506, 507, 508, 2, 509, 19, 28, 473, 510, 511, 283, 285, 286, 287, 18, 288, 41, 512, 513, 514, 27, 515, 77, 78, 75, 65, 400, 401, 402, 403, 76, 404, 405, 406, 407, 408, 68, 409, 410, 411, 412, 413, 414, 415, 64, 416, 83, 417, 418, 419, 420, 516, 517, 518, 519, 520, 521, 522, 878, 879, 880, 881, 882, 883, 884, 885, 952, 953, 954, 955, 956, 957, 958, 959, 960, 961, 962, 963, 964, 965, 986, 987, 988, 939, 940, 941, 942, 943, 944, 945, 946] (by decide +kernel) (by decide +kernel)
set_option maxRecDepth 20000 in
theorem gL_law_X6_meets : GoodIn wsL_law (wsV RL 72 RX6 yX6_meets wsX6_meets) := goodIn_app (goodIn_of _ (by decide +kernel)) ggL_law_X6_meets
set_option maxRecDepth 20000 in
theorem ggL_law_X7_meets : GoodIn wsL_law wsX7_meets := goodIn_r _ [542, 168, 543, 524, 525, 5, 526, 248, 252, 468, 170, 171, 172, 445, 446, 447, 448, 138, 139, 140, 141, 438, 439, 440, 449, 450, 451, 527, 528, 529, 530, 135, 127, 460, 461, 462, 463, 886, 887, 888, 889, 890, 891, 892, 893, 894, 895, 896, 897, 898, 899, 900, 901, 902, 903, 904, 905, 906, 907, 908, 909, 910, 911, 912, 913, 914, 915, 916, 917, 918, 919, 920, 921, 922, 923, 924, 925, 926, 927, 928, 929, 930, 931, 932, 933, 934, 935, 936, 937, 938] (by decide +kernel) (by decide +kernel)
set_option maxRecDepth 20000 in
theorem gL_law_X7_meets : GoodIn wsL_law (wsV RL 75 RX7 yX7_meets wsX7_meets) := goodIn_app (goodIn_of _ (by decide +kernel)) ggL_law_X7_meets
set_option maxRecDepth 20000 in
theorem ggL_law_L_pivot : GoodIn wsL_law wsL_pivot := goodIn_ca (goodIn_r _ [546, 499, 547, 548, 549, 2, 550, 504, 505, 357, 358, 359, 360, 551, 521, 64, 522, 417, 418, 419, 420] (by decide +kernel) (by decide +kernel)) (goodIn_sub (fun _ h => List.mem_append_right _ h) (by decide +kernel))
set_option maxRecDepth 20000 in
theorem gL_law_L_pivot : GoodIn wsL_law (va_wsS RL 76 yL_pivot wsL_pivot) := goodIn_app (goodIn_of _ (by decide +kernel)) ggL_law_L_pivot
set_option maxRecDepth 20000 in
theorem ggL_law_X7_pivot : GoodIn wsL_law wsX7_pivot := goodIn_r _ [555, 168, 435, 436, 5, 437, 886, 887, 888, 889, 890, 891, 892, 893, 894, 895, 896, 897, 898, 899, 900, 901, 902, 903, 904, 905, 906, 907, 908, 909, 910, 911, 912, 913, 914, 915, 916, 917, 918, 919, 920, 921, 922, 923, 924, 925, 926, 927, 928, 929, 930, 931, 932, 933, 934, 935, 936, 937, 938] (by decide +kernel) (by decide +kernel)
set_option maxRecDepth 20000 in
theorem gL_law_X7_pivot : GoodIn wsL_law (wsV RL 79 RX7 yX7_pivot wsX7_pivot) := goodIn_app (goodIn_of _ (by decide +kernel)) ggL_law_X7_pivot
set_option maxRecDepth 20000 in
theorem ggL_law_X6_deduce : GoodIn wsL_law wsX6_deduce := goodIn_r _ [559, 19, 268, 32, 267, 560, 561, 562, 31, 563, 92, 91, 564, 235, 236, 237, 565, 566, 567, 568, 97, 101, 569, 570, 571, 116, 117, 118, 572, 221, 23, 222, 223, 224, 225, 226, 227, 228, 229, 573, 574, 575, 576, 577, 578, 579, 580, 581, 582, 583, 93, 96, 94, 584, 585, 586, 587, 588, 589, 590, 591, 98, 592, 593, 594, 595, 596, 597, 598, 599, 600, 601, 602, 603, 604, 605, 100, 99, 606, 607, 608, 609, 336, 337, 610, 611, 612, 613, 95, 614, 615, 616, 617, 878, 879, 880, 881, 882, 883, 884, 885, 939, 940, 941, 942, 943, 944, 945, 946, 966, 967, 968, 969, 970, 971, 972, 973, 974, 975, 976, 947, 948, 949, 950, 951] (by decide +kernel) (by decide +kernel)
set_option maxRecDepth 20000 in
theorem gL_law_X6_deduce : GoodIn wsL_law (wsV RL 80 RX6 yX6_deduce wsX6_deduce) := goodIn_app (goodIn_of _ (by decide +kernel)) ggL_law_X6_deduce
set_option maxRecDepth 20000 in
theorem ggL_law_X7_deduce : GoodIn wsL_law wsX7_deduce := goodIn_r _ [621, 168, 248, 251, 159, 144, 622, 623, 624, 5, 625, 246, 143, 134, 319, 320, 321, 349, 350, 351, 352, 250, 133, 322, 323, 324, 325, 128, 626, 627, 628, 629, 146, 147, 630, 631, 632, 633, 634, 635, 636, 637, 638, 148, 639, 640, 641, 642, 643, 644, 645, 646, 647, 648, 649, 346, 347, 348, 650, 651, 652, 653, 654, 655, 656, 657, 658, 659, 660, 661, 662, 663, 145, 664, 665, 666, 667, 668, 669, 670, 326, 327, 328, 329, 249, 132, 886, 887, 888, 889, 890, 891, 892, 893, 894, 895, 896, 897, 898, 899, 900, 901, 902, 903, 904, 905, 906, 907, 908, 909, 910, 911, 912, 913, 914, 915, 916, 917, 918, 919, 920, 921, 922, 923, 924, 925, 926, 927, 928, 929, 930, 931, 932, 933, 934, 935, 936, 937, 938] (by decide +kernel) (by decide +kernel)
set_option maxRecDepth 20000 in
theorem gL_law_X7_deduce : GoodIn wsL_law (wsV RL 83 RX7 yX7_deduce wsX7_deduce) := goodIn_app (goodIn_of _ (by decide +kernel)) ggL_law_X7_deduce
set_option maxRecDepth 20000 in
theorem ggL_law_X6_row : GoodIn wsL_law wsX6_row := goodIn_r _ [674, 32, 675, 676, 677, 31, 678, 91, 679, 680, 681, 682, 93, 95, 96, 94, 878, 879, 880, 881, 882, 883, 884, 885, 966, 967, 968, 969, 970, 971, 972, 973, 974, 975, 976] (by decide +kernel) (by decide +kernel)
set_option maxRecDepth 20000 in
theorem gL_law_X6_row : GoodIn wsL_law (wsV RL 84 RX6 yX6_row wsX6_row) := goodIn_app (goodIn_of _ (by decide +kernel)) ggL_law_X6_row
