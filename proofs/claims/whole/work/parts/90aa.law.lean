/-! the words that the law hands on (1) -/
set_option maxRecDepth 20000 in
theorem ggL_law_X10_init : GoodIn wsL_law wsX10_init := goodIn_r _ [9, 10, 11, 12, 13, 14, 15, 16, 17, 18, 19, 20, 21, 22, 23, 24, 25, 26, 27, 28, 29, 30, 31, 32, 33, 34, 35, 36, 37, 38, 39, 40, 41, 42, 43, 44, 45, 46, 47, 48, 49, 50, 51, 52, 53, 54, 55, 56, 57, 58, 59, 60, 61, 62, 63, 64, 65, 66, 67, 68, 69, 70, 71, 72, 73, 74, 75, 76, 77, 78, 79, 80, 81, 82, 83, 84, 85, 86, 87, 88, 89, 90, 91, 92, 93, 94, 95, 96, 97, 98, 99, 100, 101, 102, 103, 104, 105, 106, 107, 108, 109, 110, 111, 112, 113, 114, 115, 116, 117, 118, 119, 120, 121, 122, 123, 124, 125, 126, 127, 128, 129, 130, 131, 132, 133, 134, 135, 136, 137, 931, 932, 933, 934, 935, 936, 898, 899, 900, 901, 902, 903, 904, 905, 906, 937, 938, 939, 940, 941, 942, 943, 944, 945, 946, 947, 948, 949, 950, 951, 952, 953, 954, 955, 956, 957, 958, 959, 960, 961, 962, 963, 964, 965, 966, 967, 968, 969, 970, 971, 972, 973, 974, 975, 976, 977, 978, 979, 980, 981, 982, 983, 984, 985, 986, 987, 988] (by decide +kernel) (by decide +kernel)
set_option maxRecDepth 20000 in
theorem gL_law_X10_init : GoodIn wsL_law (wsX10_init) := ggL_law_X10_init
set_option maxRecDepth 20000 in
theorem ggL_law_X11_init : GoodIn wsL_law wsX11_init := goodIn_r _ [140, 141, 11, 12, 49, 142, 143, 144, 145, 146, 147, 148, 149, 150, 151, 152, 89, 153, 154, 155, 156, 157, 158, 159, 160, 161, 907, 908, 909, 910, 911, 912, 913, 914, 915, 916, 917, 918, 919, 920, 921, 922, 923, 924, 925, 926, 927, 928, 929, 930] (by decide +kernel) (by decide +kernel)
set_option maxRecDepth 20000 in
theorem gL_law_X11_init : GoodIn wsL_law (wsX11_init) := ggL_law_X11_init
set_option maxRecDepth 20000 in
theorem ggL_law_L_addRoot : GoodIn wsL_law wsL_addRoot := goodIn_ca (goodIn_ca (goodIn_ca (goodIn_r _ [165, 166, 167, 168, 169, 170, 171, 2, 172, 173, 174, 45, 175, 176, 177, 178, 16, 179, 180, 181, 182, 183, 184, 185, 186, 187, 188, 189, 56, 190, 191, 192, 69, 68, 66, 67, 193, 194, 195, 196, 71, 72, 73, 70, 197, 198, 199, 200, 974, 975, 976, 977, 978, 979, 980, 981, 982, 898, 899, 900, 901, 902, 903, 904, 905, 906, 931, 932, 933, 934, 935, 936] (by decide +kernel) (by decide +kernel)) (goodIn_sub (fun _ h => List.mem_append_left _ (List.mem_append_left _ (List.mem_append_right _ h))) (by decide +kernel))) (goodIn_sub (fun _ h => List.mem_append_left _ (List.mem_append_right _ h)) (by decide +kernel))) (goodIn_sub (fun _ h => List.mem_append_right _ h) (by decide +kernel))
set_option maxRecDepth 20000 in
theorem gL_law_L_addRoot : GoodIn wsL_law (va_wsS RL 108 yL_addRoot wsL_addRoot) := goodIn_app (goodIn_of _ (by decide +kernel)) ggL_law_L_addRoot
set_option maxRecDepth 20000 in
theorem ggL_law_X11_addRoot : GoodIn wsL_law wsX11_addRoot := goodIn_r _ [204, 147, 205, 206, 5, 207, 208, 209, 210, 211, 212, 213, 214, 215, 216, 217, 218, 219, 142, 143, 144, 145, 907, 908, 909, 910, 911, 912, 913, 914, 915, 916, 917, 918, 919, 920, 921, 922, 923, 924, 925, 926, 927, 928, 929, 930] (by decide +kernel) (by decide +kernel)
set_option maxRecDepth 20000 in
theorem gL_law_X11_addRoot : GoodIn wsL_law (wsV RL 113 RX11 yX11_addRoot wsX11_addRoot) := goodIn_app (goodIn_of _ (by decide +kernel)) ggL_law_X11_addRoot
set_option maxRecDepth 20000 in
theorem ggL_law_X11_thrown : GoodIn wsL_law wsX11_thrown := goodIn_r _ [223, 215, 907, 908, 909, 910, 911, 912, 913, 914, 915, 916, 917, 918, 919, 920, 921, 922, 923, 924, 925, 926, 927, 928, 929, 930] (by decide +kernel) (by decide +kernel)
set_option maxRecDepth 20000 in
theorem gL_law_X11_thrown : GoodIn wsL_law (wsV RL 114 RX11 yX11_thrown wsX11_thrown) := goodIn_app (goodIn_of _ (by decide +kernel)) ggL_law_X11_thrown
set_option maxRecDepth 20000 in
theorem ggL_law_L_add : GoodIn wsL_law wsL_add := goodIn_ca (goodIn_ca (goodIn_ca (goodIn_r _ [226, 166, 167, 168, 227, 228, 229, 2, 230, 173, 174, 45, 231, 232, 233, 234, 175, 176, 177, 178, 16, 179, 180, 181, 182, 183, 235, 56, 236, 237, 71, 68, 69, 238, 239, 240, 241, 72, 184, 185, 186, 187, 188, 242, 243, 244, 245, 246, 247, 248, 189, 190, 191, 192, 66, 67, 193, 194, 195, 196, 73, 70, 197, 198, 199, 200, 974, 975, 976, 977, 978, 979, 980, 981, 982, 898, 899, 900, 901, 902, 903, 904, 905, 906, 931, 932, 933, 934, 935, 936] (by decide +kernel) (by decide +kernel)) (goodIn_sub (fun _ h => List.mem_append_left _ (List.mem_append_left _ (List.mem_append_right _ h))) (by decide +kernel))) (goodIn_sub (fun _ h => List.mem_append_left _ (List.mem_append_right _ h)) (by decide +kernel))) (goodIn_sub (fun _ h => List.mem_append_right _ h) (by decide +kernel))
set_option maxRecDepth 20000 in
theorem gL_law_L_add : GoodIn wsL_law (va_wsS RL 118 yL_add wsL_add) := goodIn_app (goodIn_of _ (by decide +kernel)) ggL_law_L_add
set_option maxRecDepth 20000 in
theorem ggL_law_X11_add : GoodIn wsL_law wsX11_add := goodIn_r _ [252, 147, 143, 253, 254, 255, 5, 256, 146, 257, 258, 259, 260, 205, 206, 207, 208, 209, 210, 261, 262, 263, 264, 142, 265, 266, 267, 268, 211, 212, 213, 214, 215, 269, 270, 271, 272, 216, 217, 218, 219, 144, 145, 907, 908, 909, 910, 911, 912, 913, 914, 915, 916, 917, 918, 919, 920, 921, 922, 923, 924, 925, 926, 927, 928, 929, 930] (by decide +kernel) (by decide +kernel)
set_option maxRecDepth 20000 in
theorem gL_law_X11_add : GoodIn wsL_law (wsV RL 121 RX11 yX11_add wsX11_add) := goodIn_app (goodIn_of _ (by decide +kernel)) ggL_law_X11_add
