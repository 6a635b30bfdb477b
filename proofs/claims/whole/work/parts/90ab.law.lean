/-! the words that the law hands on (2) -/
set_option maxRecDepth 20000 in
theorem ggL_law_L_setLabel : GoodIn wsL_law wsL_setLabel := goodIn_ca (goodIn_ca (goodIn_r _ [275, 166, 167, 276, 277, 278, 2, 279, 45, 231, 232, 233, 234, 175, 176, 177, 178, 16, 179, 180, 181, 182, 183, 184, 185, 186, 187, 188, 974, 975, 976, 977, 978, 979, 980, 981, 982, 898, 899, 900, 901, 902, 903, 904, 905, 906, 931, 932, 933, 934, 935, 936] (by decide +kernel) (by decide +kernel)) (goodIn_sub (fun _ h => List.mem_append_left _ (List.mem_append_right _ h)) (by decide +kernel))) (goodIn_sub (fun _ h => List.mem_append_right _ h) (by decide +kernel))
set_option maxRecDepth 20000 in
theorem gL_law_L_setLabel : GoodIn wsL_law (va_wsS RL 122 yL_setLabel wsL_setLabel) := goodIn_app (goodIn_of _ (by decide +kernel)) ggL_law_L_setLabel
set_option maxRecDepth 20000 in
theorem ggL_law_X11_setLabel : GoodIn wsL_law wsX11_setLabel := goodIn_r _ [283, 145, 257, 258, 259, 5, 260, 147, 205, 206, 207, 208, 209, 210, 211, 212, 213, 214, 215, 261, 262, 263, 264, 142, 907, 908, 909, 910, 911, 912, 913, 914, 915, 916, 917, 918, 919, 920, 921, 922, 923, 924, 925, 926, 927, 928, 929, 930] (by decide +kernel) (by decide +kernel)
set_option maxRecDepth 20000 in
theorem gL_law_X11_setLabel : GoodIn wsL_law (wsV RL 125 RX11 yX11_setLabel wsX11_setLabel) := goodIn_app (goodIn_of _ (by decide +kernel)) ggL_law_X11_setLabel
set_option maxRecDepth 20000 in
theorem ggL_law_L_clear : GoodIn wsL_law wsL_clear := goodIn_ca (goodIn_r _ [286, 166, 287, 288, 289, 2, 290, 45, 175, 176, 177, 178, 16, 179, 180, 181, 182, 183, 974, 975, 976, 977, 978, 979, 980, 981, 982, 898, 899, 900, 901, 902, 903, 904, 905, 906, 931, 932, 933, 934, 935, 936] (by decide +kernel) (by decide +kernel)) (goodIn_sub (fun _ h => List.mem_append_left _ (List.mem_append_right _ h)) (by decide +kernel))
set_option maxRecDepth 20000 in
theorem gL_law_L_clear : GoodIn wsL_law (va_wsS RL 126 yL_clear wsL_clear) := goodIn_app (goodIn_of _ (by decide +kernel)) ggL_law_L_clear
set_option maxRecDepth 20000 in
theorem ggL_law_X11_clear : GoodIn wsL_law wsX11_clear := goodIn_r _ [294, 147, 205, 206, 5, 207, 208, 209, 210, 211, 212, 213, 214, 215, 907, 908, 909, 910, 911, 912, 913, 914, 915, 916, 917, 918, 919, 920, 921, 922, 923, 924, 925, 926, 927, 928, 929, 930] (by decide +kernel) (by decide +kernel)
set_option maxRecDepth 20000 in
theorem gL_law_X11_clear : GoodIn wsL_law (wsV RL 129 RX11 yX11_clear wsX11_clear) := goodIn_app (goodIn_of _ (by decide +kernel)) ggL_law_X11_clear
set_option maxRecDepth 20000 in
theorem ggL_law_X10_swapTrees : GoodIn wsL_law wsX10_swapTrees := goodIn_r _ [298, 16, 45, 898, 899, 900, 901, 902, 903, 904, 905, 906, 931, 932, 933, 934, 935, 936] (by decide +kernel) (by decide +kernel)
set_option maxRecDepth 20000 in
theorem gL_law_X10_swapTrees : GoodIn wsL_law (wsV RL 130 RX10 yX10_swapTrees wsX10_swapTrees) := goodIn_app (goodIn_of _ (by decide +kernel)) ggL_law_X10_swapTrees
set_option maxRecDepth 20000 in
theorem ggL_law_X11_swapTrees : GoodIn wsL_law wsX11_swapTrees := goodIn_r _ [302, 215, 142, 143, 144, 145, 147, 303, 304, 5, 305, 907, 908, 909, 910, 911, 912, 913, 914, 915, 916, 917, 918, 919, 920, 921, 922, 923, 924, 925, 926, 927, 928, 929, 930] (by decide +kernel) (by decide +kernel)
set_option maxRecDepth 20000 in
theorem gL_law_X11_swapTrees : GoodIn wsL_law (wsV RL 133 RX11 yX11_swapTrees wsX11_swapTrees) := goodIn_app (goodIn_of _ (by decide +kernel)) ggL_law_X11_swapTrees
set_option maxRecDepth 20000 in
theorem ggL_law_L_setPrices : GoodIn wsL_law wsL_setPrices := goodIn_ca (goodIn_ca (goodIn_r _ [308, 166, 167, 309, 310, 311, 2, 312, 16, 45, 179, 180, 181, 182, 183, 184, 185, 186, 187, 188, 898, 899, 900, 901, 902, 903, 904, 905, 906, 931, 932, 933, 934, 935, 936] (by decide +kernel) (by decide +kernel)) (goodIn_sub (fun _ h => List.mem_append_left _ (List.mem_append_right _ h)) (by decide +kernel))) (goodIn_sub (fun _ h => List.mem_append_right _ h) (by decide +kernel))
set_option maxRecDepth 20000 in
theorem gL_law_L_setPrices : GoodIn wsL_law (va_wsS RL 134 yL_setPrices wsL_setPrices) := goodIn_app (goodIn_of _ (by decide +kernel)) ggL_law_L_setPrices
