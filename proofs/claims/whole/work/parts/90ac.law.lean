/-! the words that the law hands on (3) -/
set_option maxRecDepth 20000 in
theorem ggL_law_X11_setPrices : GoodIn wsL_law wsX11_setPrices := goodIn_r _ [316, 148, 208, 209, 5, 210, 211, 212, 213, 214, 215, 907, 908, 909, 910, 911, 912, 913, 914, 915, 916, 917, 918, 919, 920, 921, 922, 923, 924, 925, 926, 927, 928, 929, 930] (by decide +kernel) (by decide +kernel)
set_option maxRecDepth 20000 in
theorem gL_law_X11_setPrices : GoodIn wsL_law (wsV RL 137 RX11 yX11_setPrices wsX11_setPrices) := goodIn_app (goodIn_of _ (by decide +kernel)) ggL_law_X11_setPrices
set_option maxRecDepth 20000 in
theorem ggL_law_L_setMovePrice : GoodIn wsL_law wsL_setMovePrice := goodIn_ca (goodIn_r _ [319, 167, 320, 321, 322, 2, 323, 16, 45, 184, 185, 186, 187, 188, 898, 899, 900, 901, 902, 903, 904, 905, 906, 931, 932, 933, 934, 935, 936] (by decide +kernel) (by decide +kernel)) (goodIn_sub (fun _ h => List.mem_append_right _ h) (by decide +kernel))
set_option maxRecDepth 20000 in
theorem gL_law_L_setMovePrice : GoodIn wsL_law (va_wsS RL 138 yL_setMovePrice wsL_setMovePrice) := goodIn_app (goodIn_of _ (by decide +kernel)) ggL_law_L_setMovePrice
set_option maxRecDepth 20000 in
theorem ggL_law_X11_setMovePrice : GoodIn wsL_law wsX11_setMovePrice := goodIn_r _ [327, 149, 208, 209, 5, 210, 211, 212, 213, 214, 215, 907, 908, 909, 910, 911, 912, 913, 914, 915, 916, 917, 918, 919, 920, 921, 922, 923, 924, 925, 926, 927, 928, 929, 930] (by decide +kernel) (by decide +kernel)
set_option maxRecDepth 20000 in
theorem gL_law_X11_setMovePrice : GoodIn wsL_law (wsV RL 141 RX11 yX11_setMovePrice wsX11_setMovePrice) := goodIn_app (goodIn_of _ (by decide +kernel)) ggL_law_X11_setMovePrice
set_option maxRecDepth 20000 in
theorem ggL_law_L_nodes : GoodIn wsL_law wsL_nodes := goodIn_ca (goodIn_r _ [330, 166, 331, 332, 333, 2, 334, 175, 176, 177, 178, 16, 179, 180, 181, 182, 183, 974, 975, 976, 977, 978, 979, 980, 981, 982, 898, 899, 900, 901, 902, 903, 904, 905, 906, 931, 932, 933, 934, 935, 936] (by decide +kernel) (by decide +kernel)) (goodIn_sub (fun _ h => List.mem_append_left _ (List.mem_append_right _ h)) (by decide +kernel))
set_option maxRecDepth 20000 in
theorem gL_law_L_nodes : GoodIn wsL_law (va_wsS RL 142 yL_nodes wsL_nodes) := goodIn_app (goodIn_of _ (by decide +kernel)) ggL_law_L_nodes
set_option maxRecDepth 20000 in
theorem ggL_law_X11_nodes : GoodIn wsL_law wsX11_nodes := goodIn_r _ [338, 147, 205, 206, 5, 207, 208, 209, 210, 211, 212, 213, 214, 215, 907, 908, 909, 910, 911, 912, 913, 914, 915, 916, 917, 918, 919, 920, 921, 922, 923, 924, 925, 926, 927, 928, 929, 930] (by decide +kernel) (by decide +kernel)
set_option maxRecDepth 20000 in
theorem gL_law_X11_nodes : GoodIn wsL_law (wsV RL 144 RX11 yX11_nodes wsX11_nodes) := goodIn_app (goodIn_of _ (by decide +kernel)) ggL_law_X11_nodes
set_option maxRecDepth 20000 in
theorem ggL_law_L_parentOf : GoodIn wsL_law wsL_parentOf := goodIn_ca (goodIn_r _ [341, 166, 342, 343, 344, 2, 345, 231, 232, 233, 234, 175, 176, 177, 178, 16, 179, 180, 181, 182, 183, 974, 975, 976, 977, 978, 979, 980, 981, 982, 898, 899, 900, 901, 902, 903, 904, 905, 906, 931, 932, 933, 934, 935, 936] (by decide +kernel) (by decide +kernel)) (goodIn_sub (fun _ h => List.mem_append_left _ (List.mem_append_right _ h)) (by decide +kernel))
set_option maxRecDepth 20000 in
theorem gL_law_L_parentOf : GoodIn wsL_law (va_wsS RL 145 yL_parentOf wsL_parentOf) := goodIn_app (goodIn_of _ (by decide +kernel)) ggL_law_L_parentOf
set_option maxRecDepth 20000 in
theorem ggL_law_X11_parentOf : GoodIn wsL_law wsX11_parentOf := goodIn_r _ [349, 142, 257, 258, 259, 5, 260, 147, 205, 206, 207, 208, 209, 210, 211, 212, 213, 214, 215, 261, 262, 263, 264, 350, 351, 352, 353, 143, 907, 908, 909, 910, 911, 912, 913, 914, 915, 916, 917, 918, 919, 920, 921, 922, 923, 924, 925, 926, 927, 928, 929, 930] (by decide +kernel) (by decide +kernel)
set_option maxRecDepth 20000 in
theorem gL_law_X11_parentOf : GoodIn wsL_law (wsV RL 148 RX11 yX11_parentOf wsX11_parentOf) := goodIn_app (goodIn_of _ (by decide +kernel)) ggL_law_X11_parentOf
