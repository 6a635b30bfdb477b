/-! the words that the law hands on (4) -/
set_option maxRecDepth 20000 in
theorem ggL_law_L_kindOf : GoodIn wsL_law wsL_kindOf := goodIn_ca (goodIn_r _ [356, 166, 357, 358, 359, 2, 360, 231, 232, 233, 234, 175, 176, 177, 178, 16, 179, 180, 181, 182, 183, 974, 975, 976, 977, 978, 979, 980, 981, 982, 898, 899, 900, 901, 902, 903, 904, 905, 906, 931, 932, 933, 934, 935, 936] (by decide +kernel) (by decide +kernel)) (goodIn_sub (fun _ h => List.mem_append_left _ (List.mem_append_right _ h)) (by decide +kernel))
set_option maxRecDepth 20000 in
theorem gL_law_L_kindOf : GoodIn wsL_law (va_wsS RL 149 yL_kindOf wsL_kindOf) := goodIn_app (goodIn_of _ (by decide +kernel)) ggL_law_L_kindOf
set_option maxRecDepth 20000 in
theorem ggL_law_X11_kindOf : GoodIn wsL_law wsX11_kindOf := goodIn_r _ [364, 144, 257, 258, 259, 5, 260, 147, 205, 206, 207, 208, 209, 210, 211, 212, 213, 214, 215, 261, 262, 263, 264, 142, 907, 908, 909, 910, 911, 912, 913, 914, 915, 916, 917, 918, 919, 920, 921, 922, 923, 924, 925, 926, 927, 928, 929, 930] (by decide +kernel) (by decide +kernel)
set_option maxRecDepth 20000 in
theorem gL_law_X11_kindOf : GoodIn wsL_law (wsV RL 151 RX11 yX11_kindOf wsX11_kindOf) := goodIn_app (goodIn_of _ (by decide +kernel)) ggL_law_X11_kindOf
set_option maxRecDepth 20000 in
theorem ggL_law_L_labelOf : GoodIn wsL_law wsL_labelOf := goodIn_ca (goodIn_r _ [367, 166, 368, 369, 370, 2, 371, 231, 232, 233, 234, 175, 176, 177, 178, 16, 179, 180, 181, 182, 183, 974, 975, 976, 977, 978, 979, 980, 981, 982, 898, 899, 900, 901, 902, 903, 904, 905, 906, 931, 932, 933, 934, 935, 936] (by decide +kernel) (by decide +kernel)) (goodIn_sub (fun _ h => List.mem_append_left _ (List.mem_append_right _ h)) (by decide +kernel))
set_option maxRecDepth 20000 in
theorem gL_law_L_labelOf : GoodIn wsL_law (va_wsS RL 152 yL_labelOf wsL_labelOf) := goodIn_app (goodIn_of _ (by decide +kernel)) ggL_law_L_labelOf
set_option maxRecDepth 20000 in
theorem ggL_law_X11_labelOf : GoodIn wsL_law wsX11_labelOf := goodIn_r _ [375, 145, 257, 258, 259, 5, 260, 147, 205, 206, 207, 208, 209, 210, 211, 212, 213, 214, 215, 261, 262, 263, 264, 142, 907, 908, 909, 910, 911, 912, 913, 914, 915, 916, 917, 918, 919, 920, 921, 922, 923, 924, 925, 926, 927, 928, 929, 930] (by decide +kernel) (by decide +kernel)
set_option maxRecDepth 20000 in
theorem gL_law_X11_labelOf : GoodIn wsL_law (wsV RL 154 RX11 yX11_labelOf wsX11_labelOf) := goodIn_app (goodIn_of _ (by decide +kernel)) ggL_law_X11_labelOf
set_option maxRecDepth 20000 in
theorem ggL_law_L_children : GoodIn wsL_law wsL_children := goodIn_ca (goodIn_r _ [378, 166, 379, 380, 381, 2, 382, 231, 232, 233, 234, 175, 176, 177, 178, 16, 179, 180, 181, 182, 183, 235, 56, 236, 237, 71, 68, 69, 238, 239, 240, 241, 72, 974, 975, 976, 977, 978, 979, 980, 981, 982, 898, 899, 900, 901, 902, 903, 904, 905, 906, 931, 932, 933, 934, 935, 936] (by decide +kernel) (by decide +kernel)) (goodIn_sub (fun _ h => List.mem_append_left _ (List.mem_append_right _ h)) (by decide +kernel))
set_option maxRecDepth 20000 in
theorem gL_law_L_children : GoodIn wsL_law (va_wsS RL 155 yL_children wsL_children) := goodIn_app (goodIn_of _ (by decide +kernel)) ggL_law_L_children
set_option maxRecDepth 20000 in
theorem ggL_law_X11_children : GoodIn wsL_law wsX11_children := goodIn_r _ [386, 253, 254, 255, 5, 256, 147, 143, 146, 257, 258, 259, 260, 205, 206, 207, 208, 209, 210, 211, 212, 213, 214, 215, 261, 262, 263, 264, 142, 265, 266, 267, 268, 907, 908, 909, 910, 911, 912, 913, 914, 915, 916, 917, 918, 919, 920, 921, 922, 923, 924, 925, 926, 927, 928, 929, 930] (by decide +kernel) (by decide +kernel)
set_option maxRecDepth 20000 in
theorem gL_law_X11_children : GoodIn wsL_law (wsV RL 157 RX11 yX11_children wsX11_children) := goodIn_app (goodIn_of _ (by decide +kernel)) ggL_law_X11_children
set_option maxRecDepth 20000 in
theorem ggL_law_L_childAt : GoodIn wsL_law wsL_childAt := goodIn_ca (goodIn_r _ [389, 166, 390, 391, 392, 2, 393, 231, 232, 233, 234, 175, 176, 177, 178, 16, 179, 180, 181, 182, 183, 235, 56, 236, 237, 71, 68, 69, 238, 239, 240, 241, 72, 246, 247, 248, 974, 975, 976, 977, 978, 979, 980, 981, 982, 898, 899, 900, 901, 902, 903, 904, 905, 906, 931, 932, 933, 934, 935, 936] (by decide +kernel) (by decide +kernel)) (goodIn_sub (fun _ h => List.mem_append_left _ (List.mem_append_right _ h)) (by decide +kernel))
set_option maxRecDepth 20000 in
theorem gL_law_L_childAt : GoodIn wsL_law (va_wsS RL 158 yL_childAt wsL_childAt) := goodIn_app (goodIn_of _ (by decide +kernel)) ggL_law_L_childAt
