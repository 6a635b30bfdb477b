/-! the words that the law hands on (5) -/
set_option maxRecDepth 20000 in
theorem ggL_law_X11_childAt : GoodIn wsL_law wsX11_childAt := goodIn_r _ [397, 142, 253, 254, 255, 5, 256, 147, 143, 146, 257, 258, 259, 260, 205, 206, 207, 208, 209, 210, 261, 262, 263, 264, 265, 266, 267, 268, 211, 212, 213, 214, 215, 269, 270, 271, 272, 907, 908, 909, 910, 911, 912, 913, 914, 915, 916, 917, 918, 919, 920, 921, 922, 923, 924, 925, 926, 927, 928, 929, 930] (by decide +kernel) (by decide +kernel)
set_option maxRecDepth 20000 in
theorem gL_law_X11_childAt : GoodIn wsL_law (wsV RL 160 RX11 yX11_childAt wsX11_childAt) := goodIn_app (goodIn_of _ (by decide +kernel)) ggL_law_X11_childAt
set_option maxRecDepth 20000 in
theorem ggL_law_L_inPreorder : GoodIn wsL_law wsL_inPreorder := goodIn_ca (goodIn_r _ [400, 166, 401, 402, 403, 2, 404, 175, 176, 177, 178, 16, 179, 180, 181, 182, 183, 974, 975, 976, 977, 978, 979, 980, 981, 982, 898, 899, 900, 901, 902, 903, 904, 905, 906, 931, 932, 933, 934, 935, 936] (by decide +kernel) (by decide +kernel)) (goodIn_sub (fun _ h => List.mem_append_left _ (List.mem_append_right _ h)) (by decide +kernel))
set_option maxRecDepth 20000 in
theorem gL_law_L_inPreorder : GoodIn wsL_law (va_wsS RL 161 yL_inPreorder wsL_inPreorder) := goodIn_app (goodIn_of _ (by decide +kernel)) ggL_law_L_inPreorder
set_option maxRecDepth 20000 in
theorem ggL_law_X11_inPreorder : GoodIn wsL_law wsX11_inPreorder := goodIn_r _ [408, 142, 257, 258, 259, 5, 260, 147, 205, 206, 207, 208, 209, 210, 211, 212, 213, 214, 215, 907, 908, 909, 910, 911, 912, 913, 914, 915, 916, 917, 918, 919, 920, 921, 922, 923, 924, 925, 926, 927, 928, 929, 930] (by decide +kernel) (by decide +kernel)
set_option maxRecDepth 20000 in
theorem gL_law_X11_inPreorder : GoodIn wsL_law (wsV RL 163 RX11 yX11_inPreorder wsX11_inPreorder) := goodIn_app (goodIn_of _ (by decide +kernel)) ggL_law_X11_inPreorder
set_option maxRecDepth 20000 in
theorem ggL_law_L_inPostorder : GoodIn wsL_law wsL_inPostorder := goodIn_ca (goodIn_r _ [411, 166, 412, 413, 414, 2, 415, 175, 176, 177, 178, 16, 179, 180, 181, 182, 183, 974, 975, 976, 977, 978, 979, 980, 981, 982, 898, 899, 900, 901, 902, 903, 904, 905, 906, 931, 932, 933, 934, 935, 936] (by decide +kernel) (by decide +kernel)) (goodIn_sub (fun _ h => List.mem_append_left _ (List.mem_append_right _ h)) (by decide +kernel))
set_option maxRecDepth 20000 in
theorem gL_law_L_inPostorder : GoodIn wsL_law (va_wsS RL 164 yL_inPostorder wsL_inPostorder) := goodIn_app (goodIn_of _ (by decide +kernel)) ggL_law_L_inPostorder
set_option maxRecDepth 20000 in
theorem ggL_law_X11_inPostorder : GoodIn wsL_law wsX11_inPostorder := goodIn_r _ [419, 142, 253, 254, 255, 5, 256, 147, 143, 146, 257, 258, 259, 260, 205, 206, 207, 208, 209, 210, 211, 212, 213, 214, 215, 420, 421, 422, 423, 907, 908, 909, 910, 911, 912, 913, 914, 915, 916, 917, 918, 919, 920, 921, 922, 923, 924, 925, 926, 927, 928, 929, 930] (by decide +kernel) (by decide +kernel)
set_option maxRecDepth 20000 in
theorem gL_law_X11_inPostorder : GoodIn wsL_law (wsV RL 166 RX11 yX11_inPostorder wsX11_inPostorder) := goodIn_app (goodIn_of _ (by decide +kernel)) ggL_law_X11_inPostorder
set_option maxRecDepth 20000 in
theorem ggL_law_L_subtreeSize : GoodIn wsL_law wsL_subtreeSize := goodIn_ca (goodIn_r _ [426, 166, 427, 428, 429, 2, 430, 231, 232, 233, 234, 175, 176, 177, 178, 16, 179, 180, 181, 182, 183, 974, 975, 976, 977, 978, 979, 980, 981, 982, 898, 899, 900, 901, 902, 903, 904, 905, 906, 931, 932, 933, 934, 935, 936] (by decide +kernel) (by decide +kernel)) (goodIn_sub (fun _ h => List.mem_append_left _ (List.mem_append_right _ h)) (by decide +kernel))
set_option maxRecDepth 20000 in
theorem gL_law_L_subtreeSize : GoodIn wsL_law (va_wsS RL 167 yL_subtreeSize wsL_subtreeSize) := goodIn_app (goodIn_of _ (by decide +kernel)) ggL_law_L_subtreeSize
set_option maxRecDepth 20000 in
theorem ggL_law_X11_subtreeSize : GoodIn wsL_law wsX11_subtreeSize := goodIn_r _ [434, 146, 253, 254, 255, 5, 256, 147, 143, 257, 258, 259, 260, 205, 206, 207, 208, 209, 210, 211, 212, 213, 214, 215, 261, 262, 263, 264, 142, 907, 908, 909, 910, 911, 912, 913, 914, 915, 916, 917, 918, 919, 920, 921, 922, 923, 924, 925, 926, 927, 928, 929, 930] (by decide +kernel) (by decide +kernel)
set_option maxRecDepth 20000 in
theorem gL_law_X11_subtreeSize : GoodIn wsL_law (wsV RL 169 RX11 yX11_subtreeSize wsX11_subtreeSize) := goodIn_app (goodIn_of _ (by decide +kernel)) ggL_law_X11_subtreeSize
