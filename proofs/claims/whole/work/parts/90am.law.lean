/-! the words that the law hands on (13) -/
set_option maxRecDepth 20000 in
theorem ggL_law_X11_areEqual : GoodIn wsL_law wsX11_areEqual := goodIn_r _ [847, 253, 254, 255, 5, 256, 147, 143, 146, 257, 258, 259, 260, 205, 206, 207, 208, 209, 210, 211, 212, 213, 214, 215, 261, 262, 263, 264, 142, 848, 849, 850, 851, 144, 145, 907, 908, 909, 910, 911, 912, 913, 914, 915, 916, 917, 918, 919, 920, 921, 922, 923, 924, 925, 926, 927, 928, 929, 930] (by decide +kernel) (by decide +kernel)
set_option maxRecDepth 20000 in
theorem gL_law_X11_areEqual : GoodIn wsL_law (wsV RL 227 RX11 yX11_areEqual wsX11_areEqual) := goodIn_app (goodIn_of _ (by decide +kernel)) ggL_law_X11_areEqual
set_option maxRecDepth 20000 in
theorem ggL_law_X10_differentSubtrees : GoodIn wsL_law wsX10_differentSubtrees := goodIn_r _ [855, 16, 856, 56, 857, 858, 659, 660, 72, 69, 71, 66, 67, 898, 899, 900, 901, 902, 903, 904, 905, 906, 931, 932, 933, 934, 935, 936, 974, 975, 976, 977, 978, 979, 980, 981, 982] (by decide +kernel) (by decide +kernel)
set_option maxRecDepth 20000 in
theorem gL_law_X10_differentSubtrees : GoodIn wsL_law (wsV RL 228 RX10 yX10_differentSubtrees wsX10_differentSubtrees) := goodIn_app (goodIn_of _ (by decide +kernel)) ggL_law_X10_differentSubtrees
set_option maxRecDepth 20000 in
theorem ggL_law_X11_differentSubtrees : GoodIn wsL_law wsX11_differentSubtrees := goodIn_r _ [862, 215, 147, 253, 254, 255, 5, 256, 143, 146, 848, 849, 850, 851, 144, 145, 907, 908, 909, 910, 911, 912, 913, 914, 915, 916, 917, 918, 919, 920, 921, 922, 923, 924, 925, 926, 927, 928, 929, 930] (by decide +kernel) (by decide +kernel)
set_option maxRecDepth 20000 in
theorem gL_law_X11_differentSubtrees : GoodIn wsL_law (wsV RL 231 RX11 yX11_differentSubtrees wsX11_differentSubtrees) := goodIn_app (goodIn_of _ (by decide +kernel)) ggL_law_X11_differentSubtrees
