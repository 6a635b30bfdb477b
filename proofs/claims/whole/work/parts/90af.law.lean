/-! the words that the law hands on (6) -/
set_option maxRecDepth 20000 in
theorem ggL_law_L_isKeyroot : GoodIn wsL_law wsL_isKeyroot := goodIn_ca (goodIn_r _ [437, 166, 438, 439, 440, 2, 441, 231, 232, 233, 234, 175, 176, 177, 178, 16, 179, 180, 181, 182, 183, 442, 56, 443, 444, 68, 71, 974, 975, 976, 977, 978, 979, 980, 981, 982, 898, 899, 900, 901, 902, 903, 904, 905, 906, 931, 932, 933, 934, 935, 936] (by decide +kernel) (by decide +kernel)) (goodIn_sub (fun _ h => List.mem_append_left _ (List.mem_append_right _ h)) (by decide +kernel))
set_option maxRecDepth 20000 in
theorem gL_law_L_isKeyroot : GoodIn wsL_law (va_wsS RL 170 yL_isKeyroot wsL_isKeyroot) := goodIn_app (goodIn_of _ (by decide +kernel)) ggL_law_L_isKeyroot
set_option maxRecDepth 20000 in
theorem ggL_law_X11_isKeyroot : GoodIn wsL_law wsX11_isKeyroot := goodIn_r _ [448, 143, 257, 258, 259, 5, 260, 147, 205, 206, 207, 208, 209, 210, 211, 212, 213, 214, 215, 261, 262, 263, 264, 142, 907, 908, 909, 910, 911, 912, 913, 914, 915, 916, 917, 918, 919, 920, 921, 922, 923, 924, 925, 926, 927, 928, 929, 930] (by decide +kernel) (by decide +kernel)
set_option maxRecDepth 20000 in
theorem gL_law_X11_isKeyroot : GoodIn wsL_law (wsV RL 172 RX11 yX11_isKeyroot wsX11_isKeyroot) := goodIn_app (goodIn_of _ (by decide +kernel)) ggL_law_X11_isKeyroot
set_option maxRecDepth 20000 in
theorem ggL_law_X10_distance : GoodIn wsL_law wsX10_distance := goodIn_r _ [452, 20, 24, 453, 19, 454, 455, 456, 457, 458, 459, 80, 83, 81, 82, 460, 79, 461, 462, 463, 87, 88, 90, 91, 92, 442, 56, 443, 444, 68, 71, 464, 15, 465, 466, 57, 58, 467, 52, 468, 23, 469, 470, 98, 471, 472, 473, 474, 97, 475, 476, 477, 478, 479, 480, 481, 482, 96, 483, 484, 485, 486, 487, 488, 489, 490, 491, 492, 493, 494, 495, 898, 899, 900, 901, 902, 903, 904, 905, 906, 937, 938, 939, 940, 931, 932, 933, 934, 935, 936, 983, 984, 985, 986, 987, 988, 974, 975, 976, 977, 978, 979, 980, 981, 982, 941, 942, 943] (by decide +kernel) (by decide +kernel)
set_option maxRecDepth 20000 in
theorem gL_law_X10_distance : GoodIn wsL_law (wsV RL 173 RX10 yX10_distance wsX10_distance) := goodIn_app (goodIn_of _ (by decide +kernel)) ggL_law_X10_distance
set_option maxRecDepth 20000 in
theorem ggL_law_X11_distance : GoodIn wsL_law wsX11_distance := goodIn_r _ [499, 215, 500, 501, 502, 5, 503, 147, 150, 504, 253, 254, 255, 256, 143, 146, 505, 506, 507, 508, 509, 510, 511, 512, 513, 514, 515, 148, 144, 516, 517, 518, 519, 520, 521, 522, 523, 524, 525, 526, 145, 907, 908, 909, 910, 911, 912, 913, 914, 915, 916, 917, 918, 919, 920, 921, 922, 923, 924, 925, 926, 927, 928, 929, 930] (by decide +kernel) (by decide +kernel)
set_option maxRecDepth 20000 in
theorem gL_law_X11_distance : GoodIn wsL_law (wsV RL 176 RX11 yX11_distance wsX11_distance) := goodIn_app (goodIn_of _ (by decide +kernel)) ggL_law_X11_distance
set_option maxRecDepth 20000 in
theorem ggL_law_X10_distanceByForests : GoodIn wsL_law wsX10_distanceByForests := goodIn_r _ [530, 20, 28, 453, 19, 454, 455, 456, 457, 458, 459, 80, 83, 81, 82, 460, 79, 461, 462, 463, 87, 88, 90, 91, 92, 442, 56, 443, 444, 68, 71, 464, 15, 465, 466, 57, 58, 467, 52, 531, 27, 532, 533, 102, 534, 60, 61, 62, 535, 536, 103, 537, 480, 481, 482, 538, 489, 490, 491, 539, 898, 899, 900, 901, 902, 903, 904, 905, 906, 937, 938, 939, 940, 983, 984, 985, 986, 987, 988, 931, 932, 933, 934, 935, 936, 974, 975, 976, 977, 978, 979, 980, 981, 982, 944, 945] (by decide +kernel) (by decide +kernel)
set_option maxRecDepth 20000 in
theorem gL_law_X10_distanceByForests : GoodIn wsL_law (wsV RL 177 RX10 yX10_distanceByForests wsX10_distanceByForests) := goodIn_app (goodIn_of _ (by decide +kernel)) ggL_law_X10_distanceByForests
set_option maxRecDepth 20000 in
theorem ggL_law_X11_distanceByForests : GoodIn wsL_law wsX11_distanceByForests := goodIn_r _ [543, 544, 497, 498, 5, 499, 215, 500, 501, 502, 503, 147, 150, 504, 253, 254, 255, 256, 143, 146, 505, 506, 507, 508, 509, 510, 511, 512, 513, 514, 515, 148, 144, 516, 517, 518, 519, 520, 521, 522, 523, 524, 525, 526, 145, 907, 908, 909, 910, 911, 912, 913, 914, 915, 916, 917, 918, 919, 920, 921, 922, 923, 924, 925, 926, 927, 928, 929, 930] (by decide +kernel) (by decide +kernel)
set_option maxRecDepth 20000 in
theorem gL_law_X11_distanceByForests : GoodIn wsL_law (wsV RL 180 RX11 yX11_distanceByForests wsX11_distanceByForests) := goodIn_app (goodIn_of _ (by decide +kernel)) ggL_law_X11_distanceByForests
set_option maxRecDepth 20000 in
theorem ggL_law_L_subtreeDistance : GoodIn wsL_law wsL_subtreeDistance := goodIn_ca (goodIn_r _ [547, 166, 548, 549, 550, 2, 551, 20, 24, 16, 552, 553, 554, 555, 179, 180, 181, 182, 183, 453, 19, 454, 455, 456, 457, 458, 459, 80, 83, 81, 82, 460, 79, 461, 462, 463, 87, 88, 90, 91, 92, 442, 56, 443, 444, 68, 71, 464, 15, 465, 466, 57, 58, 467, 52, 468, 23, 469, 470, 98, 471, 472, 473, 474, 97, 475, 476, 477, 478, 479, 480, 481, 482, 96, 198, 199, 200, 73, 72, 493, 494, 495, 898, 899, 900, 901, 902, 903, 904, 905, 906, 931, 932, 933, 934, 935, 936, 974, 975, 976, 977, 978, 979, 980, 981, 982, 937, 938, 939, 940, 983, 984, 985, 986, 987, 988, 941, 942, 943] (by decide +kernel) (by decide +kernel)) (goodIn_sub (fun _ h => List.mem_append_left _ (List.mem_append_right _ h)) (by decide +kernel))
set_option maxRecDepth 20000 in
theorem gL_law_L_subtreeDistance : GoodIn wsL_law (va_wsS RL 181 yL_subtreeDistance wsL_subtreeDistance) := goodIn_app (goodIn_of _ (by decide +kernel)) ggL_law_L_subtreeDistance
