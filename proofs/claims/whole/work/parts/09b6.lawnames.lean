set_option maxRecDepth 20000 in
theorem ggL_law_X4_mean : GoodIn wsL_law wsX4_mean := goodIn_r _ [772, 25, 801, 802, 803, 804, 805, 806, 807, 831, 832, 833, 834] (by decide +kernel) (by decide +kernel)
set_option maxRecDepth 20000 in
theorem gL_law_X4_mean : GoodIn wsL_law (wsV RL 140 RX4 yX4_mean wsX4_mean) := goodIn_app (goodIn_of _ (by decide +kernel)) ggL_law_X4_mean
set_option maxRecDepth 20000 in
theorem ggL_law_X5_mean : GoodIn wsL_law wsX5_mean := goodIn_r _ [776, 108, 185, 69, 808, 809, 810, 811, 812, 813, 814, 815, 816, 817, 818, 819, 820, 821, 822, 823] (by decide +kernel) (by decide +kernel)
set_option maxRecDepth 20000 in
theorem gL_law_X5_mean : GoodIn wsL_law (wsV RL 144 RX5 yX5_mean wsX5_mean) := goodIn_app (goodIn_of _ (by decide +kernel)) ggL_law_X5_mean
set_option maxRecDepth 20000 in
theorem ggL_law_X4_digest : GoodIn wsL_law wsX4_digest := goodIn_r _ [780, 16, 20, 781, 782, 214, 15, 215, 216, 40, 39, 38, 217, 218, 219, 220, 37, 36, 221, 222, 223, 224, 225, 226, 227, 228, 229, 230, 231, 232, 233, 136, 19, 137, 138, 45, 429, 430, 431, 2, 432, 30, 25, 29, 31, 433, 434, 435, 436, 437, 438, 439, 440, 238, 239, 240, 241, 98, 99, 100, 441, 442, 443, 444, 783, 784, 785, 786, 234, 235, 236, 237, 193, 194, 195, 46, 787, 788, 789, 790, 306, 24, 307, 308, 52, 53, 309, 310, 311, 312, 791, 792, 793, 794, 801, 802, 803, 804, 805, 806, 807, 824, 825, 826, 827, 828, 829, 830, 831, 832, 833, 834, 835, 836] (by decide +kernel) (by decide +kernel)
set_option maxRecDepth 20000 in
theorem gL_law_X4_digest : GoodIn wsL_law (wsV RL 145 RX4 yX4_digest wsX4_digest) := goodIn_app (goodIn_of _ (by decide +kernel)) ggL_law_X4_digest
set_option maxRecDepth 20000 in
theorem ggL_law_X5_digest : GoodIn wsL_law wsX5_digest := goodIn_r _ [798, 108, 799, 800, 109, 67, 68, 185, 69, 176, 72, 449, 450, 451, 5, 452, 73, 65, 246, 247, 248, 249, 66, 75, 74, 250, 251, 252, 253, 76, 151, 152, 153, 154, 150, 254, 255, 256, 257, 258, 231, 232, 233, 121, 122, 123, 124, 200, 201, 202, 203, 317, 318, 319, 320, 70, 71, 321, 322, 323, 324, 808, 809, 810, 811, 812, 813, 814, 815, 816, 817, 818, 819, 820, 821, 822, 823] (by decide +kernel) (by decide +kernel)
set_option maxRecDepth 20000 in
theorem gL_law_X5_digest : GoodIn wsL_law (wsV RL 149 RX5 yX5_digest wsX5_digest) := goodIn_app (goodIn_of _ (by decide +kernel)) ggL_law_X5_digest
