set_option maxRecDepth 20000 in
theorem ggL_law_X5_untying : GoodIn wsL_law wsX5_untying := goodIn_r _ [396, 108, 176, 72, 114, 115, 5, 116, 117, 118, 119, 120, 808, 809, 810, 811, 812, 813, 814, 815, 816, 817, 818, 819, 820, 821, 822, 823] (by decide +kernel) (by decide +kernel)
set_option maxRecDepth 20000 in
theorem gL_law_X5_untying : GoodIn wsL_law (wsV RL 120 RX5 yX5_untying wsX5_untying) := goodIn_app (goodIn_of _ (by decide +kernel)) ggL_law_X5_untying
set_option maxRecDepth 20000 in
theorem ggL_law_L_pass : GoodIn wsL_law wsL_pass := goodIn_ca (goodIn_r _ [399, 82, 400, 401, 402, 2, 403, 20, 16, 30, 31, 404, 405, 406, 88, 89, 407, 19, 408, 409, 410, 411, 412, 413, 45, 46, 801, 802, 803, 804, 805, 806, 807, 824, 825, 826, 827, 828, 829, 830] (by decide +kernel) (by decide +kernel)) (goodIn_sub (fun _ h => List.mem_append_left _ (List.mem_append_left _ (List.mem_append_right _ h))) (by decide +kernel))
set_option maxRecDepth 20000 in
theorem gL_law_L_pass : GoodIn wsL_law (va_wsS RL 121 yL_pass wsL_pass) := goodIn_app (goodIn_of _ (by decide +kernel)) ggL_law_L_pass
set_option maxRecDepth 20000 in
theorem ggL_law_X5_pass : GoodIn wsL_law wsX5_pass := goodIn_r _ [417, 108, 114, 115, 5, 116, 117, 118, 119, 120, 418, 419, 420, 421, 109, 67, 66, 68, 73, 808, 809, 810, 811, 812, 813, 814, 815, 816, 817, 818, 819, 820, 821, 822, 823] (by decide +kernel) (by decide +kernel)
set_option maxRecDepth 20000 in
theorem gL_law_X5_pass : GoodIn wsL_law (wsV RL 123 RX5 yX5_pass wsX5_pass) := goodIn_app (goodIn_of _ (by decide +kernel)) ggL_law_X5_pass
set_option maxRecDepth 20000 in
theorem ggL_law_L_count : GoodIn wsL_law wsL_count := goodIn_ca (goodIn_r _ [424, 81, 425, 426, 427, 2, 428, 16, 20, 211, 212, 213, 96, 97, 214, 15, 215, 216, 40, 39, 38, 217, 218, 219, 220, 37, 36, 221, 222, 223, 224, 225, 226, 227, 228, 229, 230, 231, 232, 233, 136, 19, 137, 138, 45, 429, 430, 431, 432, 30, 25, 29, 31, 433, 434, 435, 436, 437, 438, 439, 440, 238, 239, 240, 241, 98, 99, 100, 441, 442, 443, 444, 801, 802, 803, 804, 805, 806, 807, 824, 825, 826, 827, 828, 829, 830, 831, 832, 833, 834, 835, 836] (by decide +kernel) (by decide +kernel)) (goodIn_sub (fun _ h => List.mem_append_right _ h) (by decide +kernel))
set_option maxRecDepth 20000 in
theorem gL_law_L_count : GoodIn wsL_law (va_wsS RL 124 yL_count wsL_count) := goodIn_app (goodIn_of _ (by decide +kernel)) ggL_law_L_count
set_option maxRecDepth 20000 in
theorem ggL_law_X5_count_ : GoodIn wsL_law wsX5_count_ := goodIn_r _ [448, 108, 114, 115, 5, 116, 449, 450, 451, 452, 73, 109, 185, 67, 176, 65, 246, 247, 248, 249, 66, 75, 74, 250, 251, 252, 253, 76, 151, 152, 153, 154, 150, 254, 255, 256, 257, 258, 231, 232, 233, 121, 122, 123, 124, 200, 201, 202, 203, 68, 117, 118, 119, 120, 808, 809, 810, 811, 812, 813, 814, 815, 816, 817, 818, 819, 820, 821, 822, 823] (by decide +kernel) (by decide +kernel)
set_option maxRecDepth 20000 in
theorem gL_law_X5_count_ : GoodIn wsL_law (wsV RL 126 RX5 yX5_count_ wsX5_count_) := goodIn_app (goodIn_of _ (by decide +kernel)) ggL_law_X5_count_
set_option maxRecDepth 20000 in
theorem ggL_law_L_fades : GoodIn wsL_law wsL_fades := goodIn_ca (goodIn_ca (goodIn_r _ [455, 81, 82, 456, 457, 458, 2, 459, 21, 20, 16, 92, 93, 94, 95, 96, 97, 404, 405, 406, 88, 89, 460, 19, 461, 462, 45, 463, 178, 179, 180, 46, 407, 408, 409, 410, 411, 412, 413, 214, 15, 215, 216, 40, 39, 38, 217, 218, 219, 220, 37, 36, 221, 222, 223, 224, 225, 226, 227, 228, 229, 230, 231, 232, 233, 136, 137, 138, 801, 802, 803, 804, 805, 806, 807, 824, 825, 826, 827, 828, 829, 830] (by decide +kernel) (by decide +kernel)) (goodIn_sub (fun _ h => List.mem_append_right _ h) (by decide +kernel))) (goodIn_sub (fun _ h => List.mem_append_left _ (List.mem_append_left _ (List.mem_append_right _ h))) (by decide +kernel))
set_option maxRecDepth 20000 in
theorem gL_law_L_fades : GoodIn wsL_law (va_wsS RL 127 yL_fades wsL_fades) := goodIn_app (goodIn_of _ (by decide +kernel)) ggL_law_L_fades
set_option maxRecDepth 20000 in
theorem ggL_law_X5_fades : GoodIn wsL_law wsX5_fades := goodIn_r _ [467, 108, 67, 468, 469, 470, 471, 472, 473, 68, 73, 177, 178, 179, 180, 110, 111, 112, 5, 113, 109, 114, 115, 116, 117, 118, 119, 120, 418, 419, 420, 421, 66, 246, 247, 248, 249, 65, 75, 74, 250, 251, 252, 253, 76, 151, 152, 153, 154, 150, 254, 255, 256, 257, 258, 231, 232, 233, 121, 122, 123, 124, 200, 201, 202, 203, 808, 809, 810, 811, 812, 813, 814, 815, 816, 817, 818, 819, 820, 821, 822, 823] (by decide +kernel) (by decide +kernel)
