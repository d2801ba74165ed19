set_option maxRecDepth 20000 in
theorem ggL_law_L_place : GoodIn wsL_law wsL_place := goodIn_ca (goodIn_r _ [261, 81, 262, 263, 264, 2, 265, 20, 92, 93, 94, 95, 96, 97, 16, 166, 167, 168, 211, 212, 213, 801, 802, 803, 804, 805, 806, 807, 829, 830, 824, 825, 826, 827, 828] (by decide +kernel) (by decide +kernel)) (goodIn_sub (fun _ h => List.mem_append_right _ h) (by decide +kernel))
set_option maxRecDepth 20000 in
theorem gL_law_L_place : GoodIn wsL_law (va_wsS RL 98 yL_place wsL_place) := goodIn_app (goodIn_of _ (by decide +kernel)) ggL_law_L_place
set_option maxRecDepth 20000 in
theorem ggL_law_X5_place : GoodIn wsL_law wsX5_place := goodIn_r _ [269, 108, 67, 68, 110, 111, 112, 5, 113, 109, 114, 115, 116, 117, 118, 119, 120, 808, 809, 810, 811, 812, 813, 814, 815, 816, 817, 818, 819, 820, 821, 822, 823] (by decide +kernel) (by decide +kernel)
set_option maxRecDepth 20000 in
theorem gL_law_X5_place : GoodIn wsL_law (wsV RL 101 RX5 yX5_place wsX5_place) := goodIn_app (goodIn_of _ (by decide +kernel)) ggL_law_X5_place
set_option maxRecDepth 20000 in
theorem ggL_law_L_call : GoodIn wsL_law wsL_call := goodIn_ca (goodIn_r _ [272, 83, 273, 274, 275, 2, 276, 90, 91, 25, 277, 24, 278, 279, 54, 50, 280, 281, 282, 283, 52, 53, 801, 802, 803, 804, 805, 806, 807, 831, 832, 833, 834] (by decide +kernel) (by decide +kernel)) (goodIn_sub (fun _ h => List.mem_append_left _ (List.mem_append_right _ h)) (by decide +kernel))
set_option maxRecDepth 20000 in
theorem gL_law_L_call : GoodIn wsL_law (va_wsS RL 102 yL_call wsL_call) := goodIn_app (goodIn_of _ (by decide +kernel)) ggL_law_L_call
set_option maxRecDepth 20000 in
theorem ggL_law_X5_call : GoodIn wsL_law wsX5_call := goodIn_r _ [287, 108, 185, 69, 117, 118, 119, 5, 120, 808, 809, 810, 811, 812, 813, 814, 815, 816, 817, 818, 819, 820, 821, 822, 823] (by decide +kernel) (by decide +kernel)
set_option maxRecDepth 20000 in
theorem gL_law_X5_call : GoodIn wsL_law (wsV RL 105 RX5 yX5_call wsX5_call) := goodIn_app (goodIn_of _ (by decide +kernel)) ggL_law_X5_call
set_option maxRecDepth 20000 in
theorem ggL_law_L_read : GoodIn wsL_law wsL_read := goodIn_ca (goodIn_r _ [290, 81, 291, 292, 293, 2, 294, 16, 20, 25, 30, 162, 163, 164, 165, 96, 97, 92, 93, 94, 95, 214, 15, 215, 216, 40, 39, 38, 217, 218, 219, 220, 37, 36, 221, 222, 223, 224, 225, 226, 227, 228, 229, 230, 231, 232, 233, 136, 19, 137, 138, 45, 281, 24, 282, 283, 52, 53, 801, 802, 803, 804, 805, 806, 807, 824, 825, 826, 827, 828, 831, 832, 833, 834, 829, 830] (by decide +kernel) (by decide +kernel)) (goodIn_sub (fun _ h => List.mem_append_right _ h) (by decide +kernel))
set_option maxRecDepth 20000 in
theorem gL_law_L_read : GoodIn wsL_law (va_wsS RL 106 yL_read wsL_read) := goodIn_app (goodIn_of _ (by decide +kernel)) ggL_law_L_read
set_option maxRecDepth 20000 in
theorem ggL_law_X5_read : GoodIn wsL_law wsX5_read := goodIn_r _ [298, 108, 70, 71, 73, 181, 182, 183, 5, 184, 185, 114, 115, 116, 110, 111, 112, 113, 109, 117, 118, 119, 120, 246, 247, 248, 249, 65, 66, 75, 74, 250, 251, 252, 253, 76, 151, 152, 153, 154, 150, 67, 254, 255, 256, 257, 258, 231, 232, 233, 121, 122, 123, 124, 200, 201, 202, 203, 68, 808, 809, 810, 811, 812, 813, 814, 815, 816, 817, 818, 819, 820, 821, 822, 823] (by decide +kernel) (by decide +kernel)
set_option maxRecDepth 20000 in
theorem gL_law_X5_read : GoodIn wsL_law (wsV RL 108 RX5 yX5_read wsX5_read) := goodIn_app (goodIn_of _ (by decide +kernel)) ggL_law_X5_read
set_option maxRecDepth 20000 in
theorem ggL_law_L_remembers : GoodIn wsL_law wsL_remembers := goodIn_ca (goodIn_r _ [301, 81, 302, 303, 304, 2, 305, 25, 162, 163, 164, 165, 96, 97, 92, 93, 94, 95, 16, 211, 212, 213, 306, 24, 307, 308, 52, 53, 309, 310, 311, 312, 801, 802, 803, 804, 805, 806, 807, 831, 832, 833, 834, 824, 825, 826, 827, 828] (by decide +kernel) (by decide +kernel)) (goodIn_sub (fun _ h => List.mem_append_right _ h) (by decide +kernel))
