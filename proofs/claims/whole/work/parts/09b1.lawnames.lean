set_option maxRecDepth 20000 in
theorem gL_law_X5_tie : GoodIn wsL_law (wsV RL 86 RX5 yX5_tie wsX5_tie) := goodIn_app (goodIn_of _ (by decide +kernel)) ggL_law_X5_tie
set_option maxRecDepth 20000 in
theorem ggL_law_L_untie : GoodIn wsL_law wsL_untie := goodIn_ca (goodIn_ca (goodIn_ca (goodIn_r _ [157, 81, 82, 83, 158, 159, 160, 2, 161, 88, 89, 90, 91, 20, 29, 30, 162, 163, 164, 165, 96, 97, 25, 92, 93, 94, 95, 16, 166, 167, 168, 169, 28, 170, 171, 59, 60, 136, 19, 137, 138, 45, 801, 802, 803, 804, 805, 806, 807, 829, 830, 835, 836, 831, 832, 833, 834, 824, 825, 826, 827, 828] (by decide +kernel) (by decide +kernel)) (goodIn_sub (fun _ h => List.mem_append_left _ (List.mem_append_left _ (List.mem_append_right _ h))) (by decide +kernel))) (goodIn_sub (fun _ h => List.mem_append_left _ (List.mem_append_right _ h)) (by decide +kernel))) (goodIn_sub (fun _ h => List.mem_append_right _ h) (by decide +kernel))
set_option maxRecDepth 20000 in
theorem gL_law_L_untie : GoodIn wsL_law (va_wsS RL 87 yL_untie wsL_untie) := goodIn_app (goodIn_of _ (by decide +kernel)) ggL_law_L_untie
set_option maxRecDepth 20000 in
theorem ggL_law_X5_untie : GoodIn wsL_law wsX5_untie := goodIn_r _ [175, 108, 67, 176, 35, 73, 72, 177, 178, 179, 180, 181, 182, 183, 5, 184, 185, 114, 115, 116, 110, 111, 112, 113, 109, 117, 118, 119, 120, 151, 152, 153, 154, 150, 808, 809, 810, 811, 812, 813, 814, 815, 816, 817, 818, 819, 820, 821, 822, 823] (by decide +kernel) (by decide +kernel)
set_option maxRecDepth 20000 in
theorem gL_law_X5_untie : GoodIn wsL_law (wsV RL 90 RX5 yX5_untie wsX5_untie) := goodIn_app (goodIn_of _ (by decide +kernel)) ggL_law_X5_untie
set_option maxRecDepth 20000 in
theorem ggL_law_L_mend : GoodIn wsL_law wsL_mend := goodIn_ca (goodIn_r _ [188, 81, 189, 190, 191, 2, 192, 20, 92, 93, 94, 95, 96, 97, 16, 193, 19, 194, 195, 46, 143, 144, 145, 801, 802, 803, 804, 805, 806, 807, 824, 825, 826, 827, 828, 829, 830] (by decide +kernel) (by decide +kernel)) (goodIn_sub (fun _ h => List.mem_append_right _ h) (by decide +kernel))
set_option maxRecDepth 20000 in
theorem gL_law_L_mend : GoodIn wsL_law (va_wsS RL 91 yL_mend wsL_mend) := goodIn_app (goodIn_of _ (by decide +kernel)) ggL_law_L_mend
set_option maxRecDepth 20000 in
theorem ggL_law_X5_mend : GoodIn wsL_law wsX5_mend := goodIn_r _ [199, 108, 68, 110, 111, 112, 5, 113, 109, 114, 115, 116, 117, 118, 119, 120, 200, 201, 202, 203, 808, 809, 810, 811, 812, 813, 814, 815, 816, 817, 818, 819, 820, 821, 822, 823] (by decide +kernel) (by decide +kernel)
set_option maxRecDepth 20000 in
theorem gL_law_X5_mend : GoodIn wsL_law (wsV RL 94 RX5 yX5_mend wsX5_mend) := goodIn_app (goodIn_of _ (by decide +kernel)) ggL_law_X5_mend
set_option maxRecDepth 20000 in
theorem ggL_law_L_cord : GoodIn wsL_law wsL_cord := goodIn_ca (goodIn_r _ [206, 81, 207, 208, 209, 2, 210, 16, 20, 92, 93, 94, 95, 96, 97, 211, 212, 213, 214, 15, 215, 216, 40, 39, 38, 217, 218, 219, 220, 37, 36, 221, 222, 223, 224, 225, 226, 227, 228, 229, 230, 231, 232, 233, 136, 19, 137, 138, 45, 234, 235, 236, 237, 98, 99, 100, 238, 239, 240, 241, 193, 194, 195, 46, 801, 802, 803, 804, 805, 806, 807, 824, 825, 826, 827, 828, 829, 830] (by decide +kernel) (by decide +kernel)) (goodIn_sub (fun _ h => List.mem_append_right _ h) (by decide +kernel))
set_option maxRecDepth 20000 in
theorem gL_law_L_cord : GoodIn wsL_law (va_wsS RL 95 yL_cord wsL_cord) := goodIn_app (goodIn_of _ (by decide +kernel)) ggL_law_L_cord
set_option maxRecDepth 20000 in
theorem ggL_law_X5_cord : GoodIn wsL_law wsX5_cord := goodIn_r _ [245, 108, 110, 111, 112, 5, 113, 109, 114, 115, 116, 246, 247, 248, 249, 65, 66, 75, 74, 250, 251, 252, 253, 76, 151, 152, 153, 154, 150, 67, 254, 255, 256, 257, 258, 231, 232, 233, 121, 122, 123, 124, 200, 201, 202, 203, 68, 117, 118, 119, 120, 808, 809, 810, 811, 812, 813, 814, 815, 816, 817, 818, 819, 820, 821, 822, 823] (by decide +kernel) (by decide +kernel)
set_option maxRecDepth 20000 in
theorem gL_law_X5_cord : GoodIn wsL_law (wsV RL 97 RX5 yX5_cord wsX5_cord) := goodIn_app (goodIn_of _ (by decide +kernel)) ggL_law_X5_cord
