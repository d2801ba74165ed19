set_option maxRecDepth 20000 in
theorem gL_law_L_remembers : GoodIn wsL_law (va_wsS RL 109 yL_remembers wsL_remembers) := goodIn_app (goodIn_of _ (by decide +kernel)) ggL_law_L_remembers
set_option maxRecDepth 20000 in
theorem ggL_law_X5_remembers : GoodIn wsL_law wsX5_remembers := goodIn_r _ [316, 108, 181, 182, 183, 5, 184, 185, 114, 115, 116, 110, 111, 112, 113, 109, 317, 318, 319, 320, 70, 71, 321, 322, 323, 324, 117, 118, 119, 120, 808, 809, 810, 811, 812, 813, 814, 815, 816, 817, 818, 819, 820, 821, 822, 823] (by decide +kernel) (by decide +kernel)
set_option maxRecDepth 20000 in
theorem gL_law_X5_remembers : GoodIn wsL_law (wsV RL 111 RX5 yX5_remembers wsX5_remembers) := goodIn_app (goodIn_of _ (by decide +kernel)) ggL_law_X5_remembers
set_option maxRecDepth 20000 in
theorem ggL_law_L_trust : GoodIn wsL_law wsL_trust := goodIn_ca (goodIn_r _ [327, 81, 328, 329, 330, 2, 331, 25, 162, 163, 164, 165, 96, 97, 801, 802, 803, 804, 805, 806, 807, 831, 832, 833, 834] (by decide +kernel) (by decide +kernel)) (goodIn_sub (fun _ h => List.mem_append_right _ h) (by decide +kernel))
set_option maxRecDepth 20000 in
theorem gL_law_L_trust : GoodIn wsL_law (va_wsS RL 112 yL_trust wsL_trust) := goodIn_app (goodIn_of _ (by decide +kernel)) ggL_law_L_trust
set_option maxRecDepth 20000 in
theorem ggL_law_X5_trust : GoodIn wsL_law wsX5_trust := goodIn_r _ [335, 108, 69, 181, 182, 183, 5, 184, 185, 114, 115, 116, 117, 118, 119, 120, 808, 809, 810, 811, 812, 813, 814, 815, 816, 817, 818, 819, 820, 821, 822, 823] (by decide +kernel) (by decide +kernel)
set_option maxRecDepth 20000 in
theorem gL_law_X5_trust : GoodIn wsL_law (wsV RL 114 RX5 yX5_trust wsX5_trust) := goodIn_app (goodIn_of _ (by decide +kernel)) ggL_law_X5_trust
set_option maxRecDepth 20000 in
theorem ggL_law_L_dispute : GoodIn wsL_law wsL_dispute := goodIn_ca (goodIn_ca (goodIn_r _ [338, 81, 83, 339, 340, 341, 2, 342, 90, 91, 25, 92, 93, 94, 95, 96, 97, 16, 343, 24, 344, 345, 54, 309, 310, 311, 312, 53, 346, 347, 348, 349, 52, 350, 351, 352, 353, 50, 354, 355, 356, 357, 358, 359, 360, 361, 362, 363, 364, 365, 366, 231, 232, 233, 367, 368, 369, 370, 371, 372, 801, 802, 803, 804, 805, 806, 807, 831, 832, 833, 834, 824, 825, 826, 827, 828] (by decide +kernel) (by decide +kernel)) (goodIn_sub (fun _ h => List.mem_append_left _ (List.mem_append_right _ h)) (by decide +kernel))) (goodIn_sub (fun _ h => List.mem_append_right _ h) (by decide +kernel))
set_option maxRecDepth 20000 in
theorem gL_law_L_dispute : GoodIn wsL_law (va_wsS RL 115 yL_dispute wsL_dispute) := goodIn_app (goodIn_of _ (by decide +kernel)) ggL_law_L_dispute
set_option maxRecDepth 20000 in
theorem ggL_law_X5_dispute : GoodIn wsL_law wsX5_dispute := goodIn_r _ [376, 108, 185, 70, 69, 377, 371, 232, 372, 258, 231, 233, 110, 111, 112, 5, 113, 109, 114, 115, 116, 117, 118, 119, 120, 321, 322, 323, 324, 71, 378, 379, 380, 381, 382, 383, 384, 385, 808, 809, 810, 811, 812, 813, 814, 815, 816, 817, 818, 819, 820, 821, 822, 823] (by decide +kernel) (by decide +kernel)
set_option maxRecDepth 20000 in
theorem gL_law_X5_dispute : GoodIn wsL_law (wsV RL 117 RX5 yX5_dispute wsX5_dispute) := goodIn_app (goodIn_of _ (by decide +kernel)) ggL_law_X5_dispute
set_option maxRecDepth 20000 in
theorem ggL_law_L_untying : GoodIn wsL_law wsL_untying := goodIn_ca (goodIn_r _ [388, 81, 389, 390, 391, 2, 392, 96, 97, 29, 211, 212, 213, 801, 802, 803, 804, 805, 806, 807, 835, 836] (by decide +kernel) (by decide +kernel)) (goodIn_sub (fun _ h => List.mem_append_right _ h) (by decide +kernel))
set_option maxRecDepth 20000 in
theorem gL_law_L_untying : GoodIn wsL_law (va_wsS RL 118 yL_untying wsL_untying) := goodIn_app (goodIn_of _ (by decide +kernel)) ggL_law_L_untying
