set_option maxRecDepth 20000 in
theorem ggL_hang_X4_hang : GoodIn wsL_hang wsX4_hang := goodIn_ca (goodIn_ca (goodIn_ca (goodIn_r _ [8, 9, 10, 11, 12, 13, 14, 15, 16, 7, 17, 18, 19, 20, 21, 22, 23, 24, 25, 26, 27, 28, 29, 30, 31, 32, 33, 34, 35, 36, 37, 38, 39, 40, 41] (by decide +kernel) (by decide +kernel)) (goodIn_sub (fun _ h => List.mem_cons_of_mem _ (List.mem_append_left _ (List.mem_append_left _ (List.mem_append_right _ h)))) (by decide +kernel))) (goodIn_sub (fun _ h => List.mem_cons_of_mem _ (List.mem_append_left _ (List.mem_append_right _ h))) (by decide +kernel))) (goodIn_sub (fun _ h => List.mem_cons_of_mem _ (List.mem_append_right _ h)) (by decide +kernel))
set_option maxRecDepth 20000 in
theorem gL_hang_X4_hang : GoodIn wsL_hang (wsV RL 7 RX4 yX4_hang wsX4_hang) := goodIn_app (goodIn_of _ (by decide +kernel)) ggL_hang_X4_hang
theorem dL_hang_0 : decode cL_hang 0 = .ok (.aload_n 3, 1) := by decide +kernel
theorem dL_hang_1 : decode cL_hang 1 = .ok (.iconst 0, 1) := by decide +kernel
theorem dL_hang_2 : decode cL_hang 2 = .ok (.aload_n 0, 1) := by decide +kernel
theorem dL_hang_3 : decode cL_hang 3 = .ok (.iload_n 1, 1) := by decide +kernel
theorem dL_hang_4 : decode cL_hang 4 = .ok (.iload_n 2, 1) := by decide +kernel
theorem dL_hang_5 : decode cL_hang 5 = .ok (.invokevirtual 7, 3) := by decide +kernel
theorem dL_hang_8 : decode cL_hang 8 = .ok (.i2l, 1) := by decide +kernel
theorem dL_hang_9 : decode cL_hang 9 = .ok (.lastore, 1) := by decide +kernel
theorem dL_hang_10 : decode cL_hang 10 = .ok (.goto 15, 3) := by decide +kernel
theorem dL_hang_13 : decode cL_hang 13 = .ok (.astore 4, 2) := by decide +kernel
theorem dL_hang_15 : decode cL_hang 15 = .ok (.iconst 1, 1) := by decide +kernel
theorem dL_hang_16 : decode cL_hang 16 = .ok (.ireturn, 1) := by decide +kernel
theorem dL_hang_17 : decode cL_hang 17 = .ok (.astore 4, 2) := by decide +kernel
theorem dL_hang_19 : decode cL_hang 19 = .ok (.iconst 2, 1) := by decide +kernel
theorem dL_hang_20 : decode cL_hang 20 = .ok (.ireturn, 1) := by decide +kernel
theorem dL_hang_21 : decode cL_hang 21 = .ok (.astore 4, 2) := by decide +kernel
theorem dL_hang_23 : decode cL_hang 23 = .ok (.iconst 3, 1) := by decide +kernel
theorem dL_hang_24 : decode cL_hang 24 = .ok (.ireturn, 1) := by decide +kernel
theorem dL_hang_25 : decode cL_hang 25 = .ok (.iconst 0, 1) := by decide +kernel
theorem dL_hang_26 : decode cL_hang 26 = .ok (.ireturn, 1) := by decide +kernel
set_option maxRecDepth 20000 in
theorem ggL_tie_X4_tie : GoodIn wsL_tie wsX4_tie := goodIn_ca (goodIn_ca (goodIn_r _ [7, 8, 9, 10, 11, 12, 13, 6, 14, 15, 16, 17, 18, 19, 20, 21, 22, 23, 24, 25, 26, 27, 28, 29, 30, 31, 32, 33, 34, 35, 36, 37, 38, 39, 40, 41, 42, 43, 44] (by decide +kernel) (by decide +kernel)) (goodIn_sub (fun _ h => List.mem_cons_of_mem _ (List.mem_append_left _ (List.mem_append_right _ h))) (by decide +kernel))) (goodIn_sub (fun _ h => List.mem_cons_of_mem _ (List.mem_append_right _ h)) (by decide +kernel))
set_option maxRecDepth 20000 in
theorem gL_tie_X4_tie : GoodIn wsL_tie (wsV RL 19 RX4 yX4_tie wsX4_tie) := goodIn_app (goodIn_of _ (by decide +kernel)) ggL_tie_X4_tie
theorem dL_tie_0 : decode cL_tie 0 = .ok (.aload_n 3, 1) := by decide +kernel
theorem dL_tie_1 : decode cL_tie 1 = .ok (.iconst 0, 1) := by decide +kernel
theorem dL_tie_2 : decode cL_tie 2 = .ok (.aload_n 0, 1) := by decide +kernel
theorem dL_tie_3 : decode cL_tie 3 = .ok (.iload_n 1, 1) := by decide +kernel
theorem dL_tie_4 : decode cL_tie 4 = .ok (.iload_n 2, 1) := by decide +kernel
theorem dL_tie_5 : decode cL_tie 5 = .ok (.invokevirtual 19, 3) := by decide +kernel
theorem dL_tie_8 : decode cL_tie 8 = .ok (.i2l, 1) := by decide +kernel
theorem dL_tie_9 : decode cL_tie 9 = .ok (.lastore, 1) := by decide +kernel
theorem dL_tie_10 : decode cL_tie 10 = .ok (.goto 11, 3) := by decide +kernel
theorem dL_tie_13 : decode cL_tie 13 = .ok (.astore 4, 2) := by decide +kernel
theorem dL_tie_15 : decode cL_tie 15 = .ok (.iconst 1, 1) := by decide +kernel
theorem dL_tie_16 : decode cL_tie 16 = .ok (.ireturn, 1) := by decide +kernel
theorem dL_tie_17 : decode cL_tie 17 = .ok (.astore 4, 2) := by decide +kernel
theorem dL_tie_19 : decode cL_tie 19 = .ok (.iconst 2, 1) := by decide +kernel
theorem dL_tie_20 : decode cL_tie 20 = .ok (.ireturn, 1) := by decide +kernel
theorem dL_tie_21 : decode cL_tie 21 = .ok (.iconst 0, 1) := by decide +kernel
theorem dL_tie_22 : decode cL_tie 22 = .ok (.ireturn, 1) := by decide +kernel
set_option maxRecDepth 20000 in
theorem ggL_untie_X4_untie : GoodIn wsL_untie wsX4_untie := goodIn_ca (goodIn_ca (goodIn_ca (goodIn_r _ [8, 9, 10, 11, 12, 13, 14, 15, 16, 17, 18, 7, 19, 20, 21, 22, 23, 24, 25, 26, 27, 28, 29, 30, 31, 32, 33, 34, 35, 36, 37, 38, 39, 40, 41, 42, 43, 44, 45, 46, 47, 48, 49, 50, 51, 52, 53, 54, 55, 56, 57, 58, 59, 60, 61] (by decide +kernel) (by decide +kernel)) (goodIn_sub (fun _ h => List.mem_cons_of_mem _ (List.mem_append_left _ (List.mem_append_left _ (List.mem_append_right _ h)))) (by decide +kernel))) (goodIn_sub (fun _ h => List.mem_cons_of_mem _ (List.mem_append_left _ (List.mem_append_right _ h))) (by decide +kernel))) (goodIn_sub (fun _ h => List.mem_cons_of_mem _ (List.mem_append_right _ h)) (by decide +kernel))
set_option maxRecDepth 20000 in
theorem gL_untie_X4_untie : GoodIn wsL_untie (wsV RL 22 RX4 yX4_untie wsX4_untie) := goodIn_app (goodIn_of _ (by decide +kernel)) ggL_untie_X4_untie
theorem dL_untie_0 : decode cL_untie 0 = .ok (.aload 5, 2) := by decide +kernel
theorem dL_untie_2 : decode cL_untie 2 = .ok (.iconst 0, 1) := by decide +kernel
theorem dL_untie_3 : decode cL_untie 3 = .ok (.aload_n 0, 1) := by decide +kernel
theorem dL_untie_4 : decode cL_untie 4 = .ok (.iload_n 1, 1) := by decide +kernel
theorem dL_untie_5 : decode cL_untie 5 = .ok (.iload_n 2, 1) := by decide +kernel
theorem dL_untie_6 : decode cL_untie 6 = .ok (.iload_n 3, 1) := by decide +kernel
theorem dL_untie_7 : decode cL_untie 7 = .ok (.iload 4, 2) := by decide +kernel
theorem dL_untie_9 : decode cL_untie 9 = .ok (.invokevirtual 22, 3) := by decide +kernel
theorem dL_untie_12 : decode cL_untie 12 = .ok (.i2l, 1) := by decide +kernel
theorem dL_untie_13 : decode cL_untie 13 = .ok (.lastore, 1) := by decide +kernel
theorem dL_untie_14 : decode cL_untie 14 = .ok (.goto 15, 3) := by decide +kernel
theorem dL_untie_17 : decode cL_untie 17 = .ok (.astore 6, 2) := by decide +kernel
theorem dL_untie_19 : decode cL_untie 19 = .ok (.iconst 1, 1) := by decide +kernel
theorem dL_untie_20 : decode cL_untie 20 = .ok (.ireturn, 1) := by decide +kernel
theorem dL_untie_21 : decode cL_untie 21 = .ok (.astore 6, 2) := by decide +kernel
theorem dL_untie_23 : decode cL_untie 23 = .ok (.iconst 2, 1) := by decide +kernel
theorem dL_untie_24 : decode cL_untie 24 = .ok (.ireturn, 1) := by decide +kernel
theorem dL_untie_25 : decode cL_untie 25 = .ok (.astore 6, 2) := by decide +kernel
theorem dL_untie_27 : decode cL_untie 27 = .ok (.iconst 3, 1) := by decide +kernel
theorem dL_untie_28 : decode cL_untie 28 = .ok (.ireturn, 1) := by decide +kernel
theorem dL_untie_29 : decode cL_untie 29 = .ok (.iconst 0, 1) := by decide +kernel
theorem dL_untie_30 : decode cL_untie 30 = .ok (.ireturn, 1) := by decide +kernel
set_option maxRecDepth 20000 in
theorem ggL_mend_X4_mend : GoodIn wsL_mend wsX4_mend := goodIn_ca (goodIn_r _ [6, 7, 8, 9, 10, 5, 11, 12, 13, 14, 15, 16, 17, 18, 19, 20, 21, 22, 23, 24, 25, 26, 27, 28, 29, 30, 31, 32, 33, 34, 35, 36] (by decide +kernel) (by decide +kernel)) (goodIn_sub (fun _ h => List.mem_cons_of_mem _ (List.mem_append_right _ h)) (by decide +kernel))
set_option maxRecDepth 20000 in
theorem gL_mend_X4_mend : GoodIn wsL_mend (wsV RL 26 RX4 yX4_mend wsX4_mend) := goodIn_app (goodIn_of _ (by decide +kernel)) ggL_mend_X4_mend
theorem dL_mend_0 : decode cL_mend 0 = .ok (.aload_n 2, 1) := by decide +kernel
theorem dL_mend_1 : decode cL_mend 1 = .ok (.iconst 0, 1) := by decide +kernel
theorem dL_mend_2 : decode cL_mend 2 = .ok (.aload_n 0, 1) := by decide +kernel
theorem dL_mend_3 : decode cL_mend 3 = .ok (.iload_n 1, 1) := by decide +kernel
theorem dL_mend_4 : decode cL_mend 4 = .ok (.invokevirtual 26, 3) := by decide +kernel
theorem dL_mend_7 : decode cL_mend 7 = .ok (.i2l, 1) := by decide +kernel
theorem dL_mend_8 : decode cL_mend 8 = .ok (.lastore, 1) := by decide +kernel
theorem dL_mend_9 : decode cL_mend 9 = .ok (.goto 6, 3) := by decide +kernel
theorem dL_mend_12 : decode cL_mend 12 = .ok (.astore_n 3, 1) := by decide +kernel
theorem dL_mend_13 : decode cL_mend 13 = .ok (.iconst 1, 1) := by decide +kernel
theorem dL_mend_14 : decode cL_mend 14 = .ok (.ireturn, 1) := by decide +kernel
theorem dL_mend_15 : decode cL_mend 15 = .ok (.iconst 0, 1) := by decide +kernel
theorem dL_mend_16 : decode cL_mend 16 = .ok (.ireturn, 1) := by decide +kernel
set_option maxRecDepth 20000 in
theorem ggL_cord_X4_cord : GoodIn wsL_cord wsX4_cord := goodIn_ca (goodIn_r _ [6, 7, 8, 9, 10, 11, 5, 12, 13, 14, 15, 16, 17, 18, 19, 20, 21, 22, 23, 24, 25, 26, 27, 28, 29, 30, 31, 32, 33, 34, 35, 36, 37, 38, 39, 40, 41, 42, 43, 44, 45, 46, 47, 48, 49, 50, 51, 52, 53, 54, 55, 56, 57, 58, 59, 60, 61, 62, 63, 64, 65, 66, 67, 68, 69, 70, 71, 72, 73, 74, 75, 76, 77] (by decide +kernel) (by decide +kernel)) (goodIn_sub (fun _ h => List.mem_cons_of_mem _ (List.mem_append_right _ h)) (by decide +kernel))
set_option maxRecDepth 20000 in
theorem gL_cord_X4_cord : GoodIn wsL_cord (wsV RL 30 RX4 yX4_cord wsX4_cord) := goodIn_app (goodIn_of _ (by decide +kernel)) ggL_cord_X4_cord
theorem dL_cord_0 : decode cL_cord 0 = .ok (.aload_n 3, 1) := by decide +kernel
theorem dL_cord_1 : decode cL_cord 1 = .ok (.iconst 0, 1) := by decide +kernel
theorem dL_cord_2 : decode cL_cord 2 = .ok (.aload_n 0, 1) := by decide +kernel
theorem dL_cord_3 : decode cL_cord 3 = .ok (.iload_n 1, 1) := by decide +kernel
theorem dL_cord_4 : decode cL_cord 4 = .ok (.iload_n 2, 1) := by decide +kernel
theorem dL_cord_5 : decode cL_cord 5 = .ok (.invokevirtual 30, 3) := by decide +kernel
theorem dL_cord_8 : decode cL_cord 8 = .ok (.i2l, 1) := by decide +kernel
theorem dL_cord_9 : decode cL_cord 9 = .ok (.lastore, 1) := by decide +kernel
theorem dL_cord_10 : decode cL_cord 10 = .ok (.goto 7, 3) := by decide +kernel
theorem dL_cord_13 : decode cL_cord 13 = .ok (.astore 4, 2) := by decide +kernel
theorem dL_cord_15 : decode cL_cord 15 = .ok (.iconst 1, 1) := by decide +kernel
theorem dL_cord_16 : decode cL_cord 16 = .ok (.ireturn, 1) := by decide +kernel
theorem dL_cord_17 : decode cL_cord 17 = .ok (.iconst 0, 1) := by decide +kernel
theorem dL_cord_18 : decode cL_cord 18 = .ok (.ireturn, 1) := by decide +kernel
set_option maxRecDepth 20000 in
theorem ggL_place_X4_place : GoodIn wsL_place wsX4_place := goodIn_ca (goodIn_r _ [6, 7, 8, 9, 10, 5, 11, 12, 13, 14, 15, 16, 17, 18, 19, 20, 21, 22, 23, 24, 25, 26, 27, 28, 29, 30, 31, 32, 33, 34] (by decide +kernel) (by decide +kernel)) (goodIn_sub (fun _ h => List.mem_cons_of_mem _ (List.mem_append_right _ h)) (by decide +kernel))
set_option maxRecDepth 20000 in
theorem gL_place_X4_place : GoodIn wsL_place (wsV RL 33 RX4 yX4_place wsX4_place) := goodIn_app (goodIn_of _ (by decide +kernel)) ggL_place_X4_place
theorem dL_place_0 : decode cL_place 0 = .ok (.aload 4, 2) := by decide +kernel
theorem dL_place_2 : decode cL_place 2 = .ok (.iconst 0, 1) := by decide +kernel
theorem dL_place_3 : decode cL_place 3 = .ok (.aload_n 0, 1) := by decide +kernel
theorem dL_place_4 : decode cL_place 4 = .ok (.iload_n 1, 1) := by decide +kernel
theorem dL_place_5 : decode cL_place 5 = .ok (.iload_n 2, 1) := by decide +kernel
theorem dL_place_6 : decode cL_place 6 = .ok (.iload_n 3, 1) := by decide +kernel
theorem dL_place_7 : decode cL_place 7 = .ok (.invokevirtual 33, 3) := by decide +kernel
theorem dL_place_10 : decode cL_place 10 = .ok (.i2l, 1) := by decide +kernel
theorem dL_place_11 : decode cL_place 11 = .ok (.lastore, 1) := by decide +kernel
theorem dL_place_12 : decode cL_place 12 = .ok (.goto 7, 3) := by decide +kernel
theorem dL_place_15 : decode cL_place 15 = .ok (.astore 5, 2) := by decide +kernel
theorem dL_place_17 : decode cL_place 17 = .ok (.iconst 1, 1) := by decide +kernel
theorem dL_place_18 : decode cL_place 18 = .ok (.ireturn, 1) := by decide +kernel
theorem dL_place_19 : decode cL_place 19 = .ok (.iconst 0, 1) := by decide +kernel
theorem dL_place_20 : decode cL_place 20 = .ok (.ireturn, 1) := by decide +kernel
set_option maxRecDepth 20000 in
theorem ggL_call_X4_call : GoodIn wsL_call wsX4_call := goodIn_ca (goodIn_r _ [6, 7, 8, 9, 10, 11, 12, 13, 14, 15, 16, 17, 18, 19, 20, 21, 22, 23, 24, 25, 26, 27, 28, 29, 30, 31, 32] (by decide +kernel) (by decide +kernel)) (goodIn_sub (fun _ h => List.mem_cons_of_mem _ (List.mem_append_right _ h)) (by decide +kernel))
set_option maxRecDepth 20000 in
theorem gL_call_X4_call : GoodIn wsL_call (wsV RL 37 RX4 yX4_call wsX4_call) := goodIn_app (goodIn_of _ (by decide +kernel)) ggL_call_X4_call
theorem dL_call_0 : decode cL_call 0 = .ok (.aload_n 1, 1) := by decide +kernel
theorem dL_call_1 : decode cL_call 1 = .ok (.iconst 0, 1) := by decide +kernel
theorem dL_call_2 : decode cL_call 2 = .ok (.aload_n 0, 1) := by decide +kernel
theorem dL_call_3 : decode cL_call 3 = .ok (.invokevirtual 37, 3) := by decide +kernel
theorem dL_call_6 : decode cL_call 6 = .ok (.i2l, 1) := by decide +kernel
theorem dL_call_7 : decode cL_call 7 = .ok (.lastore, 1) := by decide +kernel
theorem dL_call_8 : decode cL_call 8 = .ok (.goto 6, 3) := by decide +kernel
theorem dL_call_11 : decode cL_call 11 = .ok (.astore_n 2, 1) := by decide +kernel
theorem dL_call_12 : decode cL_call 12 = .ok (.iconst 1, 1) := by decide +kernel
theorem dL_call_13 : decode cL_call 13 = .ok (.ireturn, 1) := by decide +kernel
theorem dL_call_14 : decode cL_call 14 = .ok (.iconst 0, 1) := by decide +kernel
theorem dL_call_15 : decode cL_call 15 = .ok (.ireturn, 1) := by decide +kernel
set_option maxRecDepth 20000 in
theorem ggL_read_X4_read : GoodIn wsL_read wsX4_read := goodIn_ca (goodIn_r _ [6, 7, 8, 9, 10, 11, 12, 13, 5, 14, 15, 16, 17, 18, 19, 20, 21, 22, 23, 24, 25, 26, 27, 28, 29, 30, 31, 32, 33, 34, 35, 36, 37, 38, 39, 40, 41, 42, 43, 44, 45, 46, 47, 48, 49, 50, 51, 52, 53, 54, 55, 56, 57, 58, 59, 60, 61, 62, 63, 64, 65, 66, 67, 68, 69, 70, 71, 72, 73, 74, 75] (by decide +kernel) (by decide +kernel)) (goodIn_sub (fun _ h => List.mem_cons_of_mem _ (List.mem_append_right _ h)) (by decide +kernel))
set_option maxRecDepth 20000 in
theorem gL_read_X4_read : GoodIn wsL_read (wsV RL 41 RX4 yX4_read wsX4_read) := goodIn_app (goodIn_of _ (by decide +kernel)) ggL_read_X4_read
theorem dL_read_0 : decode cL_read 0 = .ok (.aload_n 3, 1) := by decide +kernel
theorem dL_read_1 : decode cL_read 1 = .ok (.iconst 0, 1) := by decide +kernel
theorem dL_read_2 : decode cL_read 2 = .ok (.aload_n 0, 1) := by decide +kernel
theorem dL_read_3 : decode cL_read 3 = .ok (.iload_n 1, 1) := by decide +kernel
theorem dL_read_4 : decode cL_read 4 = .ok (.iload_n 2, 1) := by decide +kernel
theorem dL_read_5 : decode cL_read 5 = .ok (.invokevirtual 41, 3) := by decide +kernel
theorem dL_read_8 : decode cL_read 8 = .ok (.i2l, 1) := by decide +kernel
theorem dL_read_9 : decode cL_read 9 = .ok (.lastore, 1) := by decide +kernel
theorem dL_read_10 : decode cL_read 10 = .ok (.goto 7, 3) := by decide +kernel
theorem dL_read_13 : decode cL_read 13 = .ok (.astore 4, 2) := by decide +kernel
theorem dL_read_15 : decode cL_read 15 = .ok (.iconst 1, 1) := by decide +kernel
theorem dL_read_16 : decode cL_read 16 = .ok (.ireturn, 1) := by decide +kernel
theorem dL_read_17 : decode cL_read 17 = .ok (.iconst 0, 1) := by decide +kernel
theorem dL_read_18 : decode cL_read 18 = .ok (.ireturn, 1) := by decide +kernel
set_option maxRecDepth 20000 in
theorem ggL_remembers_X4_remembers : GoodIn wsL_remembers wsX4_remembers := goodIn_ca (goodIn_r _ [6, 7, 8, 9, 10, 5, 11, 12, 13, 14, 15, 16, 17, 18, 19, 20, 21, 22, 23, 24, 25, 26, 27, 28, 29, 30, 31, 32, 33, 34, 35, 36, 37, 38, 39, 40, 41, 42, 43, 44, 45, 46, 47] (by decide +kernel) (by decide +kernel)) (goodIn_sub (fun _ h => List.mem_cons_of_mem _ (List.mem_append_right _ h)) (by decide +kernel))
set_option maxRecDepth 20000 in
theorem gL_remembers_X4_remembers : GoodIn wsL_remembers (wsV RL 44 RX4 yX4_remembers wsX4_remembers) := goodIn_app (goodIn_of _ (by decide +kernel)) ggL_remembers_X4_remembers
theorem dL_remembers_0 : decode cL_remembers 0 = .ok (.aload 4, 2) := by decide +kernel
theorem dL_remembers_2 : decode cL_remembers 2 = .ok (.iconst 0, 1) := by decide +kernel
theorem dL_remembers_3 : decode cL_remembers 3 = .ok (.aload_n 0, 1) := by decide +kernel
theorem dL_remembers_4 : decode cL_remembers 4 = .ok (.iload_n 1, 1) := by decide +kernel
theorem dL_remembers_5 : decode cL_remembers 5 = .ok (.iload_n 2, 1) := by decide +kernel
theorem dL_remembers_6 : decode cL_remembers 6 = .ok (.iload_n 3, 1) := by decide +kernel
theorem dL_remembers_7 : decode cL_remembers 7 = .ok (.invokevirtual 44, 3) := by decide +kernel
theorem dL_remembers_10 : decode cL_remembers 10 = .ok (.i2l, 1) := by decide +kernel
theorem dL_remembers_11 : decode cL_remembers 11 = .ok (.lastore, 1) := by decide +kernel
theorem dL_remembers_12 : decode cL_remembers 12 = .ok (.goto 7, 3) := by decide +kernel
theorem dL_remembers_15 : decode cL_remembers 15 = .ok (.astore 5, 2) := by decide +kernel
theorem dL_remembers_17 : decode cL_remembers 17 = .ok (.iconst 1, 1) := by decide +kernel
theorem dL_remembers_18 : decode cL_remembers 18 = .ok (.ireturn, 1) := by decide +kernel
theorem dL_remembers_19 : decode cL_remembers 19 = .ok (.iconst 0, 1) := by decide +kernel
theorem dL_remembers_20 : decode cL_remembers 20 = .ok (.ireturn, 1) := by decide +kernel
set_option maxRecDepth 20000 in
theorem ggL_trust_X4_trust : GoodIn wsL_trust wsX4_trust := goodIn_ca (goodIn_r _ [6, 7, 8, 9, 10, 5, 11, 12, 13, 14, 15, 16, 17, 18, 19, 20, 21, 22, 23, 24] (by decide +kernel) (by decide +kernel)) (goodIn_sub (fun _ h => List.mem_cons_of_mem _ (List.mem_append_right _ h)) (by decide +kernel))
set_option maxRecDepth 20000 in
theorem gL_trust_X4_trust : GoodIn wsL_trust (wsV RL 47 RX4 yX4_trust wsX4_trust) := goodIn_app (goodIn_of _ (by decide +kernel)) ggL_trust_X4_trust
theorem dL_trust_0 : decode cL_trust 0 = .ok (.aload_n 2, 1) := by decide +kernel
theorem dL_trust_1 : decode cL_trust 1 = .ok (.iconst 0, 1) := by decide +kernel
theorem dL_trust_2 : decode cL_trust 2 = .ok (.aload_n 0, 1) := by decide +kernel
theorem dL_trust_3 : decode cL_trust 3 = .ok (.iload_n 1, 1) := by decide +kernel
theorem dL_trust_4 : decode cL_trust 4 = .ok (.invokevirtual 47, 3) := by decide +kernel
theorem dL_trust_7 : decode cL_trust 7 = .ok (.i2l, 1) := by decide +kernel
theorem dL_trust_8 : decode cL_trust 8 = .ok (.lastore, 1) := by decide +kernel
theorem dL_trust_9 : decode cL_trust 9 = .ok (.goto 6, 3) := by decide +kernel
theorem dL_trust_12 : decode cL_trust 12 = .ok (.astore_n 3, 1) := by decide +kernel
theorem dL_trust_13 : decode cL_trust 13 = .ok (.iconst 1, 1) := by decide +kernel
theorem dL_trust_14 : decode cL_trust 14 = .ok (.ireturn, 1) := by decide +kernel
theorem dL_trust_15 : decode cL_trust 15 = .ok (.iconst 0, 1) := by decide +kernel
theorem dL_trust_16 : decode cL_trust 16 = .ok (.ireturn, 1) := by decide +kernel
set_option maxRecDepth 20000 in
theorem ggL_dispute_X4_dispute : GoodIn wsL_dispute wsX4_dispute := goodIn_ca (goodIn_ca (goodIn_r _ [7, 8, 9, 10, 11, 12, 13, 6, 14, 15, 16, 17, 18, 19, 20, 21, 22, 23, 24, 25, 26, 27, 28, 29, 30, 31, 32, 33, 34, 35, 36, 37, 38, 39, 40, 41, 42, 43, 44, 45, 46, 47, 48, 49, 50, 51, 52, 53, 54, 55, 56, 57, 58, 59, 60, 61, 62, 63, 64, 65, 66, 67, 68, 69, 70, 71, 72, 73, 74, 75] (by decide +kernel) (by decide +kernel)) (goodIn_sub (fun _ h => List.mem_cons_of_mem _ (List.mem_append_left _ (List.mem_append_right _ h))) (by decide +kernel))) (goodIn_sub (fun _ h => List.mem_cons_of_mem _ (List.mem_append_right _ h)) (by decide +kernel))
set_option maxRecDepth 20000 in
theorem gL_dispute_X4_dispute : GoodIn wsL_dispute (wsV RL 50 RX4 yX4_dispute wsX4_dispute) := goodIn_app (goodIn_of _ (by decide +kernel)) ggL_dispute_X4_dispute
theorem dL_dispute_0 : decode cL_dispute 0 = .ok (.aload_n 2, 1) := by decide +kernel
theorem dL_dispute_1 : decode cL_dispute 1 = .ok (.iconst 0, 1) := by decide +kernel
theorem dL_dispute_2 : decode cL_dispute 2 = .ok (.aload_n 0, 1) := by decide +kernel
theorem dL_dispute_3 : decode cL_dispute 3 = .ok (.iload_n 1, 1) := by decide +kernel
theorem dL_dispute_4 : decode cL_dispute 4 = .ok (.invokevirtual 50, 3) := by decide +kernel
theorem dL_dispute_7 : decode cL_dispute 7 = .ok (.i2l, 1) := by decide +kernel
theorem dL_dispute_8 : decode cL_dispute 8 = .ok (.lastore, 1) := by decide +kernel
theorem dL_dispute_9 : decode cL_dispute 9 = .ok (.goto 9, 3) := by decide +kernel
theorem dL_dispute_12 : decode cL_dispute 12 = .ok (.astore_n 3, 1) := by decide +kernel
theorem dL_dispute_13 : decode cL_dispute 13 = .ok (.iconst 1, 1) := by decide +kernel
theorem dL_dispute_14 : decode cL_dispute 14 = .ok (.ireturn, 1) := by decide +kernel
theorem dL_dispute_15 : decode cL_dispute 15 = .ok (.astore_n 3, 1) := by decide +kernel
theorem dL_dispute_16 : decode cL_dispute 16 = .ok (.iconst 2, 1) := by decide +kernel
theorem dL_dispute_17 : decode cL_dispute 17 = .ok (.ireturn, 1) := by decide +kernel
theorem dL_dispute_18 : decode cL_dispute 18 = .ok (.iconst 0, 1) := by decide +kernel
theorem dL_dispute_19 : decode cL_dispute 19 = .ok (.ireturn, 1) := by decide +kernel
set_option maxRecDepth 20000 in
theorem ggL_untying_X4_untying : GoodIn wsL_untying wsX4_untying := goodIn_ca (goodIn_r _ [6, 7, 8, 9, 10, 11, 5, 12, 13, 14, 15, 16, 17, 18, 19, 20, 21] (by decide +kernel) (by decide +kernel)) (goodIn_sub (fun _ h => List.mem_cons_of_mem _ (List.mem_append_right _ h)) (by decide +kernel))
set_option maxRecDepth 20000 in
theorem gL_untying_X4_untying : GoodIn wsL_untying (wsV RL 53 RX4 yX4_untying wsX4_untying) := goodIn_app (goodIn_of _ (by decide +kernel)) ggL_untying_X4_untying
theorem dL_untying_0 : decode cL_untying 0 = .ok (.aload_n 3, 1) := by decide +kernel
theorem dL_untying_1 : decode cL_untying 1 = .ok (.iconst 0, 1) := by decide +kernel
theorem dL_untying_2 : decode cL_untying 2 = .ok (.aload_n 0, 1) := by decide +kernel
theorem dL_untying_3 : decode cL_untying 3 = .ok (.iload_n 1, 1) := by decide +kernel
theorem dL_untying_4 : decode cL_untying 4 = .ok (.iload_n 2, 1) := by decide +kernel
theorem dL_untying_5 : decode cL_untying 5 = .ok (.invokevirtual 53, 3) := by decide +kernel
theorem dL_untying_8 : decode cL_untying 8 = .ok (.i2l, 1) := by decide +kernel
theorem dL_untying_9 : decode cL_untying 9 = .ok (.lastore, 1) := by decide +kernel
theorem dL_untying_10 : decode cL_untying 10 = .ok (.goto 7, 3) := by decide +kernel
theorem dL_untying_13 : decode cL_untying 13 = .ok (.astore 4, 2) := by decide +kernel
theorem dL_untying_15 : decode cL_untying 15 = .ok (.iconst 1, 1) := by decide +kernel
theorem dL_untying_16 : decode cL_untying 16 = .ok (.ireturn, 1) := by decide +kernel
theorem dL_untying_17 : decode cL_untying 17 = .ok (.iconst 0, 1) := by decide +kernel
theorem dL_untying_18 : decode cL_untying 18 = .ok (.ireturn, 1) := by decide +kernel
set_option maxRecDepth 20000 in
theorem ggL_pass_X4_pass : GoodIn wsL_pass wsX4_pass := goodIn_ca (goodIn_r _ [6, 7, 8, 9, 10, 11, 12, 5, 13, 14, 15, 16, 17, 18, 19, 20, 21, 22, 23, 24, 25, 26, 27, 28, 29, 30, 31, 32, 33, 34, 35, 36, 37, 38, 39] (by decide +kernel) (by decide +kernel)) (goodIn_sub (fun _ h => List.mem_cons_of_mem _ (List.mem_append_right _ h)) (by decide +kernel))
set_option maxRecDepth 20000 in
theorem gL_pass_X4_pass : GoodIn wsL_pass (wsV RL 56 RX4 yX4_pass wsX4_pass) := goodIn_app (goodIn_of _ (by decide +kernel)) ggL_pass_X4_pass
theorem dL_pass_0 : decode cL_pass 0 = .ok (.aload_n 2, 1) := by decide +kernel
theorem dL_pass_1 : decode cL_pass 1 = .ok (.iconst 0, 1) := by decide +kernel
theorem dL_pass_2 : decode cL_pass 2 = .ok (.aload_n 0, 1) := by decide +kernel
theorem dL_pass_3 : decode cL_pass 3 = .ok (.iload_n 1, 1) := by decide +kernel
theorem dL_pass_4 : decode cL_pass 4 = .ok (.invokevirtual 56, 3) := by decide +kernel
theorem dL_pass_7 : decode cL_pass 7 = .ok (.i2l, 1) := by decide +kernel
theorem dL_pass_8 : decode cL_pass 8 = .ok (.lastore, 1) := by decide +kernel
theorem dL_pass_9 : decode cL_pass 9 = .ok (.goto 6, 3) := by decide +kernel
theorem dL_pass_12 : decode cL_pass 12 = .ok (.astore_n 3, 1) := by decide +kernel
theorem dL_pass_13 : decode cL_pass 13 = .ok (.iconst 1, 1) := by decide +kernel
theorem dL_pass_14 : decode cL_pass 14 = .ok (.ireturn, 1) := by decide +kernel
theorem dL_pass_15 : decode cL_pass 15 = .ok (.iconst 0, 1) := by decide +kernel
theorem dL_pass_16 : decode cL_pass 16 = .ok (.ireturn, 1) := by decide +kernel
set_option maxRecDepth 20000 in
theorem ggL_count_X4_count : GoodIn wsL_count wsX4_count := goodIn_ca (goodIn_r _ [6, 7, 8, 9, 10, 5, 11, 12, 13, 14, 15, 16, 17, 18, 19, 20, 21, 22, 23, 24, 25, 26, 27, 28, 29, 30, 31, 32, 33, 34, 35, 36, 37, 38, 39, 40, 41, 42, 43, 44, 45, 46, 47, 48, 49, 50, 51, 52, 53, 54, 55, 56, 57, 58, 59, 60, 61, 62, 63, 64, 65, 66, 67, 68, 69, 70, 71, 72, 73, 74, 75, 76, 77, 78, 79, 80, 81, 82, 83, 84, 85, 86, 87, 88, 89, 90, 91] (by decide +kernel) (by decide +kernel)) (goodIn_sub (fun _ h => List.mem_cons_of_mem _ (List.mem_append_right _ h)) (by decide +kernel))
set_option maxRecDepth 20000 in
theorem gL_count_X4_count : GoodIn wsL_count (wsV RL 59 RX4 yX4_count wsX4_count) := goodIn_app (goodIn_of _ (by decide +kernel)) ggL_count_X4_count
theorem dL_count_0 : decode cL_count 0 = .ok (.aload_n 2, 1) := by decide +kernel
theorem dL_count_1 : decode cL_count 1 = .ok (.iconst 0, 1) := by decide +kernel
theorem dL_count_2 : decode cL_count 2 = .ok (.aload_n 0, 1) := by decide +kernel
theorem dL_count_3 : decode cL_count 3 = .ok (.iload_n 1, 1) := by decide +kernel
theorem dL_count_4 : decode cL_count 4 = .ok (.invokevirtual 59, 3) := by decide +kernel
theorem dL_count_7 : decode cL_count 7 = .ok (.i2l, 1) := by decide +kernel
theorem dL_count_8 : decode cL_count 8 = .ok (.lastore, 1) := by decide +kernel
theorem dL_count_9 : decode cL_count 9 = .ok (.goto 6, 3) := by decide +kernel
theorem dL_count_12 : decode cL_count 12 = .ok (.astore_n 3, 1) := by decide +kernel
theorem dL_count_13 : decode cL_count 13 = .ok (.iconst 1, 1) := by decide +kernel
theorem dL_count_14 : decode cL_count 14 = .ok (.ireturn, 1) := by decide +kernel
theorem dL_count_15 : decode cL_count 15 = .ok (.iconst 0, 1) := by decide +kernel
theorem dL_count_16 : decode cL_count 16 = .ok (.ireturn, 1) := by decide +kernel
set_option maxRecDepth 20000 in
theorem ggL_fades_X4_fades : GoodIn wsL_fades wsX4_fades := goodIn_ca (goodIn_ca (goodIn_r _ [7, 8, 9, 10, 11, 12, 13, 6, 14, 15, 16, 17, 18, 19, 20, 21, 22, 23, 24, 25, 26, 27, 28, 29, 30, 31, 32, 33, 34, 35, 36, 37, 38, 39, 40, 41, 42, 43, 44, 45, 46, 47, 48, 49, 50, 51, 52, 53, 54, 55, 56, 57, 58, 59, 60, 61, 62, 63, 64, 65, 66, 67, 68, 69, 70, 71, 72, 73, 74, 75, 76, 77, 78, 79, 80, 81] (by decide +kernel) (by decide +kernel)) (goodIn_sub (fun _ h => List.mem_cons_of_mem _ (List.mem_append_left _ (List.mem_append_right _ h))) (by decide +kernel))) (goodIn_sub (fun _ h => List.mem_cons_of_mem _ (List.mem_append_right _ h)) (by decide +kernel))
set_option maxRecDepth 20000 in
theorem gL_fades_X4_fades : GoodIn wsL_fades (wsV RL 62 RX4 yX4_fades wsX4_fades) := goodIn_app (goodIn_of _ (by decide +kernel)) ggL_fades_X4_fades
theorem dL_fades_0 : decode cL_fades 0 = .ok (.aload_n 3, 1) := by decide +kernel
theorem dL_fades_1 : decode cL_fades 1 = .ok (.iconst 0, 1) := by decide +kernel
theorem dL_fades_2 : decode cL_fades 2 = .ok (.aload_n 0, 1) := by decide +kernel
theorem dL_fades_3 : decode cL_fades 3 = .ok (.iload_n 1, 1) := by decide +kernel
theorem dL_fades_4 : decode cL_fades 4 = .ok (.iload_n 2, 1) := by decide +kernel
theorem dL_fades_5 : decode cL_fades 5 = .ok (.invokevirtual 62, 3) := by decide +kernel
theorem dL_fades_8 : decode cL_fades 8 = .ok (.i2l, 1) := by decide +kernel
theorem dL_fades_9 : decode cL_fades 9 = .ok (.lastore, 1) := by decide +kernel
theorem dL_fades_10 : decode cL_fades 10 = .ok (.goto 11, 3) := by decide +kernel
theorem dL_fades_13 : decode cL_fades 13 = .ok (.astore 4, 2) := by decide +kernel
theorem dL_fades_15 : decode cL_fades 15 = .ok (.iconst 1, 1) := by decide +kernel
theorem dL_fades_16 : decode cL_fades 16 = .ok (.ireturn, 1) := by decide +kernel
theorem dL_fades_17 : decode cL_fades 17 = .ok (.astore 4, 2) := by decide +kernel
theorem dL_fades_19 : decode cL_fades 19 = .ok (.iconst 2, 1) := by decide +kernel
theorem dL_fades_20 : decode cL_fades 20 = .ok (.ireturn, 1) := by decide +kernel
theorem dL_fades_21 : decode cL_fades 21 = .ok (.iconst 0, 1) := by decide +kernel
theorem dL_fades_22 : decode cL_fades 22 = .ok (.ireturn, 1) := by decide +kernel
set_option maxRecDepth 20000 in
theorem ggL_amends_X4_amends : GoodIn wsL_amends wsX4_amends := goodIn_ca (goodIn_r _ [6, 7, 8, 9, 10, 11, 5, 12, 13, 14, 15, 16, 17, 18, 19, 20, 21, 22, 23, 24, 25, 26, 27, 28, 29, 30, 31, 32, 33, 34, 35, 36, 37, 38, 39, 40, 41, 42, 43, 44, 45, 46, 47, 48, 49, 50, 51, 52, 53, 54, 55, 56, 57, 58, 59, 60, 61, 62, 63, 64, 65, 66, 67, 68, 69, 70, 71, 72] (by decide +kernel) (by decide +kernel)) (goodIn_sub (fun _ h => List.mem_cons_of_mem _ (List.mem_append_right _ h)) (by decide +kernel))
set_option maxRecDepth 20000 in
theorem gL_amends_X4_amends : GoodIn wsL_amends (wsV RL 65 RX4 yX4_amends wsX4_amends) := goodIn_app (goodIn_of _ (by decide +kernel)) ggL_amends_X4_amends
theorem dL_amends_0 : decode cL_amends 0 = .ok (.aload_n 2, 1) := by decide +kernel
theorem dL_amends_1 : decode cL_amends 1 = .ok (.iconst 0, 1) := by decide +kernel
theorem dL_amends_2 : decode cL_amends 2 = .ok (.aload_n 0, 1) := by decide +kernel
theorem dL_amends_3 : decode cL_amends 3 = .ok (.iload_n 1, 1) := by decide +kernel
theorem dL_amends_4 : decode cL_amends 4 = .ok (.invokevirtual 65, 3) := by decide +kernel
theorem dL_amends_7 : decode cL_amends 7 = .ok (.i2l, 1) := by decide +kernel
theorem dL_amends_8 : decode cL_amends 8 = .ok (.lastore, 1) := by decide +kernel
theorem dL_amends_9 : decode cL_amends 9 = .ok (.goto 6, 3) := by decide +kernel
theorem dL_amends_12 : decode cL_amends 12 = .ok (.astore_n 3, 1) := by decide +kernel
theorem dL_amends_13 : decode cL_amends 13 = .ok (.iconst 1, 1) := by decide +kernel
theorem dL_amends_14 : decode cL_amends 14 = .ok (.ireturn, 1) := by decide +kernel
theorem dL_amends_15 : decode cL_amends 15 = .ok (.iconst 0, 1) := by decide +kernel
theorem dL_amends_16 : decode cL_amends 16 = .ok (.ireturn, 1) := by decide +kernel
set_option maxRecDepth 20000 in
theorem ggL_line_X4_line : GoodIn wsL_line wsX4_line := goodIn_ca (goodIn_r _ [6, 7, 8, 9, 10, 11, 12, 13, 14, 5, 15, 16, 17, 18, 19, 20, 21, 22, 23, 24, 25, 26, 27, 28, 29, 30, 31, 32, 33, 34, 35, 36, 37, 38, 39, 40, 41, 42, 43, 44, 45, 46, 47, 48, 49, 50, 51, 52, 53, 54, 55, 56, 57, 58, 59, 60, 61, 62, 63, 64, 65, 66, 67, 68, 69, 70, 71, 72, 73, 74, 75, 76, 77, 78, 79, 80, 81, 82, 83, 84, 85, 86, 87, 88, 89, 90, 91, 92, 93, 94, 95, 96, 97, 98, 99, 100, 101, 102, 103, 104, 105, 106, 107, 108, 109, 110, 111, 112, 113, 114, 115, 116, 117, 118, 119, 120, 121, 122, 123, 124, 125, 126, 127, 128, 129, 130, 131, 132, 133, 134, 135, 136, 137, 138, 139, 140, 141, 142, 143, 144, 145, 146, 147, 148, 149, 150, 151, 152, 153, 154, 155, 156, 157, 158, 159, 160, 161, 162, 163, 164, 165, 166, 167, 168, 169, 170, 171, 172, 173, 174, 175, 176, 177, 178, 179, 180, 181, 182, 183, 184, 185, 186, 187, 188, 189, 190, 191, 192, 193, 194, 195, 196, 197, 198, 199, 200, 201, 202, 203, 204, 205, 206, 207, 208, 209, 210, 211, 212, 213, 214, 215, 216, 217, 218, 219, 220] (by decide +kernel) (by decide +kernel)) (goodIn_sub (fun _ h => List.mem_cons_of_mem _ (List.mem_append_right _ h)) (by decide +kernel))
set_option maxRecDepth 20000 in
theorem gL_line_X4_line : GoodIn wsL_line (wsV RL 68 RX4 yX4_line wsX4_line) := goodIn_app (goodIn_of _ (by decide +kernel)) ggL_line_X4_line
theorem dL_line_0 : decode cL_line 0 = .ok (.aload_n 2, 1) := by decide +kernel
theorem dL_line_1 : decode cL_line 1 = .ok (.iconst 0, 1) := by decide +kernel
theorem dL_line_2 : decode cL_line 2 = .ok (.aload_n 0, 1) := by decide +kernel
theorem dL_line_3 : decode cL_line 3 = .ok (.iload_n 1, 1) := by decide +kernel
theorem dL_line_4 : decode cL_line 4 = .ok (.invokevirtual 68, 3) := by decide +kernel
theorem dL_line_7 : decode cL_line 7 = .ok (.i2l, 1) := by decide +kernel
theorem dL_line_8 : decode cL_line 8 = .ok (.lastore, 1) := by decide +kernel
theorem dL_line_9 : decode cL_line 9 = .ok (.goto 6, 3) := by decide +kernel
theorem dL_line_12 : decode cL_line 12 = .ok (.astore_n 3, 1) := by decide +kernel
theorem dL_line_13 : decode cL_line 13 = .ok (.iconst 1, 1) := by decide +kernel
theorem dL_line_14 : decode cL_line 14 = .ok (.ireturn, 1) := by decide +kernel
theorem dL_line_15 : decode cL_line 15 = .ok (.iconst 0, 1) := by decide +kernel
theorem dL_line_16 : decode cL_line 16 = .ok (.ireturn, 1) := by decide +kernel
