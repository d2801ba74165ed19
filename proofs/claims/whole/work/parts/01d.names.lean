set_option maxRecDepth 20000 in
theorem ggX4_count_X0_tell : GoodIn wsX4_count wsX0_tell := goodIn_r _ [12, 13, 14, 15, 16, 17, 18, 10, 19, 20, 21, 22, 23, 24, 25, 26, 27, 28, 29, 30, 31, 32, 33, 34, 35, 36, 37, 38, 39, 74, 75, 76, 77, 78, 79, 80] (by decide +kernel) (by decide +kernel)
set_option maxRecDepth 20000 in
theorem gX4_count_X0_tell_n115 : GoodIn wsX4_count (wsX0_tell) := ggX4_count_X0_tell
set_option maxRecDepth 20000 in
theorem ggX4_count_X4_total : GoodIn wsX4_count wsX4_total := goodIn_r _ [43, 44, 1, 45, 46, 47, 48, 49, 50, 5, 51, 2, 52, 53, 54, 55, 56, 57, 58, 59, 60, 10, 61, 62, 13, 21, 35, 36, 37, 38, 39, 63, 64, 65, 66, 67, 68, 69, 70, 71, 72, 73, 74, 75, 76, 77, 78, 81, 82, 83, 84, 85, 86, 79, 80] (by decide +kernel) (by decide +kernel)
set_option maxRecDepth 20000 in
theorem gX4_count_X4_total : GoodIn wsX4_count (wsV RX4 172 RX4 yX4_total wsX4_total) := goodIn_app (goodIn_of _ (by decide +kernel)) ggX4_count_X4_total
theorem dX4_count_0 : decode cX4_count 0 = .ok (.iload_n 1, 1) := by decide +kernel
theorem dX4_count_1 : decode cX4_count 1 = .ok (.bipush 8, 2) := by decide +kernel
theorem dX4_count_3 : decode cX4_count 3 = .ok (.invokestatic 112, 3) := by decide +kernel
theorem dX4_count_6 : decode cX4_count 6 = .ok (.aload_n 0, 1) := by decide +kernel
theorem dX4_count_7 : decode cX4_count 7 = .ok (.getfield 10, 3) := by decide +kernel
theorem dX4_count_10 : decode cX4_count 10 = .ok (.aload_n 0, 1) := by decide +kernel
theorem dX4_count_11 : decode cX4_count 11 = .ok (.getfield 19, 3) := by decide +kernel
theorem dX4_count_14 : decode cX4_count 14 = .ok (.invokevirtual 115, 3) := by decide +kernel
theorem dX4_count_17 : decode cX4_count 17 = .ok (.aload_n 0, 1) := by decide +kernel
theorem dX4_count_18 : decode cX4_count 18 = .ok (.iload_n 1, 1) := by decide +kernel
theorem dX4_count_19 : decode cX4_count 19 = .ok (.invokevirtual 172, 3) := by decide +kernel
theorem dX4_count_22 : decode cX4_count 22 = .ok (.ireturn, 1) := by decide +kernel
set_option maxRecDepth 20000 in
theorem ggX4_fades_X4_checkCord : GoodIn wsX4_fades wsX4_checkCord := goodIn_ca (goodIn_r _ [8, 9, 10, 3, 62, 63, 64, 65, 66, 67, 68, 69, 70, 71, 72, 73] (by decide +kernel) (by decide +kernel)) (goodIn_sub (fun _ h => List.mem_cons_of_mem _ (List.mem_append_left _ (List.mem_append_right _ h))) (by decide +kernel))
set_option maxRecDepth 20000 in
theorem gX4_fades_X4_checkCord : GoodIn wsX4_fades (wsV RX4 47 RX4 yX4_checkCord wsX4_checkCord) := goodIn_app (goodIn_of _ (by decide +kernel)) ggX4_fades_X4_checkCord
set_option maxRecDepth 20000 in
theorem ggX4_fades_X4_checkYears : GoodIn wsX4_fades wsX4_checkYears := goodIn_ca (goodIn_r _ [13, 14, 15] (by decide +kernel) (by decide +kernel)) (goodIn_sub (fun _ h => List.mem_cons_of_mem _ (List.mem_append_right _ h)) (by decide +kernel))
set_option maxRecDepth 20000 in
theorem gX4_fades_X4_checkYears : GoodIn wsX4_fades (va_wsS RX4 165 yX4_checkYears wsX4_checkYears) := goodIn_app (goodIn_of _ (by decide +kernel)) ggX4_fades_X4_checkYears
set_option maxRecDepth 20000 in
theorem ggX4_fades_X1_copyFrom : GoodIn wsX4_fades wsX1_copyFrom := goodIn_r _ [19, 20, 21, 22, 23, 24, 25, 74, 75] (by decide +kernel) (by decide +kernel)
set_option maxRecDepth 20000 in
theorem gX4_fades_X1_copyFrom_n175 : GoodIn wsX4_fades (wsX1_copyFrom) := ggX4_fades_X1_copyFrom
set_option maxRecDepth 20000 in
theorem ggX4_fades_X1_fray : GoodIn wsX4_fades wsX1_fray := goodIn_r _ [28, 29, 30, 31, 17, 32, 20, 25, 69, 70, 71, 72, 73, 74, 75] (by decide +kernel) (by decide +kernel)
set_option maxRecDepth 20000 in
theorem gX4_fades_X1_fray_n168 : GoodIn wsX4_fades (wsX1_fray) := ggX4_fades_X1_fray
set_option maxRecDepth 20000 in
theorem ggX4_fades_X0_tell : GoodIn wsX4_fades wsX0_tell := goodIn_r _ [36, 37, 38, 39, 40, 41, 42, 34, 43, 44, 45, 46, 47, 48, 49, 50, 51, 52, 53, 54, 55, 56, 57, 58, 59, 17, 60, 61, 20, 69, 70, 71, 72, 73, 74, 75] (by decide +kernel) (by decide +kernel)
set_option maxRecDepth 20000 in
theorem gX4_fades_X0_tell_n115 : GoodIn wsX4_fades (wsX0_tell) := ggX4_fades_X0_tell
theorem dX4_fades_0 : decode cX4_fades 0 = .ok (.aload_n 0, 1) := by decide +kernel
theorem dX4_fades_1 : decode cX4_fades 1 = .ok (.iload_n 1, 1) := by decide +kernel
theorem dX4_fades_2 : decode cX4_fades 2 = .ok (.invokevirtual 47, 3) := by decide +kernel
theorem dX4_fades_5 : decode cX4_fades 5 = .ok (.iload_n 2, 1) := by decide +kernel
theorem dX4_fades_6 : decode cX4_fades 6 = .ok (.invokestatic 165, 3) := by decide +kernel
theorem dX4_fades_9 : decode cX4_fades 9 = .ok (.aload_n 0, 1) := by decide +kernel
theorem dX4_fades_10 : decode cX4_fades 10 = .ok (.getfield 23, 3) := by decide +kernel
theorem dX4_fades_13 : decode cX4_fades 13 = .ok (.aload_n 0, 1) := by decide +kernel
theorem dX4_fades_14 : decode cX4_fades 14 = .ok (.getfield 19, 3) := by decide +kernel
theorem dX4_fades_17 : decode cX4_fades 17 = .ok (.invokevirtual 175, 3) := by decide +kernel
theorem dX4_fades_20 : decode cX4_fades 20 = .ok (.aload_n 0, 1) := by decide +kernel
theorem dX4_fades_21 : decode cX4_fades 21 = .ok (.getfield 23, 3) := by decide +kernel
theorem dX4_fades_24 : decode cX4_fades 24 = .ok (.aload_n 0, 1) := by decide +kernel
theorem dX4_fades_25 : decode cX4_fades 25 = .ok (.getfield 10, 3) := by decide +kernel
theorem dX4_fades_28 : decode cX4_fades 28 = .ok (.iload_n 2, 1) := by decide +kernel
theorem dX4_fades_29 : decode cX4_fades 29 = .ok (.invokevirtual 168, 3) := by decide +kernel
theorem dX4_fades_32 : decode cX4_fades 32 = .ok (.pop, 1) := by decide +kernel
theorem dX4_fades_33 : decode cX4_fades 33 = .ok (.aload_n 0, 1) := by decide +kernel
theorem dX4_fades_34 : decode cX4_fades 34 = .ok (.getfield 10, 3) := by decide +kernel
theorem dX4_fades_37 : decode cX4_fades 37 = .ok (.aload_n 0, 1) := by decide +kernel
theorem dX4_fades_38 : decode cX4_fades 38 = .ok (.getfield 23, 3) := by decide +kernel
theorem dX4_fades_41 : decode cX4_fades 41 = .ok (.invokevirtual 115, 3) := by decide +kernel
theorem dX4_fades_44 : decode cX4_fades 44 = .ok (.aload_n 0, 1) := by decide +kernel
theorem dX4_fades_45 : decode cX4_fades 45 = .ok (.getfield 10, 3) := by decide +kernel
theorem dX4_fades_48 : decode cX4_fades 48 = .ok (.getfield 131, 3) := by decide +kernel
theorem dX4_fades_51 : decode cX4_fades 51 = .ok (.iload_n 1, 1) := by decide +kernel
theorem dX4_fades_52 : decode cX4_fades 52 = .ok (.iaload, 1) := by decide +kernel
theorem dX4_fades_53 : decode cX4_fades 53 = .ok (.ireturn, 1) := by decide +kernel
set_option maxRecDepth 20000 in
theorem ggX4_amends_X4_checkCord : GoodIn wsX4_amends wsX4_checkCord := goodIn_ca (goodIn_r _ [7, 8, 9, 1, 54, 55, 56, 57, 58, 59, 60, 61, 62, 63, 64, 65] (by decide +kernel) (by decide +kernel)) (goodIn_sub (fun _ h => List.mem_cons_of_mem _ (List.mem_append_right _ h)) (by decide +kernel))
set_option maxRecDepth 20000 in
theorem gX4_amends_X4_checkCord : GoodIn wsX4_amends (wsV RX4 47 RX4 yX4_checkCord wsX4_checkCord) := goodIn_app (goodIn_of _ (by decide +kernel)) ggX4_amends_X4_checkCord
set_option maxRecDepth 20000 in
theorem ggX4_amends_X0_tell : GoodIn wsX4_amends wsX0_tell := goodIn_r _ [13, 14, 15, 16, 17, 18, 19, 11, 20, 21, 22, 23, 24, 25, 26, 27, 28, 29, 30, 31, 32, 33, 34, 35, 36, 37, 38, 39, 40, 61, 62, 63, 64, 65, 66, 67] (by decide +kernel) (by decide +kernel)
set_option maxRecDepth 20000 in
theorem gX4_amends_X0_tell_n115 : GoodIn wsX4_amends (wsX0_tell) := ggX4_amends_X0_tell
set_option maxRecDepth 20000 in
theorem ggX4_amends_X4_agrees : GoodIn wsX4_amends wsX4_agrees := goodIn_r _ [44, 1, 2, 45, 11, 46, 47, 14, 22, 36, 37, 38, 39, 40, 54, 55, 56, 57, 58, 59, 60, 61, 62, 63, 64, 65, 66, 67] (by decide +kernel) (by decide +kernel)
set_option maxRecDepth 20000 in
theorem gX4_amends_X4_agrees : GoodIn wsX4_amends (wsV RX4 178 RX4 yX4_agrees wsX4_agrees) := goodIn_app (goodIn_of _ (by decide +kernel)) ggX4_amends_X4_agrees
set_option maxRecDepth 20000 in
theorem ggX4_amends_X1_differences : GoodIn wsX4_amends wsX1_differences := goodIn_r _ [50, 40, 51, 52, 34, 53, 66, 67] (by decide +kernel) (by decide +kernel)
set_option maxRecDepth 20000 in
theorem gX4_amends_X1_differences_n185 : GoodIn wsX4_amends (wsX1_differences) := ggX4_amends_X1_differences
theorem dX4_amends_0 : decode cX4_amends 0 = .ok (.aload_n 0, 1) := by decide +kernel
theorem dX4_amends_1 : decode cX4_amends 1 = .ok (.iload_n 1, 1) := by decide +kernel
theorem dX4_amends_2 : decode cX4_amends 2 = .ok (.invokevirtual 47, 3) := by decide +kernel
theorem dX4_amends_5 : decode cX4_amends 5 = .ok (.aload_n 0, 1) := by decide +kernel
theorem dX4_amends_6 : decode cX4_amends 6 = .ok (.getfield 10, 3) := by decide +kernel
theorem dX4_amends_9 : decode cX4_amends 9 = .ok (.aload_n 0, 1) := by decide +kernel
theorem dX4_amends_10 : decode cX4_amends 10 = .ok (.getfield 19, 3) := by decide +kernel
theorem dX4_amends_13 : decode cX4_amends 13 = .ok (.invokevirtual 115, 3) := by decide +kernel
theorem dX4_amends_16 : decode cX4_amends 16 = .ok (.aload_n 0, 1) := by decide +kernel
theorem dX4_amends_17 : decode cX4_amends 17 = .ok (.iload_n 1, 1) := by decide +kernel
theorem dX4_amends_18 : decode cX4_amends 18 = .ok (.invokevirtual 178, 3) := by decide +kernel
theorem dX4_amends_21 : decode cX4_amends 21 = .ok (.ifCond .eq 5, 3) := by decide +kernel
theorem dX4_amends_24 : decode cX4_amends 24 = .ok (.iconst 0, 1) := by decide +kernel
theorem dX4_amends_25 : decode cX4_amends 25 = .ok (.ireturn, 1) := by decide +kernel
theorem dX4_amends_26 : decode cX4_amends 26 = .ok (.aload_n 0, 1) := by decide +kernel
theorem dX4_amends_27 : decode cX4_amends 27 = .ok (.getfield 10, 3) := by decide +kernel
theorem dX4_amends_30 : decode cX4_amends 30 = .ok (.getfield 182, 3) := by decide +kernel
theorem dX4_amends_33 : decode cX4_amends 33 = .ok (.iload_n 1, 1) := by decide +kernel
theorem dX4_amends_34 : decode cX4_amends 34 = .ok (.iaload, 1) := by decide +kernel
theorem dX4_amends_35 : decode cX4_amends 35 = .ok (.istore_n 2, 1) := by decide +kernel
theorem dX4_amends_36 : decode cX4_amends 36 = .ok (.iload_n 2, 1) := by decide +kernel
theorem dX4_amends_37 : decode cX4_amends 37 = .ok (.ifCond .lt 10, 3) := by decide +kernel
theorem dX4_amends_40 : decode cX4_amends 40 = .ok (.iload_n 2, 1) := by decide +kernel
theorem dX4_amends_41 : decode cX4_amends 41 = .ok (.sipush 9999, 3) := by decide +kernel
theorem dX4_amends_44 : decode cX4_amends 44 = .ok (.if_icmp .le 5, 3) := by decide +kernel
theorem dX4_amends_47 : decode cX4_amends 47 = .ok (.iconst (-1), 1) := by decide +kernel
theorem dX4_amends_48 : decode cX4_amends 48 = .ok (.ireturn, 1) := by decide +kernel
theorem dX4_amends_49 : decode cX4_amends 49 = .ok (.aload_n 0, 1) := by decide +kernel
theorem dX4_amends_50 : decode cX4_amends 50 = .ok (.getfield 19, 3) := by decide +kernel
theorem dX4_amends_53 : decode cX4_amends 53 = .ok (.iload_n 1, 1) := by decide +kernel
theorem dX4_amends_54 : decode cX4_amends 54 = .ok (.iload_n 2, 1) := by decide +kernel
theorem dX4_amends_55 : decode cX4_amends 55 = .ok (.invokevirtual 185, 3) := by decide +kernel
theorem dX4_amends_58 : decode cX4_amends 58 = .ok (.ireturn, 1) := by decide +kernel
set_option maxRecDepth 20000 in
theorem ggX4_weighs_X0_tell : GoodIn wsX4_weighs wsX0_tell := goodIn_r _ [6, 7, 8, 9, 10, 11, 12, 4, 13, 14, 15, 16, 17, 18, 19, 20, 21, 22, 23, 24, 25, 26, 27, 28, 29, 30, 31, 32, 33, 62, 63, 64, 65, 66, 67, 68] (by decide +kernel) (by decide +kernel)
set_option maxRecDepth 20000 in
theorem gX4_weighs_X0_tell_n115 : GoodIn wsX4_weighs (wsX0_tell) := ggX4_weighs_X0_tell
set_option maxRecDepth 20000 in
theorem ggX4_weighs_X4_changeByKnot : GoodIn wsX4_weighs wsX4_changeByKnot := goodIn_r _ [38, 2, 39, 1, 40, 41, 27, 42, 43, 44, 45, 46, 47, 30, 48, 49, 33, 50, 51, 52, 53, 54, 3, 4, 5, 6, 7, 8, 9, 10, 11, 12, 13, 14, 15, 16, 17, 18, 19, 20, 21, 22, 23, 24, 25, 26, 28, 29, 31, 32, 55, 56, 57, 58, 59, 60, 61, 67, 68, 62, 63, 64, 65, 66] (by decide +kernel) (by decide +kernel)
set_option maxRecDepth 20000 in
theorem gX4_weighs_X4_changeByKnot : GoodIn wsX4_weighs (wsV RX4 188 RX4 yX4_changeByKnot wsX4_changeByKnot) := goodIn_app (goodIn_of _ (by decide +kernel)) ggX4_weighs_X4_changeByKnot
theorem dX4_weighs_0 : decode cX4_weighs 0 = .ok (.aload_n 0, 1) := by decide +kernel
theorem dX4_weighs_1 : decode cX4_weighs 1 = .ok (.getfield 10, 3) := by decide +kernel
theorem dX4_weighs_4 : decode cX4_weighs 4 = .ok (.getfield 58, 3) := by decide +kernel
theorem dX4_weighs_7 : decode cX4_weighs 7 = .ok (.ifCond .ne 5, 3) := by decide +kernel
theorem dX4_weighs_10 : decode cX4_weighs 10 = .ok (.iconst (-1), 1) := by decide +kernel
theorem dX4_weighs_11 : decode cX4_weighs 11 = .ok (.ireturn, 1) := by decide +kernel
theorem dX4_weighs_12 : decode cX4_weighs 12 = .ok (.aload_n 0, 1) := by decide +kernel
theorem dX4_weighs_13 : decode cX4_weighs 13 = .ok (.getfield 10, 3) := by decide +kernel
theorem dX4_weighs_16 : decode cX4_weighs 16 = .ok (.aload_n 0, 1) := by decide +kernel
theorem dX4_weighs_17 : decode cX4_weighs 17 = .ok (.getfield 19, 3) := by decide +kernel
theorem dX4_weighs_20 : decode cX4_weighs 20 = .ok (.invokevirtual 115, 3) := by decide +kernel
theorem dX4_weighs_23 : decode cX4_weighs 23 = .ok (.aload_n 0, 1) := by decide +kernel
theorem dX4_weighs_24 : decode cX4_weighs 24 = .ok (.getfield 10, 3) := by decide +kernel
theorem dX4_weighs_27 : decode cX4_weighs 27 = .ok (.getfield 131, 3) := by decide +kernel
theorem dX4_weighs_30 : decode cX4_weighs 30 = .ok (.iconst 0, 1) := by decide +kernel
theorem dX4_weighs_31 : decode cX4_weighs 31 = .ok (.iaload, 1) := by decide +kernel
theorem dX4_weighs_32 : decode cX4_weighs 32 = .ok (.istore_n 1, 1) := by decide +kernel
theorem dX4_weighs_33 : decode cX4_weighs 33 = .ok (.iconst (-1), 1) := by decide +kernel
theorem dX4_weighs_34 : decode cX4_weighs 34 = .ok (.istore_n 2, 1) := by decide +kernel
theorem dX4_weighs_35 : decode cX4_weighs 35 = .ok (.lconst 0, 1) := by decide +kernel
theorem dX4_weighs_36 : decode cX4_weighs 36 = .ok (.lstore_n 3, 1) := by decide +kernel
theorem dX4_weighs_37 : decode cX4_weighs 37 = .ok (.iconst 0, 1) := by decide +kernel
theorem dX4_weighs_38 : decode cX4_weighs 38 = .ok (.istore 5, 2) := by decide +kernel
theorem dX4_weighs_40 : decode cX4_weighs 40 = .ok (.iload 5, 2) := by decide +kernel
theorem dX4_weighs_42 : decode cX4_weighs 42 = .ok (.aload_n 0, 1) := by decide +kernel
theorem dX4_weighs_43 : decode cX4_weighs 43 = .ok (.getfield 10, 3) := by decide +kernel
theorem dX4_weighs_46 : decode cX4_weighs 46 = .ok (.getfield 58, 3) := by decide +kernel
theorem dX4_weighs_49 : decode cX4_weighs 49 = .ok (.if_icmp .ge 31, 3) := by decide +kernel
theorem dX4_weighs_52 : decode cX4_weighs 52 = .ok (.aload_n 0, 1) := by decide +kernel
theorem dX4_weighs_53 : decode cX4_weighs 53 = .ok (.iload 5, 2) := by decide +kernel
theorem dX4_weighs_55 : decode cX4_weighs 55 = .ok (.iload_n 1, 1) := by decide +kernel
theorem dX4_weighs_56 : decode cX4_weighs 56 = .ok (.invokevirtual 188, 3) := by decide +kernel
theorem dX4_weighs_59 : decode cX4_weighs 59 = .ok (.lstore 6, 2) := by decide +kernel
theorem dX4_weighs_61 : decode cX4_weighs 61 = .ok (.lload 6, 2) := by decide +kernel
theorem dX4_weighs_63 : decode cX4_weighs 63 = .ok (.lload_n 3, 1) := by decide +kernel
theorem dX4_weighs_64 : decode cX4_weighs 64 = .ok (.lcmp, 1) := by decide +kernel
theorem dX4_weighs_65 : decode cX4_weighs 65 = .ok (.ifCond .le 9, 3) := by decide +kernel
theorem dX4_weighs_68 : decode cX4_weighs 68 = .ok (.lload 6, 2) := by decide +kernel
theorem dX4_weighs_70 : decode cX4_weighs 70 = .ok (.lstore_n 3, 1) := by decide +kernel
theorem dX4_weighs_71 : decode cX4_weighs 71 = .ok (.iload 5, 2) := by decide +kernel
theorem dX4_weighs_73 : decode cX4_weighs 73 = .ok (.istore_n 2, 1) := by decide +kernel
theorem dX4_weighs_74 : decode cX4_weighs 74 = .ok (.iinc 5 1, 3) := by decide +kernel
theorem dX4_weighs_77 : decode cX4_weighs 77 = .ok (.goto (-37), 3) := by decide +kernel
theorem dX4_weighs_80 : decode cX4_weighs 80 = .ok (.iload_n 2, 1) := by decide +kernel
theorem dX4_weighs_81 : decode cX4_weighs 81 = .ok (.ireturn, 1) := by decide +kernel
set_option maxRecDepth 20000 in
theorem ggX4_line_X4_checkCord : GoodIn wsX4_line wsX4_checkCord := goodIn_ca (goodIn_r _ [10, 11, 12, 4, 202, 203, 204, 205, 206, 207, 208, 209, 210, 211, 212, 213] (by decide +kernel) (by decide +kernel)) (goodIn_sub (fun _ h => List.mem_cons_of_mem _ (List.mem_append_right _ h)) (by decide +kernel))
set_option maxRecDepth 20000 in
theorem gX4_line_X4_checkCord : GoodIn wsX4_line (wsV RX4 47 RX4 yX4_checkCord wsX4_checkCord) := goodIn_app (goodIn_of _ (by decide +kernel)) ggX4_line_X4_checkCord
set_option maxRecDepth 20000 in
theorem ggX4_line_J4_init_da8c8 : GoodIn wsX4_line wsJ4_init_da8c8 := goodIn_r _ [15, 16, 17, 18, 19, 20, 21, 22, 23, 24, 25, 26, 27, 28, 29, 30, 31, 32, 33, 34, 198, 199, 200, 201] (by decide +kernel) (by decide +kernel)
set_option maxRecDepth 20000 in
theorem gX4_line_J4_init_da8c8 : GoodIn wsX4_line (wsJ4_init_da8c8) := ggX4_line_J4_init_da8c8
set_option maxRecDepth 20000 in
theorem ggX4_line_J4_append_bf812 : GoodIn wsX4_line wsJ4_append_bf812 := goodIn_r _ [38, 39, 40, 41, 42, 18, 43, 44, 25, 45, 46, 47, 48, 49, 50, 51, 52, 53, 26, 54, 55, 56, 57, 58, 59, 60, 61, 62, 63, 64, 65, 66, 67, 68, 69, 70, 71, 72, 73, 74, 75, 76, 77, 78, 79, 80, 81, 24, 82, 83, 84, 85, 86, 87, 88, 89, 90, 91, 92, 93, 23, 94, 95, 96, 97, 98, 99, 100, 29, 101, 102, 103, 104, 105, 106, 107, 108, 109, 110, 111, 112, 113, 114, 115, 116, 117, 118, 119, 120, 121, 122, 123, 124, 125, 126, 127, 198, 199, 200, 201] (by decide +kernel) (by decide +kernel)
set_option maxRecDepth 20000 in
theorem gX4_line_J4_append_bf812 : GoodIn wsX4_line (wsV RX4 195 RJ4 yJ4_append_bf812 wsJ4_append_bf812) := goodIn_app (goodIn_of _ (by decide +kernel)) ggX4_line_J4_append_bf812
set_option maxRecDepth 20000 in
theorem ggX4_line_J4_append_cf468 : GoodIn wsX4_line wsJ4_append_cf468 := goodIn_r _ [131, 132, 133, 41, 134, 18, 135, 44, 25, 49, 50, 51, 52, 53, 26, 54, 55, 56, 57, 58, 59, 60, 61, 62, 63, 64, 65, 66, 67, 68, 69, 70, 71, 72, 73, 74, 75, 76, 77, 78, 79, 80, 81, 24, 82, 83, 84, 85, 86, 87, 88, 89, 90, 91, 92, 93, 23, 136, 137, 138, 139, 140, 141, 142, 143, 144, 27, 28, 29, 30, 31, 32, 33, 34, 145, 146, 147, 148, 149, 150, 151, 152, 153, 106, 107, 108, 154, 155, 111, 156, 113, 157, 158, 116, 159, 123, 124, 125, 102, 126, 127, 160, 161, 162, 163, 164, 165, 166, 167, 168, 169, 170, 171, 198, 199, 200, 201] (by decide +kernel) (by decide +kernel)
set_option maxRecDepth 20000 in
theorem gX4_line_J4_append_cf468 : GoodIn wsX4_line (wsV RX4 199 RJ4 yJ4_append_cf468 wsJ4_append_cf468) := goodIn_app (goodIn_of _ (by decide +kernel)) ggX4_line_J4_append_cf468
set_option maxRecDepth 20000 in
theorem ggX4_line_X1_digits : GoodIn wsX4_line wsX1_digits := goodIn_r _ [175, 176, 214, 215] (by decide +kernel) (by decide +kernel)
set_option maxRecDepth 20000 in
theorem gX4_line_X1_digits_n78 : GoodIn wsX4_line (wsX1_digits) := ggX4_line_X1_digits
set_option maxRecDepth 20000 in
theorem ggX4_line_J4_length_8abf5 : GoodIn wsX4_line wsJ4_length_8abf5 := goodIn_r _ [180, 181, 182, 41, 183, 18, 184, 44, 198, 199, 200, 201] (by decide +kernel) (by decide +kernel)
set_option maxRecDepth 20000 in
theorem gX4_line_J4_length_8abf5 : GoodIn wsX4_line (wsV RX4 205 RJ4 yJ4_length_8abf5 wsJ4_length_8abf5) := goodIn_app (goodIn_of _ (by decide +kernel)) ggX4_line_J4_length_8abf5
set_option maxRecDepth 20000 in
theorem ggX4_line_J4_charAt_5068e : GoodIn wsX4_line wsJ4_charAt_5068e := goodIn_r _ [188, 189, 190, 41, 191, 18, 192, 26, 25, 44, 193, 83, 66, 84, 194, 167, 111, 168, 113, 169, 170, 116, 171, 195, 196, 29, 197, 102, 126, 127, 106, 107, 108, 198, 199, 200, 201] (by decide +kernel) (by decide +kernel)
set_option maxRecDepth 20000 in
theorem gX4_line_J4_charAt_5068e : GoodIn wsX4_line (wsV RX4 208 RJ4 yJ4_charAt_5068e wsJ4_charAt_5068e) := goodIn_app (goodIn_of _ (by decide +kernel)) ggX4_line_J4_charAt_5068e
theorem dX4_line_0 : decode cX4_line 0 = .ok (.aload_n 0, 1) := by decide +kernel
theorem dX4_line_1 : decode cX4_line 1 = .ok (.iload_n 1, 1) := by decide +kernel
theorem dX4_line_2 : decode cX4_line 2 = .ok (.invokevirtual 47, 3) := by decide +kernel
theorem dX4_line_5 : decode cX4_line 5 = .ok (.new 192, 3) := by decide +kernel
theorem dX4_line_8 : decode cX4_line 8 = .ok (.dup, 1) := by decide +kernel
theorem dX4_line_9 : decode cX4_line 9 = .ok (.invokespecial 194, 3) := by decide +kernel
theorem dX4_line_12 : decode cX4_line 12 = .ok (.astore_n 2, 1) := by decide +kernel
theorem dX4_line_13 : decode cX4_line 13 = .ok (.aload_n 2, 1) := by decide +kernel
theorem dX4_line_14 : decode cX4_line 14 = .ok (.iload_n 1, 1) := by decide +kernel
theorem dX4_line_15 : decode cX4_line 15 = .ok (.invokevirtual 195, 3) := by decide +kernel
theorem dX4_line_18 : decode cX4_line 18 = .ok (.pop, 1) := by decide +kernel
theorem dX4_line_19 : decode cX4_line 19 = .ok (.aload_n 2, 1) := by decide +kernel
theorem dX4_line_20 : decode cX4_line 20 = .ok (.bipush 58, 2) := by decide +kernel
theorem dX4_line_22 : decode cX4_line 22 = .ok (.invokevirtual 199, 3) := by decide +kernel
theorem dX4_line_25 : decode cX4_line 25 = .ok (.pop, 1) := by decide +kernel
theorem dX4_line_26 : decode cX4_line 26 = .ok (.aload_n 2, 1) := by decide +kernel
theorem dX4_line_27 : decode cX4_line 27 = .ok (.aload_n 0, 1) := by decide +kernel
theorem dX4_line_28 : decode cX4_line 28 = .ok (.getfield 10, 3) := by decide +kernel
theorem dX4_line_31 : decode cX4_line 31 = .ok (.getfield 202, 3) := by decide +kernel
theorem dX4_line_34 : decode cX4_line 34 = .ok (.iload_n 1, 1) := by decide +kernel
theorem dX4_line_35 : decode cX4_line 35 = .ok (.iaload, 1) := by decide +kernel
theorem dX4_line_36 : decode cX4_line 36 = .ok (.invokevirtual 195, 3) := by decide +kernel
theorem dX4_line_39 : decode cX4_line 39 = .ok (.pop, 1) := by decide +kernel
theorem dX4_line_40 : decode cX4_line 40 = .ok (.aload_n 2, 1) := by decide +kernel
theorem dX4_line_41 : decode cX4_line 41 = .ok (.bipush 58, 2) := by decide +kernel
theorem dX4_line_43 : decode cX4_line 43 = .ok (.invokevirtual 199, 3) := by decide +kernel
theorem dX4_line_46 : decode cX4_line 46 = .ok (.pop, 1) := by decide +kernel
theorem dX4_line_47 : decode cX4_line 47 = .ok (.aload_n 2, 1) := by decide +kernel
theorem dX4_line_48 : decode cX4_line 48 = .ok (.aload_n 0, 1) := by decide +kernel
theorem dX4_line_49 : decode cX4_line 49 = .ok (.getfield 19, 3) := by decide +kernel
theorem dX4_line_52 : decode cX4_line 52 = .ok (.iload_n 1, 1) := by decide +kernel
theorem dX4_line_53 : decode cX4_line 53 = .ok (.invokevirtual 78, 3) := by decide +kernel
theorem dX4_line_56 : decode cX4_line 56 = .ok (.invokevirtual 195, 3) := by decide +kernel
theorem dX4_line_59 : decode cX4_line 59 = .ok (.pop, 1) := by decide +kernel
theorem dX4_line_60 : decode cX4_line 60 = .ok (.iconst 0, 1) := by decide +kernel
theorem dX4_line_61 : decode cX4_line 61 = .ok (.istore_n 3, 1) := by decide +kernel
theorem dX4_line_62 : decode cX4_line 62 = .ok (.iconst 0, 1) := by decide +kernel
theorem dX4_line_63 : decode cX4_line 63 = .ok (.istore 4, 2) := by decide +kernel
theorem dX4_line_65 : decode cX4_line 65 = .ok (.iload 4, 2) := by decide +kernel
theorem dX4_line_67 : decode cX4_line 67 = .ok (.aload_n 2, 1) := by decide +kernel
theorem dX4_line_68 : decode cX4_line 68 = .ok (.invokevirtual 205, 3) := by decide +kernel
theorem dX4_line_71 : decode cX4_line 71 = .ok (.if_icmp .ge 21, 3) := by decide +kernel
theorem dX4_line_74 : decode cX4_line 74 = .ok (.iload_n 3, 1) := by decide +kernel
theorem dX4_line_75 : decode cX4_line 75 = .ok (.bipush 31, 2) := by decide +kernel
theorem dX4_line_77 : decode cX4_line 77 = .ok (.imul, 1) := by decide +kernel
theorem dX4_line_78 : decode cX4_line 78 = .ok (.aload_n 2, 1) := by decide +kernel
theorem dX4_line_79 : decode cX4_line 79 = .ok (.iload 4, 2) := by decide +kernel
theorem dX4_line_81 : decode cX4_line 81 = .ok (.invokevirtual 208, 3) := by decide +kernel
theorem dX4_line_84 : decode cX4_line 84 = .ok (.iadd, 1) := by decide +kernel
theorem dX4_line_85 : decode cX4_line 85 = .ok (.istore_n 3, 1) := by decide +kernel
theorem dX4_line_86 : decode cX4_line 86 = .ok (.iinc 4 1, 3) := by decide +kernel
theorem dX4_line_89 : decode cX4_line 89 = .ok (.goto (-24), 3) := by decide +kernel
theorem dX4_line_92 : decode cX4_line 92 = .ok (.iload_n 3, 1) := by decide +kernel
theorem dX4_line_93 : decode cX4_line 93 = .ok (.ireturn, 1) := by decide +kernel
theorem dX4_mean_0 : decode cX4_mean 0 = .ok (.aload_n 0, 1) := by decide +kernel
theorem dX4_mean_1 : decode cX4_mean 1 = .ok (.getfield 29, 3) := by decide +kernel
theorem dX4_mean_4 : decode cX4_mean 4 = .ok (.getfield 125, 3) := by decide +kernel
theorem dX4_mean_7 : decode cX4_mean 7 = .ok (.ifCond .ne 5, 3) := by decide +kernel
theorem dX4_mean_10 : decode cX4_mean 10 = .ok (.dconst 0, 1) := by decide +kernel
theorem dX4_mean_11 : decode cX4_mean 11 = .ok (.dreturn, 1) := by decide +kernel
theorem dX4_mean_12 : decode cX4_mean 12 = .ok (.iconst 0, 1) := by decide +kernel
theorem dX4_mean_13 : decode cX4_mean 13 = .ok (.istore_n 1, 1) := by decide +kernel
theorem dX4_mean_14 : decode cX4_mean 14 = .ok (.iconst 0, 1) := by decide +kernel
theorem dX4_mean_15 : decode cX4_mean 15 = .ok (.istore_n 2, 1) := by decide +kernel
theorem dX4_mean_16 : decode cX4_mean 16 = .ok (.iload_n 2, 1) := by decide +kernel
theorem dX4_mean_17 : decode cX4_mean 17 = .ok (.aload_n 0, 1) := by decide +kernel
theorem dX4_mean_18 : decode cX4_mean 18 = .ok (.getfield 29, 3) := by decide +kernel
theorem dX4_mean_21 : decode cX4_mean 21 = .ok (.getfield 125, 3) := by decide +kernel
theorem dX4_mean_24 : decode cX4_mean 24 = .ok (.if_icmp .ge 21, 3) := by decide +kernel
theorem dX4_mean_27 : decode cX4_mean 27 = .ok (.iload_n 1, 1) := by decide +kernel
theorem dX4_mean_28 : decode cX4_mean 28 = .ok (.aload_n 0, 1) := by decide +kernel
theorem dX4_mean_29 : decode cX4_mean 29 = .ok (.getfield 29, 3) := by decide +kernel
theorem dX4_mean_32 : decode cX4_mean 32 = .ok (.getfield 143, 3) := by decide +kernel
theorem dX4_mean_35 : decode cX4_mean 35 = .ok (.iload_n 2, 1) := by decide +kernel
theorem dX4_mean_36 : decode cX4_mean 36 = .ok (.iaload, 1) := by decide +kernel
theorem dX4_mean_37 : decode cX4_mean 37 = .ok (.iadd, 1) := by decide +kernel
theorem dX4_mean_38 : decode cX4_mean 38 = .ok (.istore_n 1, 1) := by decide +kernel
theorem dX4_mean_39 : decode cX4_mean 39 = .ok (.iinc 2 1, 3) := by decide +kernel
theorem dX4_mean_42 : decode cX4_mean 42 = .ok (.goto (-26), 3) := by decide +kernel
theorem dX4_mean_45 : decode cX4_mean 45 = .ok (.iload_n 1, 1) := by decide +kernel
theorem dX4_mean_46 : decode cX4_mean 46 = .ok (.i2d, 1) := by decide +kernel
theorem dX4_mean_47 : decode cX4_mean 47 = .ok (.aload_n 0, 1) := by decide +kernel
theorem dX4_mean_48 : decode cX4_mean 48 = .ok (.getfield 29, 3) := by decide +kernel
theorem dX4_mean_51 : decode cX4_mean 51 = .ok (.getfield 125, 3) := by decide +kernel
theorem dX4_mean_54 : decode cX4_mean 54 = .ok (.i2d, 1) := by decide +kernel
theorem dX4_mean_55 : decode cX4_mean 55 = .ok (.ddiv, 1) := by decide +kernel
theorem dX4_mean_56 : decode cX4_mean 56 = .ok (.dreturn, 1) := by decide +kernel
set_option maxRecDepth 20000 in
theorem ggX4_digest_X0_tell : GoodIn wsX4_digest wsX0_tell := goodIn_r _ [8, 9, 10, 11, 12, 13, 14, 6, 15, 16, 17, 18, 19, 20, 21, 22, 23, 24, 25, 26, 27, 28, 29, 30, 31, 32, 33, 34, 35, 101, 102, 103, 104, 105, 106, 107] (by decide +kernel) (by decide +kernel)
set_option maxRecDepth 20000 in
theorem gX4_digest_X0_tell_n115 : GoodIn wsX4_digest (wsX0_tell) := ggX4_digest_X0_tell
set_option maxRecDepth 20000 in
theorem ggX4_digest_X4_total : GoodIn wsX4_digest wsX4_total := goodIn_r _ [40, 41, 1, 42, 43, 44, 45, 46, 47, 39, 48, 2, 49, 50, 51, 52, 53, 54, 55, 56, 57, 6, 58, 59, 9, 17, 31, 32, 33, 34, 35, 60, 61, 62, 63, 94, 95, 96, 97, 98, 99, 100, 101, 102, 103, 104, 105, 108, 109, 110, 111, 112, 113, 106, 107] (by decide +kernel) (by decide +kernel)
set_option maxRecDepth 20000 in
theorem gX4_digest_X4_total : GoodIn wsX4_digest (wsV RX4 172 RX4 yX4_total wsX4_total) := goodIn_app (goodIn_of _ (by decide +kernel)) ggX4_digest_X4_total
set_option maxRecDepth 20000 in
theorem ggX4_digest_X4_digestCords : GoodIn wsX4_digest wsX4_digestCords := goodIn_r _ [67, 1, 4, 2, 68, 69, 70, 39, 71, 31, 32, 33, 34, 35, 57, 6, 58, 59, 9, 17, 53, 54, 55, 56, 72, 73, 74, 75, 94, 95, 96, 97, 98, 99, 100, 101, 102, 103, 104, 105, 106, 107] (by decide +kernel) (by decide +kernel)
set_option maxRecDepth 20000 in
theorem gX4_digest_X4_digestCords : GoodIn wsX4_digest (wsV RX4 216 RX4 yX4_digestCords wsX4_digestCords) := goodIn_app (goodIn_of _ (by decide +kernel)) ggX4_digest_X4_digestCords
set_option maxRecDepth 20000 in
theorem ggX4_digest_X4_digestWitnesses : GoodIn wsX4_digest wsX4_digestWitnesses := goodIn_r _ [79, 42, 4, 1, 80, 81, 82, 83, 84, 85, 86, 87, 88, 89, 94, 95, 96, 97, 98, 99, 100, 108, 109, 110, 111, 101, 102, 103, 104, 105] (by decide +kernel) (by decide +kernel)
set_option maxRecDepth 20000 in
theorem gX4_digest_X4_digestWitnesses : GoodIn wsX4_digest (wsV RX4 220 RX4 yX4_digestWitnesses wsX4_digestWitnesses) := goodIn_app (goodIn_of _ (by decide +kernel)) ggX4_digest_X4_digestWitnesses
set_option maxRecDepth 20000 in
theorem ggX4_digest_X4_digestUntyings : GoodIn wsX4_digest wsX4_digestUntyings := goodIn_r _ [93, 43, 4, 94, 95, 96, 97, 98, 99, 100, 112, 113] (by decide +kernel) (by decide +kernel)
set_option maxRecDepth 20000 in
theorem gX4_digest_X4_digestUntyings : GoodIn wsX4_digest (wsV RX4 223 RX4 yX4_digestUntyings wsX4_digestUntyings) := goodIn_app (goodIn_of _ (by decide +kernel)) ggX4_digest_X4_digestUntyings
theorem dX4_digest_0 : decode cX4_digest 0 = .ok (.aload_n 0, 1) := by decide +kernel
theorem dX4_digest_1 : decode cX4_digest 1 = .ok (.getfield 10, 3) := by decide +kernel
theorem dX4_digest_4 : decode cX4_digest 4 = .ok (.aload_n 0, 1) := by decide +kernel
theorem dX4_digest_5 : decode cX4_digest 5 = .ok (.getfield 19, 3) := by decide +kernel
theorem dX4_digest_8 : decode cX4_digest 8 = .ok (.invokevirtual 115, 3) := by decide +kernel
theorem dX4_digest_11 : decode cX4_digest 11 = .ok (.ldc2_w 212, 3) := by decide +kernel
theorem dX4_digest_14 : decode cX4_digest 14 = .ok (.lstore_n 1, 1) := by decide +kernel
theorem dX4_digest_15 : decode cX4_digest 15 = .ok (.iconst 0, 1) := by decide +kernel
theorem dX4_digest_16 : decode cX4_digest 16 = .ok (.istore_n 3, 1) := by decide +kernel
theorem dX4_digest_17 : decode cX4_digest 17 = .ok (.iload_n 3, 1) := by decide +kernel
theorem dX4_digest_18 : decode cX4_digest 18 = .ok (.bipush 8, 2) := by decide +kernel
theorem dX4_digest_20 : decode cX4_digest 20 = .ok (.if_icmp .ge 22, 3) := by decide +kernel
theorem dX4_digest_23 : decode cX4_digest 23 = .ok (.lload_n 1, 1) := by decide +kernel
theorem dX4_digest_24 : decode cX4_digest 24 = .ok (.ldc2_w 214, 3) := by decide +kernel
theorem dX4_digest_27 : decode cX4_digest 27 = .ok (.lmul, 1) := by decide +kernel
theorem dX4_digest_28 : decode cX4_digest 28 = .ok (.aload_n 0, 1) := by decide +kernel
theorem dX4_digest_29 : decode cX4_digest 29 = .ok (.iload_n 3, 1) := by decide +kernel
theorem dX4_digest_30 : decode cX4_digest 30 = .ok (.invokevirtual 172, 3) := by decide +kernel
theorem dX4_digest_33 : decode cX4_digest 33 = .ok (.i2l, 1) := by decide +kernel
theorem dX4_digest_34 : decode cX4_digest 34 = .ok (.ladd, 1) := by decide +kernel
theorem dX4_digest_35 : decode cX4_digest 35 = .ok (.lstore_n 1, 1) := by decide +kernel
theorem dX4_digest_36 : decode cX4_digest 36 = .ok (.iinc 3 1, 3) := by decide +kernel
theorem dX4_digest_39 : decode cX4_digest 39 = .ok (.goto (-22), 3) := by decide +kernel
theorem dX4_digest_42 : decode cX4_digest 42 = .ok (.aload_n 0, 1) := by decide +kernel
theorem dX4_digest_43 : decode cX4_digest 43 = .ok (.lload_n 1, 1) := by decide +kernel
theorem dX4_digest_44 : decode cX4_digest 44 = .ok (.invokevirtual 216, 3) := by decide +kernel
theorem dX4_digest_47 : decode cX4_digest 47 = .ok (.lstore_n 1, 1) := by decide +kernel
theorem dX4_digest_48 : decode cX4_digest 48 = .ok (.aload_n 0, 1) := by decide +kernel
theorem dX4_digest_49 : decode cX4_digest 49 = .ok (.lload_n 1, 1) := by decide +kernel
theorem dX4_digest_50 : decode cX4_digest 50 = .ok (.invokevirtual 220, 3) := by decide +kernel
theorem dX4_digest_53 : decode cX4_digest 53 = .ok (.lstore_n 1, 1) := by decide +kernel
theorem dX4_digest_54 : decode cX4_digest 54 = .ok (.aload_n 0, 1) := by decide +kernel
theorem dX4_digest_55 : decode cX4_digest 55 = .ok (.lload_n 1, 1) := by decide +kernel
theorem dX4_digest_56 : decode cX4_digest 56 = .ok (.invokevirtual 223, 3) := by decide +kernel
theorem dX4_digest_59 : decode cX4_digest 59 = .ok (.lreturn, 1) := by decide +kernel
theorem dX4_checkCord_0 : decode cX4_checkCord 0 = .ok (.iload_n 1, 1) := by decide +kernel
theorem dX4_checkCord_1 : decode cX4_checkCord 1 = .ok (.ifCond .lt 14, 3) := by decide +kernel
theorem dX4_checkCord_4 : decode cX4_checkCord 4 = .ok (.iload_n 1, 1) := by decide +kernel
theorem dX4_checkCord_5 : decode cX4_checkCord 5 = .ok (.aload_n 0, 1) := by decide +kernel
theorem dX4_checkCord_6 : decode cX4_checkCord 6 = .ok (.getfield 10, 3) := by decide +kernel
theorem dX4_checkCord_9 : decode cX4_checkCord 9 = .ok (.getfield 58, 3) := by decide +kernel
theorem dX4_checkCord_12 : decode cX4_checkCord 12 = .ok (.if_icmp .lt 13, 3) := by decide +kernel
theorem dX4_checkCord_15 : decode cX4_checkCord 15 = .ok (.new 157, 3) := by decide +kernel
theorem dX4_checkCord_18 : decode cX4_checkCord 18 = .ok (.dup, 1) := by decide +kernel
theorem dX4_checkCord_19 : decode cX4_checkCord 19 = .ok (.ldc 226, 2) := by decide +kernel
theorem dX4_checkCord_21 : decode cX4_checkCord 21 = .ok (.invokespecial 161, 3) := by decide +kernel
theorem dX4_checkCord_24 : decode cX4_checkCord 24 = .ok (.athrow, 1) := by decide +kernel
theorem dX4_checkCord_25 : decode cX4_checkCord 25 = .ok (.return_, 1) := by decide +kernel
theorem dX4_checkWitness_0 : decode cX4_checkWitness 0 = .ok (.iload_n 1, 1) := by decide +kernel
theorem dX4_checkWitness_1 : decode cX4_checkWitness 1 = .ok (.ifCond .lt 14, 3) := by decide +kernel
theorem dX4_checkWitness_4 : decode cX4_checkWitness 4 = .ok (.iload_n 1, 1) := by decide +kernel
theorem dX4_checkWitness_5 : decode cX4_checkWitness 5 = .ok (.aload_n 0, 1) := by decide +kernel
theorem dX4_checkWitness_6 : decode cX4_checkWitness 6 = .ok (.getfield 29, 3) := by decide +kernel
theorem dX4_checkWitness_9 : decode cX4_checkWitness 9 = .ok (.getfield 125, 3) := by decide +kernel
theorem dX4_checkWitness_12 : decode cX4_checkWitness 12 = .ok (.if_icmp .lt 13, 3) := by decide +kernel
theorem dX4_checkWitness_15 : decode cX4_checkWitness 15 = .ok (.new 157, 3) := by decide +kernel
theorem dX4_checkWitness_18 : decode cX4_checkWitness 18 = .ok (.dup, 1) := by decide +kernel
theorem dX4_checkWitness_19 : decode cX4_checkWitness 19 = .ok (.ldc 228, 2) := by decide +kernel
theorem dX4_checkWitness_21 : decode cX4_checkWitness 21 = .ok (.invokespecial 161, 3) := by decide +kernel
theorem dX4_checkWitness_24 : decode cX4_checkWitness 24 = .ok (.athrow, 1) := by decide +kernel
theorem dX4_checkWitness_25 : decode cX4_checkWitness 25 = .ok (.return_, 1) := by decide +kernel
theorem dX4_checkPlace_0 : decode cX4_checkPlace 0 = .ok (.iload_n 0, 1) := by decide +kernel
theorem dX4_checkPlace_1 : decode cX4_checkPlace 1 = .ok (.ifCond .lt 8, 3) := by decide +kernel
theorem dX4_checkPlace_4 : decode cX4_checkPlace 4 = .ok (.iload_n 0, 1) := by decide +kernel
theorem dX4_checkPlace_5 : decode cX4_checkPlace 5 = .ok (.iconst 4, 1) := by decide +kernel
theorem dX4_checkPlace_6 : decode cX4_checkPlace 6 = .ok (.if_icmp .lt 13, 3) := by decide +kernel
theorem dX4_checkPlace_9 : decode cX4_checkPlace 9 = .ok (.new 157, 3) := by decide +kernel
theorem dX4_checkPlace_12 : decode cX4_checkPlace 12 = .ok (.dup, 1) := by decide +kernel
theorem dX4_checkPlace_13 : decode cX4_checkPlace 13 = .ok (.ldc 230, 2) := by decide +kernel
theorem dX4_checkPlace_15 : decode cX4_checkPlace 15 = .ok (.invokespecial 161, 3) := by decide +kernel
theorem dX4_checkPlace_18 : decode cX4_checkPlace 18 = .ok (.athrow, 1) := by decide +kernel
theorem dX4_checkPlace_19 : decode cX4_checkPlace 19 = .ok (.return_, 1) := by decide +kernel
theorem dX4_checkWhat_0 : decode cX4_checkWhat 0 = .ok (.iload_n 0, 1) := by decide +kernel
theorem dX4_checkWhat_1 : decode cX4_checkWhat 1 = .ok (.ifCond .lt 8, 3) := by decide +kernel
theorem dX4_checkWhat_4 : decode cX4_checkWhat 4 = .ok (.iload_n 0, 1) := by decide +kernel
theorem dX4_checkWhat_5 : decode cX4_checkWhat 5 = .ok (.iload_n 1, 1) := by decide +kernel
theorem dX4_checkWhat_6 : decode cX4_checkWhat 6 = .ok (.if_icmp .lt 13, 3) := by decide +kernel
theorem dX4_checkWhat_9 : decode cX4_checkWhat 9 = .ok (.new 157, 3) := by decide +kernel
theorem dX4_checkWhat_12 : decode cX4_checkWhat 12 = .ok (.dup, 1) := by decide +kernel
theorem dX4_checkWhat_13 : decode cX4_checkWhat 13 = .ok (.ldc 232, 2) := by decide +kernel
theorem dX4_checkWhat_15 : decode cX4_checkWhat 15 = .ok (.invokespecial 161, 3) := by decide +kernel
theorem dX4_checkWhat_18 : decode cX4_checkWhat 18 = .ok (.athrow, 1) := by decide +kernel
theorem dX4_checkWhat_19 : decode cX4_checkWhat 19 = .ok (.return_, 1) := by decide +kernel
theorem dX4_checkYears_0 : decode cX4_checkYears 0 = .ok (.iload_n 0, 1) := by decide +kernel
theorem dX4_checkYears_1 : decode cX4_checkYears 1 = .ok (.iconst 1, 1) := by decide +kernel
theorem dX4_checkYears_2 : decode cX4_checkYears 2 = .ok (.if_icmp .lt 9, 3) := by decide +kernel
theorem dX4_checkYears_5 : decode cX4_checkYears 5 = .ok (.iload_n 0, 1) := by decide +kernel
theorem dX4_checkYears_6 : decode cX4_checkYears 6 = .ok (.bipush 50, 2) := by decide +kernel
theorem dX4_checkYears_8 : decode cX4_checkYears 8 = .ok (.if_icmp .le 13, 3) := by decide +kernel
theorem dX4_checkYears_11 : decode cX4_checkYears 11 = .ok (.new 51, 3) := by decide +kernel
theorem dX4_checkYears_14 : decode cX4_checkYears 14 = .ok (.dup, 1) := by decide +kernel
theorem dX4_checkYears_15 : decode cX4_checkYears 15 = .ok (.ldc 234, 2) := by decide +kernel
theorem dX4_checkYears_17 : decode cX4_checkYears 17 = .ok (.invokespecial 55, 3) := by decide +kernel
theorem dX4_checkYears_20 : decode cX4_checkYears 20 = .ok (.athrow, 1) := by decide +kernel
theorem dX4_checkYears_21 : decode cX4_checkYears 21 = .ok (.return_, 1) := by decide +kernel
set_option maxRecDepth 20000 in
theorem ggX4_cordDetail_X1_digits : GoodIn wsX4_cordDetail wsX1_digits := goodIn_r _ [6, 7, 35, 36] (by decide +kernel) (by decide +kernel)
set_option maxRecDepth 20000 in
theorem gX4_cordDetail_X1_digits_n78 : GoodIn wsX4_cordDetail (wsX1_digits) := ggX4_cordDetail_X1_digits
set_option maxRecDepth 20000 in
theorem ggX4_cordDetail_X0_hangingFrom : GoodIn wsX4_cordDetail wsX0_hangingFrom := goodIn_r _ [11, 12, 13, 30, 31, 32, 33, 34] (by decide +kernel) (by decide +kernel)
set_option maxRecDepth 20000 in
theorem gX4_cordDetail_X0_hangingFrom_n66 : GoodIn wsX4_cordDetail (wsX0_hangingFrom) := ggX4_cordDetail_X0_hangingFrom
set_option maxRecDepth 20000 in
theorem ggX4_cordDetail_X4_agrees : GoodIn wsX4_cordDetail wsX4_agrees := goodIn_r _ [18, 1, 2, 8, 9, 10, 11, 12, 13, 3, 4, 5, 6, 7, 23, 24, 25, 26, 27, 28, 29, 30, 31, 32, 33, 34, 35, 36] (by decide +kernel) (by decide +kernel)
set_option maxRecDepth 20000 in
theorem gX4_cordDetail_X4_agrees : GoodIn wsX4_cordDetail (wsV RX4 178 RX4 yX4_agrees wsX4_agrees) := goodIn_app (goodIn_of _ (by decide +kernel)) ggX4_cordDetail_X4_agrees
set_option maxRecDepth 20000 in
theorem ggX4_cordDetail_X1_allFrays : GoodIn wsX4_cordDetail wsX1_allFrays := goodIn_r _ [21, 22, 35, 36] (by decide +kernel) (by decide +kernel)
set_option maxRecDepth 20000 in
theorem gX4_cordDetail_X1_allFrays_n106 : GoodIn wsX4_cordDetail (wsX1_allFrays) := ggX4_cordDetail_X1_allFrays
theorem dX4_cordDetail_0 : decode cX4_cordDetail 0 = .ok (.iload_n 2, 1) := by decide +kernel
theorem dX4_cordDetail_1 : decode cX4_cordDetail 1 = .ok (.tableswitch 115 0 6 #[43, 53, 63, 72, 82, 92, 101], 43) := by decide +kernel
theorem dX4_cordDetail_44 : decode cX4_cordDetail 44 = .ok (.aload_n 0, 1) := by decide +kernel
theorem dX4_cordDetail_45 : decode cX4_cordDetail 45 = .ok (.getfield 10, 3) := by decide +kernel
theorem dX4_cordDetail_48 : decode cX4_cordDetail 48 = .ok (.getfield 236, 3) := by decide +kernel
theorem dX4_cordDetail_51 : decode cX4_cordDetail 51 = .ok (.iload_n 1, 1) := by decide +kernel
theorem dX4_cordDetail_52 : decode cX4_cordDetail 52 = .ok (.iaload, 1) := by decide +kernel
theorem dX4_cordDetail_53 : decode cX4_cordDetail 53 = .ok (.ireturn, 1) := by decide +kernel
theorem dX4_cordDetail_54 : decode cX4_cordDetail 54 = .ok (.aload_n 0, 1) := by decide +kernel
theorem dX4_cordDetail_55 : decode cX4_cordDetail 55 = .ok (.getfield 10, 3) := by decide +kernel
theorem dX4_cordDetail_58 : decode cX4_cordDetail 58 = .ok (.getfield 202, 3) := by decide +kernel
theorem dX4_cordDetail_61 : decode cX4_cordDetail 61 = .ok (.iload_n 1, 1) := by decide +kernel
theorem dX4_cordDetail_62 : decode cX4_cordDetail 62 = .ok (.iaload, 1) := by decide +kernel
theorem dX4_cordDetail_63 : decode cX4_cordDetail 63 = .ok (.ireturn, 1) := by decide +kernel
theorem dX4_cordDetail_64 : decode cX4_cordDetail 64 = .ok (.aload_n 0, 1) := by decide +kernel
theorem dX4_cordDetail_65 : decode cX4_cordDetail 65 = .ok (.getfield 19, 3) := by decide +kernel
theorem dX4_cordDetail_68 : decode cX4_cordDetail 68 = .ok (.iload_n 1, 1) := by decide +kernel
theorem dX4_cordDetail_69 : decode cX4_cordDetail 69 = .ok (.invokevirtual 78, 3) := by decide +kernel
theorem dX4_cordDetail_72 : decode cX4_cordDetail 72 = .ok (.ireturn, 1) := by decide +kernel
theorem dX4_cordDetail_73 : decode cX4_cordDetail 73 = .ok (.aload_n 0, 1) := by decide +kernel
theorem dX4_cordDetail_74 : decode cX4_cordDetail 74 = .ok (.getfield 10, 3) := by decide +kernel
theorem dX4_cordDetail_77 : decode cX4_cordDetail 77 = .ok (.getfield 131, 3) := by decide +kernel
theorem dX4_cordDetail_80 : decode cX4_cordDetail 80 = .ok (.iload_n 1, 1) := by decide +kernel
theorem dX4_cordDetail_81 : decode cX4_cordDetail 81 = .ok (.iaload, 1) := by decide +kernel
theorem dX4_cordDetail_82 : decode cX4_cordDetail 82 = .ok (.ireturn, 1) := by decide +kernel
theorem dX4_cordDetail_83 : decode cX4_cordDetail 83 = .ok (.aload_n 0, 1) := by decide +kernel
theorem dX4_cordDetail_84 : decode cX4_cordDetail 84 = .ok (.getfield 10, 3) := by decide +kernel
theorem dX4_cordDetail_87 : decode cX4_cordDetail 87 = .ok (.getfield 182, 3) := by decide +kernel
theorem dX4_cordDetail_90 : decode cX4_cordDetail 90 = .ok (.iload_n 1, 1) := by decide +kernel
theorem dX4_cordDetail_91 : decode cX4_cordDetail 91 = .ok (.iaload, 1) := by decide +kernel
theorem dX4_cordDetail_92 : decode cX4_cordDetail 92 = .ok (.ireturn, 1) := by decide +kernel
theorem dX4_cordDetail_93 : decode cX4_cordDetail 93 = .ok (.aload_n 0, 1) := by decide +kernel
theorem dX4_cordDetail_94 : decode cX4_cordDetail 94 = .ok (.getfield 10, 3) := by decide +kernel
theorem dX4_cordDetail_97 : decode cX4_cordDetail 97 = .ok (.iload_n 1, 1) := by decide +kernel
theorem dX4_cordDetail_98 : decode cX4_cordDetail 98 = .ok (.invokevirtual 66, 3) := by decide +kernel
theorem dX4_cordDetail_101 : decode cX4_cordDetail 101 = .ok (.ireturn, 1) := by decide +kernel
theorem dX4_cordDetail_102 : decode cX4_cordDetail 102 = .ok (.aload_n 0, 1) := by decide +kernel
theorem dX4_cordDetail_103 : decode cX4_cordDetail 103 = .ok (.iload_n 1, 1) := by decide +kernel
theorem dX4_cordDetail_104 : decode cX4_cordDetail 104 = .ok (.invokevirtual 178, 3) := by decide +kernel
theorem dX4_cordDetail_107 : decode cX4_cordDetail 107 = .ok (.ifCond .eq 7, 3) := by decide +kernel
theorem dX4_cordDetail_110 : decode cX4_cordDetail 110 = .ok (.iconst 1, 1) := by decide +kernel
theorem dX4_cordDetail_111 : decode cX4_cordDetail 111 = .ok (.goto 4, 3) := by decide +kernel
theorem dX4_cordDetail_114 : decode cX4_cordDetail 114 = .ok (.iconst 0, 1) := by decide +kernel
theorem dX4_cordDetail_115 : decode cX4_cordDetail 115 = .ok (.ireturn, 1) := by decide +kernel
theorem dX4_cordDetail_116 : decode cX4_cordDetail 116 = .ok (.aload_n 0, 1) := by decide +kernel
theorem dX4_cordDetail_117 : decode cX4_cordDetail 117 = .ok (.getfield 19, 3) := by decide +kernel
theorem dX4_cordDetail_120 : decode cX4_cordDetail 120 = .ok (.iload_n 1, 1) := by decide +kernel
theorem dX4_cordDetail_121 : decode cX4_cordDetail 121 = .ok (.invokevirtual 106, 3) := by decide +kernel
theorem dX4_cordDetail_124 : decode cX4_cordDetail 124 = .ok (.ireturn, 1) := by decide +kernel
set_option maxRecDepth 20000 in
theorem ggX4_agrees_X0_hangingFrom : GoodIn wsX4_agrees wsX0_hangingFrom := goodIn_r _ [6, 7, 8, 21, 22, 23, 24, 25] (by decide +kernel) (by decide +kernel)
set_option maxRecDepth 20000 in
theorem gX4_agrees_X0_hangingFrom_n66 : GoodIn wsX4_agrees (wsX0_hangingFrom) := ggX4_agrees_X0_hangingFrom
set_option maxRecDepth 20000 in
theorem ggX4_agrees_X1_digits : GoodIn wsX4_agrees wsX1_digits := goodIn_r _ [12, 13, 26, 27] (by decide +kernel) (by decide +kernel)
set_option maxRecDepth 20000 in
theorem gX4_agrees_X1_digits_n78 : GoodIn wsX4_agrees (wsX1_digits) := ggX4_agrees_X1_digits
theorem dX4_agrees_0 : decode cX4_agrees 0 = .ok (.aload_n 0, 1) := by decide +kernel
theorem dX4_agrees_1 : decode cX4_agrees 1 = .ok (.getfield 10, 3) := by decide +kernel
theorem dX4_agrees_4 : decode cX4_agrees 4 = .ok (.iload_n 1, 1) := by decide +kernel
theorem dX4_agrees_5 : decode cX4_agrees 5 = .ok (.invokevirtual 66, 3) := by decide +kernel
theorem dX4_agrees_8 : decode cX4_agrees 8 = .ok (.ifCond .eq 23, 3) := by decide +kernel
theorem dX4_agrees_11 : decode cX4_agrees 11 = .ok (.aload_n 0, 1) := by decide +kernel
theorem dX4_agrees_12 : decode cX4_agrees 12 = .ok (.getfield 19, 3) := by decide +kernel
theorem dX4_agrees_15 : decode cX4_agrees 15 = .ok (.iload_n 1, 1) := by decide +kernel
theorem dX4_agrees_16 : decode cX4_agrees 16 = .ok (.invokevirtual 78, 3) := by decide +kernel
theorem dX4_agrees_19 : decode cX4_agrees 19 = .ok (.aload_n 0, 1) := by decide +kernel
theorem dX4_agrees_20 : decode cX4_agrees 20 = .ok (.getfield 10, 3) := by decide +kernel
theorem dX4_agrees_23 : decode cX4_agrees 23 = .ok (.getfield 182, 3) := by decide +kernel
theorem dX4_agrees_26 : decode cX4_agrees 26 = .ok (.iload_n 1, 1) := by decide +kernel
theorem dX4_agrees_27 : decode cX4_agrees 27 = .ok (.iaload, 1) := by decide +kernel
theorem dX4_agrees_28 : decode cX4_agrees 28 = .ok (.if_icmp .ne 7, 3) := by decide +kernel
theorem dX4_agrees_31 : decode cX4_agrees 31 = .ok (.iconst 1, 1) := by decide +kernel
theorem dX4_agrees_32 : decode cX4_agrees 32 = .ok (.goto 4, 3) := by decide +kernel
theorem dX4_agrees_35 : decode cX4_agrees 35 = .ok (.iconst 0, 1) := by decide +kernel
theorem dX4_agrees_36 : decode cX4_agrees 36 = .ok (.ireturn, 1) := by decide +kernel
set_option maxRecDepth 20000 in
theorem ggX4_total_X4_totalKnots : GoodIn wsX4_total wsX4_totalKnots := goodIn_r _ [10, 2, 11, 35, 36, 37, 38, 39, 40, 41, 42, 43, 44, 45, 46, 53, 54] (by decide +kernel) (by decide +kernel)
set_option maxRecDepth 20000 in
theorem gX4_total_X4_totalKnots : GoodIn wsX4_total (wsV RX4 239 RX4 yX4_totalKnots wsX4_totalKnots) := goodIn_app (goodIn_of _ (by decide +kernel)) ggX4_total_X4_totalKnots
set_option maxRecDepth 20000 in
theorem ggX4_total_X4_totalDisagreeing : GoodIn wsX4_total wsX4_totalDisagreeing := goodIn_r _ [15, 2, 16, 17, 18, 9, 19, 11, 20, 21, 22, 23, 24, 25, 26, 27, 28, 29, 30, 35, 36, 37, 38, 39, 40, 41, 42, 43, 44, 45, 46, 53, 54] (by decide +kernel) (by decide +kernel)
set_option maxRecDepth 20000 in
theorem gX4_total_X4_totalDisagreeing : GoodIn wsX4_total (wsV RX4 242 RX4 yX4_totalDisagreeing wsX4_totalDisagreeing) := goodIn_app (goodIn_of _ (by decide +kernel)) ggX4_total_X4_totalDisagreeing
set_option maxRecDepth 20000 in
theorem ggX4_total_X4_totalSaidAtBeam : GoodIn wsX4_total wsX4_totalSaidAtBeam := goodIn_r _ [34, 2, 35, 36, 37, 38, 39, 40, 41, 42, 43, 44, 45, 46] (by decide +kernel) (by decide +kernel)
set_option maxRecDepth 20000 in
theorem gX4_total_X4_totalSaidAtBeam : GoodIn wsX4_total (wsV RX4 245 RX4 yX4_totalSaidAtBeam wsX4_totalSaidAtBeam) := goodIn_app (goodIn_of _ (by decide +kernel)) ggX4_total_X4_totalSaidAtBeam
theorem dX4_total_0 : decode cX4_total 0 = .ok (.iload_n 1, 1) := by decide +kernel
theorem dX4_total_1 : decode cX4_total 1 = .ok (.tableswitch 87 0 6 #[43, 48, 56, 64, 69, 77, 82], 43) := by decide +kernel
theorem dX4_total_44 : decode cX4_total 44 = .ok (.aload_n 0, 1) := by decide +kernel
theorem dX4_total_45 : decode cX4_total 45 = .ok (.getfield 40, 3) := by decide +kernel
theorem dX4_total_48 : decode cX4_total 48 = .ok (.ireturn, 1) := by decide +kernel
theorem dX4_total_49 : decode cX4_total 49 = .ok (.aload_n 0, 1) := by decide +kernel
theorem dX4_total_50 : decode cX4_total 50 = .ok (.getfield 10, 3) := by decide +kernel
theorem dX4_total_53 : decode cX4_total 53 = .ok (.getfield 58, 3) := by decide +kernel
theorem dX4_total_56 : decode cX4_total 56 = .ok (.ireturn, 1) := by decide +kernel
theorem dX4_total_57 : decode cX4_total 57 = .ok (.aload_n 0, 1) := by decide +kernel
theorem dX4_total_58 : decode cX4_total 58 = .ok (.getfield 29, 3) := by decide +kernel
theorem dX4_total_61 : decode cX4_total 61 = .ok (.getfield 125, 3) := by decide +kernel
theorem dX4_total_64 : decode cX4_total 64 = .ok (.ireturn, 1) := by decide +kernel
theorem dX4_total_65 : decode cX4_total 65 = .ok (.aload_n 0, 1) := by decide +kernel
theorem dX4_total_66 : decode cX4_total 66 = .ok (.invokevirtual 239, 3) := by decide +kernel
theorem dX4_total_69 : decode cX4_total 69 = .ok (.ireturn, 1) := by decide +kernel
theorem dX4_total_70 : decode cX4_total 70 = .ok (.aload_n 0, 1) := by decide +kernel
theorem dX4_total_71 : decode cX4_total 71 = .ok (.getfield 36, 3) := by decide +kernel
theorem dX4_total_74 : decode cX4_total 74 = .ok (.getfield 99, 3) := by decide +kernel
theorem dX4_total_77 : decode cX4_total 77 = .ok (.ireturn, 1) := by decide +kernel
theorem dX4_total_78 : decode cX4_total 78 = .ok (.aload_n 0, 1) := by decide +kernel
theorem dX4_total_79 : decode cX4_total 79 = .ok (.invokevirtual 242, 3) := by decide +kernel
theorem dX4_total_82 : decode cX4_total 82 = .ok (.ireturn, 1) := by decide +kernel
theorem dX4_total_83 : decode cX4_total 83 = .ok (.aload_n 0, 1) := by decide +kernel
theorem dX4_total_84 : decode cX4_total 84 = .ok (.invokevirtual 245, 3) := by decide +kernel
theorem dX4_total_87 : decode cX4_total 87 = .ok (.ireturn, 1) := by decide +kernel
theorem dX4_total_88 : decode cX4_total 88 = .ok (.aload_n 0, 1) := by decide +kernel
theorem dX4_total_89 : decode cX4_total 89 = .ok (.getfield 44, 3) := by decide +kernel
theorem dX4_total_92 : decode cX4_total 92 = .ok (.ireturn, 1) := by decide +kernel
theorem dX4_totalKnots_0 : decode cX4_totalKnots 0 = .ok (.iconst 0, 1) := by decide +kernel
theorem dX4_totalKnots_1 : decode cX4_totalKnots 1 = .ok (.istore_n 1, 1) := by decide +kernel
theorem dX4_totalKnots_2 : decode cX4_totalKnots 2 = .ok (.iconst 0, 1) := by decide +kernel
theorem dX4_totalKnots_3 : decode cX4_totalKnots 3 = .ok (.istore_n 2, 1) := by decide +kernel
theorem dX4_totalKnots_4 : decode cX4_totalKnots 4 = .ok (.iload_n 2, 1) := by decide +kernel
theorem dX4_totalKnots_5 : decode cX4_totalKnots 5 = .ok (.aload_n 0, 1) := by decide +kernel
theorem dX4_totalKnots_6 : decode cX4_totalKnots 6 = .ok (.getfield 10, 3) := by decide +kernel
theorem dX4_totalKnots_9 : decode cX4_totalKnots 9 = .ok (.getfield 58, 3) := by decide +kernel
theorem dX4_totalKnots_12 : decode cX4_totalKnots 12 = .ok (.if_icmp .ge 36, 3) := by decide +kernel
theorem dX4_totalKnots_15 : decode cX4_totalKnots 15 = .ok (.iconst 0, 1) := by decide +kernel
theorem dX4_totalKnots_16 : decode cX4_totalKnots 16 = .ok (.istore_n 3, 1) := by decide +kernel
theorem dX4_totalKnots_17 : decode cX4_totalKnots 17 = .ok (.iload_n 3, 1) := by decide +kernel
theorem dX4_totalKnots_18 : decode cX4_totalKnots 18 = .ok (.iconst 4, 1) := by decide +kernel
theorem dX4_totalKnots_19 : decode cX4_totalKnots 19 = .ok (.if_icmp .ge 23, 3) := by decide +kernel
theorem dX4_totalKnots_22 : decode cX4_totalKnots 22 = .ok (.iload_n 1, 1) := by decide +kernel
theorem dX4_totalKnots_23 : decode cX4_totalKnots 23 = .ok (.aload_n 0, 1) := by decide +kernel
theorem dX4_totalKnots_24 : decode cX4_totalKnots 24 = .ok (.getfield 19, 3) := by decide +kernel
theorem dX4_totalKnots_27 : decode cX4_totalKnots 27 = .ok (.getfield 93, 3) := by decide +kernel
theorem dX4_totalKnots_30 : decode cX4_totalKnots 30 = .ok (.iload_n 2, 1) := by decide +kernel
theorem dX4_totalKnots_31 : decode cX4_totalKnots 31 = .ok (.aaload, 1) := by decide +kernel
theorem dX4_totalKnots_32 : decode cX4_totalKnots 32 = .ok (.iload_n 3, 1) := by decide +kernel
theorem dX4_totalKnots_33 : decode cX4_totalKnots 33 = .ok (.iaload, 1) := by decide +kernel
theorem dX4_totalKnots_34 : decode cX4_totalKnots 34 = .ok (.iadd, 1) := by decide +kernel
theorem dX4_totalKnots_35 : decode cX4_totalKnots 35 = .ok (.istore_n 1, 1) := by decide +kernel
theorem dX4_totalKnots_36 : decode cX4_totalKnots 36 = .ok (.iinc 3 1, 3) := by decide +kernel
theorem dX4_totalKnots_39 : decode cX4_totalKnots 39 = .ok (.goto (-22), 3) := by decide +kernel
theorem dX4_totalKnots_42 : decode cX4_totalKnots 42 = .ok (.iinc 2 1, 3) := by decide +kernel
theorem dX4_totalKnots_45 : decode cX4_totalKnots 45 = .ok (.goto (-41), 3) := by decide +kernel
theorem dX4_totalKnots_48 : decode cX4_totalKnots 48 = .ok (.iload_n 1, 1) := by decide +kernel
theorem dX4_totalKnots_49 : decode cX4_totalKnots 49 = .ok (.ireturn, 1) := by decide +kernel
set_option maxRecDepth 20000 in
theorem ggX4_totalDisagreeing_X4_agrees : GoodIn wsX4_totalDisagreeing wsX4_agrees := goodIn_r _ [6, 1, 7, 8, 9, 10, 11, 12, 13, 14, 15, 16, 17, 18, 19, 20, 21, 22, 23, 24, 25, 26, 27, 28, 29, 30, 31, 32] (by decide +kernel) (by decide +kernel)
set_option maxRecDepth 20000 in
theorem gX4_totalDisagreeing_X4_agrees : GoodIn wsX4_totalDisagreeing (wsV RX4 178 RX4 yX4_agrees wsX4_agrees) := goodIn_app (goodIn_of _ (by decide +kernel)) ggX4_totalDisagreeing_X4_agrees
theorem dX4_totalDisagreeing_0 : decode cX4_totalDisagreeing 0 = .ok (.iconst 0, 1) := by decide +kernel
theorem dX4_totalDisagreeing_1 : decode cX4_totalDisagreeing 1 = .ok (.istore_n 1, 1) := by decide +kernel
theorem dX4_totalDisagreeing_2 : decode cX4_totalDisagreeing 2 = .ok (.iconst 0, 1) := by decide +kernel
theorem dX4_totalDisagreeing_3 : decode cX4_totalDisagreeing 3 = .ok (.istore_n 2, 1) := by decide +kernel
theorem dX4_totalDisagreeing_4 : decode cX4_totalDisagreeing 4 = .ok (.iload_n 2, 1) := by decide +kernel
theorem dX4_totalDisagreeing_5 : decode cX4_totalDisagreeing 5 = .ok (.aload_n 0, 1) := by decide +kernel
theorem dX4_totalDisagreeing_6 : decode cX4_totalDisagreeing 6 = .ok (.getfield 10, 3) := by decide +kernel
theorem dX4_totalDisagreeing_9 : decode cX4_totalDisagreeing 9 = .ok (.getfield 58, 3) := by decide +kernel
theorem dX4_totalDisagreeing_12 : decode cX4_totalDisagreeing 12 = .ok (.if_icmp .ge 20, 3) := by decide +kernel
theorem dX4_totalDisagreeing_15 : decode cX4_totalDisagreeing 15 = .ok (.aload_n 0, 1) := by decide +kernel
theorem dX4_totalDisagreeing_16 : decode cX4_totalDisagreeing 16 = .ok (.iload_n 2, 1) := by decide +kernel
theorem dX4_totalDisagreeing_17 : decode cX4_totalDisagreeing 17 = .ok (.invokevirtual 178, 3) := by decide +kernel
theorem dX4_totalDisagreeing_20 : decode cX4_totalDisagreeing 20 = .ok (.ifCond .ne 6, 3) := by decide +kernel
theorem dX4_totalDisagreeing_23 : decode cX4_totalDisagreeing 23 = .ok (.iinc 1 1, 3) := by decide +kernel
theorem dX4_totalDisagreeing_26 : decode cX4_totalDisagreeing 26 = .ok (.iinc 2 1, 3) := by decide +kernel
theorem dX4_totalDisagreeing_29 : decode cX4_totalDisagreeing 29 = .ok (.goto (-25), 3) := by decide +kernel
theorem dX4_totalDisagreeing_32 : decode cX4_totalDisagreeing 32 = .ok (.iload_n 1, 1) := by decide +kernel
theorem dX4_totalDisagreeing_33 : decode cX4_totalDisagreeing 33 = .ok (.ireturn, 1) := by decide +kernel
theorem dX4_totalSaidAtBeam_0 : decode cX4_totalSaidAtBeam 0 = .ok (.iconst 0, 1) := by decide +kernel
theorem dX4_totalSaidAtBeam_1 : decode cX4_totalSaidAtBeam 1 = .ok (.istore_n 1, 1) := by decide +kernel
theorem dX4_totalSaidAtBeam_2 : decode cX4_totalSaidAtBeam 2 = .ok (.iconst 0, 1) := by decide +kernel
theorem dX4_totalSaidAtBeam_3 : decode cX4_totalSaidAtBeam 3 = .ok (.istore_n 2, 1) := by decide +kernel
theorem dX4_totalSaidAtBeam_4 : decode cX4_totalSaidAtBeam 4 = .ok (.iload_n 2, 1) := by decide +kernel
theorem dX4_totalSaidAtBeam_5 : decode cX4_totalSaidAtBeam 5 = .ok (.aload_n 0, 1) := by decide +kernel
theorem dX4_totalSaidAtBeam_6 : decode cX4_totalSaidAtBeam 6 = .ok (.getfield 10, 3) := by decide +kernel
theorem dX4_totalSaidAtBeam_9 : decode cX4_totalSaidAtBeam 9 = .ok (.getfield 58, 3) := by decide +kernel
theorem dX4_totalSaidAtBeam_12 : decode cX4_totalSaidAtBeam 12 = .ok (.if_icmp .ge 34, 3) := by decide +kernel
theorem dX4_totalSaidAtBeam_15 : decode cX4_totalSaidAtBeam 15 = .ok (.aload_n 0, 1) := by decide +kernel
theorem dX4_totalSaidAtBeam_16 : decode cX4_totalSaidAtBeam 16 = .ok (.getfield 10, 3) := by decide +kernel
theorem dX4_totalSaidAtBeam_19 : decode cX4_totalSaidAtBeam 19 = .ok (.getfield 236, 3) := by decide +kernel
theorem dX4_totalSaidAtBeam_22 : decode cX4_totalSaidAtBeam 22 = .ok (.iload_n 2, 1) := by decide +kernel
theorem dX4_totalSaidAtBeam_23 : decode cX4_totalSaidAtBeam 23 = .ok (.iaload, 1) := by decide +kernel
theorem dX4_totalSaidAtBeam_24 : decode cX4_totalSaidAtBeam 24 = .ok (.iconst (-1), 1) := by decide +kernel
theorem dX4_totalSaidAtBeam_25 : decode cX4_totalSaidAtBeam 25 = .ok (.if_icmp .ne 15, 3) := by decide +kernel
theorem dX4_totalSaidAtBeam_28 : decode cX4_totalSaidAtBeam 28 = .ok (.iload_n 1, 1) := by decide +kernel
theorem dX4_totalSaidAtBeam_29 : decode cX4_totalSaidAtBeam 29 = .ok (.aload_n 0, 1) := by decide +kernel
theorem dX4_totalSaidAtBeam_30 : decode cX4_totalSaidAtBeam 30 = .ok (.getfield 10, 3) := by decide +kernel
theorem dX4_totalSaidAtBeam_33 : decode cX4_totalSaidAtBeam 33 = .ok (.getfield 131, 3) := by decide +kernel
theorem dX4_totalSaidAtBeam_36 : decode cX4_totalSaidAtBeam 36 = .ok (.iload_n 2, 1) := by decide +kernel
theorem dX4_totalSaidAtBeam_37 : decode cX4_totalSaidAtBeam 37 = .ok (.iaload, 1) := by decide +kernel
theorem dX4_totalSaidAtBeam_38 : decode cX4_totalSaidAtBeam 38 = .ok (.iadd, 1) := by decide +kernel
theorem dX4_totalSaidAtBeam_39 : decode cX4_totalSaidAtBeam 39 = .ok (.istore_n 1, 1) := by decide +kernel
theorem dX4_totalSaidAtBeam_40 : decode cX4_totalSaidAtBeam 40 = .ok (.iinc 2 1, 3) := by decide +kernel
theorem dX4_totalSaidAtBeam_43 : decode cX4_totalSaidAtBeam 43 = .ok (.goto (-39), 3) := by decide +kernel
theorem dX4_totalSaidAtBeam_46 : decode cX4_totalSaidAtBeam 46 = .ok (.iload_n 1, 1) := by decide +kernel
theorem dX4_totalSaidAtBeam_47 : decode cX4_totalSaidAtBeam 47 = .ok (.ireturn, 1) := by decide +kernel
set_option maxRecDepth 20000 in
theorem ggX4_changeByKnot_X1_copyFrom : GoodIn wsX4_changeByKnot wsX1_copyFrom := goodIn_r _ [15, 16, 17, 18, 19, 20, 21, 57, 58] (by decide +kernel) (by decide +kernel)
set_option maxRecDepth 20000 in
theorem gX4_changeByKnot_X1_copyFrom_n175 : GoodIn wsX4_changeByKnot (wsX1_copyFrom) := ggX4_changeByKnot_X1_copyFrom
set_option maxRecDepth 20000 in
theorem ggX4_changeByKnot_X0_tell : GoodIn wsX4_changeByKnot wsX0_tell := goodIn_r _ [25, 26, 27, 28, 29, 30, 31, 23, 32, 33, 34, 35, 36, 37, 38, 39, 40, 41, 42, 43, 44, 45, 6, 46, 47, 13, 48, 49, 16, 59, 60, 61, 62, 63, 57, 58] (by decide +kernel) (by decide +kernel)
set_option maxRecDepth 20000 in
theorem gX4_changeByKnot_X0_tell_n115 : GoodIn wsX4_changeByKnot (wsX0_tell) := ggX4_changeByKnot_X0_tell
theorem dX4_changeByKnot_0 : decode cX4_changeByKnot 0 = .ok (.aload_n 0, 1) := by decide +kernel
theorem dX4_changeByKnot_1 : decode cX4_changeByKnot 1 = .ok (.getfield 19, 3) := by decide +kernel
theorem dX4_changeByKnot_4 : decode cX4_changeByKnot 4 = .ok (.getfield 93, 3) := by decide +kernel
theorem dX4_changeByKnot_7 : decode cX4_changeByKnot 7 = .ok (.iload_n 1, 1) := by decide +kernel
theorem dX4_changeByKnot_8 : decode cX4_changeByKnot 8 = .ok (.aaload, 1) := by decide +kernel
theorem dX4_changeByKnot_9 : decode cX4_changeByKnot 9 = .ok (.iconst 3, 1) := by decide +kernel
theorem dX4_changeByKnot_10 : decode cX4_changeByKnot 10 = .ok (.iaload, 1) := by decide +kernel
theorem dX4_changeByKnot_11 : decode cX4_changeByKnot 11 = .ok (.bipush 9, 2) := by decide +kernel
theorem dX4_changeByKnot_13 : decode cX4_changeByKnot 13 = .ok (.if_icmp .lt 5, 3) := by decide +kernel
theorem dX4_changeByKnot_16 : decode cX4_changeByKnot 16 = .ok (.lconst 0, 1) := by decide +kernel
theorem dX4_changeByKnot_17 : decode cX4_changeByKnot 17 = .ok (.lreturn, 1) := by decide +kernel
theorem dX4_changeByKnot_18 : decode cX4_changeByKnot 18 = .ok (.aload_n 0, 1) := by decide +kernel
theorem dX4_changeByKnot_19 : decode cX4_changeByKnot 19 = .ok (.getfield 23, 3) := by decide +kernel
theorem dX4_changeByKnot_22 : decode cX4_changeByKnot 22 = .ok (.aload_n 0, 1) := by decide +kernel
theorem dX4_changeByKnot_23 : decode cX4_changeByKnot 23 = .ok (.getfield 19, 3) := by decide +kernel
theorem dX4_changeByKnot_26 : decode cX4_changeByKnot 26 = .ok (.invokevirtual 175, 3) := by decide +kernel
theorem dX4_changeByKnot_29 : decode cX4_changeByKnot 29 = .ok (.aload_n 0, 1) := by decide +kernel
theorem dX4_changeByKnot_30 : decode cX4_changeByKnot 30 = .ok (.getfield 23, 3) := by decide +kernel
theorem dX4_changeByKnot_33 : decode cX4_changeByKnot 33 = .ok (.getfield 93, 3) := by decide +kernel
theorem dX4_changeByKnot_36 : decode cX4_changeByKnot 36 = .ok (.iload_n 1, 1) := by decide +kernel
theorem dX4_changeByKnot_37 : decode cX4_changeByKnot 37 = .ok (.aaload, 1) := by decide +kernel
theorem dX4_changeByKnot_38 : decode cX4_changeByKnot 38 = .ok (.iconst 3, 1) := by decide +kernel
theorem dX4_changeByKnot_39 : decode cX4_changeByKnot 39 = .ok (.dup2, 1) := by decide +kernel
theorem dX4_changeByKnot_40 : decode cX4_changeByKnot 40 = .ok (.iaload, 1) := by decide +kernel
theorem dX4_changeByKnot_41 : decode cX4_changeByKnot 41 = .ok (.iconst 1, 1) := by decide +kernel
theorem dX4_changeByKnot_42 : decode cX4_changeByKnot 42 = .ok (.iadd, 1) := by decide +kernel
theorem dX4_changeByKnot_43 : decode cX4_changeByKnot 43 = .ok (.iastore, 1) := by decide +kernel
theorem dX4_changeByKnot_44 : decode cX4_changeByKnot 44 = .ok (.aload_n 0, 1) := by decide +kernel
theorem dX4_changeByKnot_45 : decode cX4_changeByKnot 45 = .ok (.getfield 10, 3) := by decide +kernel
theorem dX4_changeByKnot_48 : decode cX4_changeByKnot 48 = .ok (.aload_n 0, 1) := by decide +kernel
theorem dX4_changeByKnot_49 : decode cX4_changeByKnot 49 = .ok (.getfield 23, 3) := by decide +kernel
theorem dX4_changeByKnot_52 : decode cX4_changeByKnot 52 = .ok (.invokevirtual 115, 3) := by decide +kernel
theorem dX4_changeByKnot_55 : decode cX4_changeByKnot 55 = .ok (.aload_n 0, 1) := by decide +kernel
theorem dX4_changeByKnot_56 : decode cX4_changeByKnot 56 = .ok (.getfield 10, 3) := by decide +kernel
theorem dX4_changeByKnot_59 : decode cX4_changeByKnot 59 = .ok (.getfield 131, 3) := by decide +kernel
theorem dX4_changeByKnot_62 : decode cX4_changeByKnot 62 = .ok (.iconst 0, 1) := by decide +kernel
theorem dX4_changeByKnot_63 : decode cX4_changeByKnot 63 = .ok (.iaload, 1) := by decide +kernel
theorem dX4_changeByKnot_64 : decode cX4_changeByKnot 64 = .ok (.i2l, 1) := by decide +kernel
theorem dX4_changeByKnot_65 : decode cX4_changeByKnot 65 = .ok (.iload_n 2, 1) := by decide +kernel
theorem dX4_changeByKnot_66 : decode cX4_changeByKnot 66 = .ok (.i2l, 1) := by decide +kernel
theorem dX4_changeByKnot_67 : decode cX4_changeByKnot 67 = .ok (.lsub, 1) := by decide +kernel
theorem dX4_changeByKnot_68 : decode cX4_changeByKnot 68 = .ok (.invokestatic 248, 3) := by decide +kernel
theorem dX4_changeByKnot_71 : decode cX4_changeByKnot 71 = .ok (.lstore_n 3, 1) := by decide +kernel
theorem dX4_changeByKnot_72 : decode cX4_changeByKnot 72 = .ok (.lload_n 3, 1) := by decide +kernel
theorem dX4_changeByKnot_73 : decode cX4_changeByKnot 73 = .ok (.ldc2_w 253, 3) := by decide +kernel
theorem dX4_changeByKnot_76 : decode cX4_changeByKnot 76 = .ok (.invokestatic 255, 3) := by decide +kernel
theorem dX4_changeByKnot_79 : decode cX4_changeByKnot 79 = .ok (.lreturn, 1) := by decide +kernel
set_option maxRecDepth 20000 in
theorem ggX4_digestCords_X4_cordDetail : GoodIn wsX4_digestCords wsX4_cordDetail := goodIn_r _ [8, 1, 3, 9, 10, 11, 12, 13, 14, 15, 16, 17, 18, 19, 20, 21, 22, 7, 23, 24, 25, 26, 27, 28, 29, 30, 31, 32, 33, 34, 35, 36, 37, 38, 39, 40, 41] (by decide +kernel) (by decide +kernel)
set_option maxRecDepth 20000 in
theorem gX4_digestCords_X4_cordDetail : GoodIn wsX4_digestCords (wsV RX4 119 RX4 yX4_cordDetail wsX4_cordDetail) := goodIn_app (goodIn_of _ (by decide +kernel)) ggX4_digestCords_X4_cordDetail
theorem dX4_digestCords_0 : decode cX4_digestCords 0 = .ok (.lload_n 1, 1) := by decide +kernel
theorem dX4_digestCords_1 : decode cX4_digestCords 1 = .ok (.lstore_n 3, 1) := by decide +kernel
theorem dX4_digestCords_2 : decode cX4_digestCords 2 = .ok (.iconst 0, 1) := by decide +kernel
theorem dX4_digestCords_3 : decode cX4_digestCords 3 = .ok (.istore 5, 2) := by decide +kernel
theorem dX4_digestCords_5 : decode cX4_digestCords 5 = .ok (.iload 5, 2) := by decide +kernel
theorem dX4_digestCords_7 : decode cX4_digestCords 7 = .ok (.aload_n 0, 1) := by decide +kernel
theorem dX4_digestCords_8 : decode cX4_digestCords 8 = .ok (.getfield 10, 3) := by decide +kernel
theorem dX4_digestCords_11 : decode cX4_digestCords 11 = .ok (.getfield 58, 3) := by decide +kernel
theorem dX4_digestCords_14 : decode cX4_digestCords 14 = .ok (.if_icmp .ge 98, 3) := by decide +kernel
theorem dX4_digestCords_17 : decode cX4_digestCords 17 = .ok (.iconst 0, 1) := by decide +kernel
theorem dX4_digestCords_18 : decode cX4_digestCords 18 = .ok (.istore 6, 2) := by decide +kernel
theorem dX4_digestCords_20 : decode cX4_digestCords 20 = .ok (.iload 6, 2) := by decide +kernel
theorem dX4_digestCords_22 : decode cX4_digestCords 22 = .ok (.bipush 8, 2) := by decide +kernel
theorem dX4_digestCords_24 : decode cX4_digestCords 24 = .ok (.if_icmp .ge 25, 3) := by decide +kernel
theorem dX4_digestCords_27 : decode cX4_digestCords 27 = .ok (.lload_n 3, 1) := by decide +kernel
theorem dX4_digestCords_28 : decode cX4_digestCords 28 = .ok (.ldc2_w 214, 3) := by decide +kernel
theorem dX4_digestCords_31 : decode cX4_digestCords 31 = .ok (.lmul, 1) := by decide +kernel
theorem dX4_digestCords_32 : decode cX4_digestCords 32 = .ok (.aload_n 0, 1) := by decide +kernel
theorem dX4_digestCords_33 : decode cX4_digestCords 33 = .ok (.iload 5, 2) := by decide +kernel
theorem dX4_digestCords_35 : decode cX4_digestCords 35 = .ok (.iload 6, 2) := by decide +kernel
theorem dX4_digestCords_37 : decode cX4_digestCords 37 = .ok (.invokevirtual 119, 3) := by decide +kernel
theorem dX4_digestCords_40 : decode cX4_digestCords 40 = .ok (.i2l, 1) := by decide +kernel
theorem dX4_digestCords_41 : decode cX4_digestCords 41 = .ok (.ladd, 1) := by decide +kernel
theorem dX4_digestCords_42 : decode cX4_digestCords 42 = .ok (.lstore_n 3, 1) := by decide +kernel
theorem dX4_digestCords_43 : decode cX4_digestCords 43 = .ok (.iinc 6 1, 3) := by decide +kernel
theorem dX4_digestCords_46 : decode cX4_digestCords 46 = .ok (.goto (-26), 3) := by decide +kernel
theorem dX4_digestCords_49 : decode cX4_digestCords 49 = .ok (.iconst 0, 1) := by decide +kernel
theorem dX4_digestCords_50 : decode cX4_digestCords 50 = .ok (.istore 6, 2) := by decide +kernel
theorem dX4_digestCords_52 : decode cX4_digestCords 52 = .ok (.iload 6, 2) := by decide +kernel
theorem dX4_digestCords_54 : decode cX4_digestCords 54 = .ok (.iconst 4, 1) := by decide +kernel
theorem dX4_digestCords_55 : decode cX4_digestCords 55 = .ok (.if_icmp .ge 51, 3) := by decide +kernel
theorem dX4_digestCords_58 : decode cX4_digestCords 58 = .ok (.lload_n 3, 1) := by decide +kernel
theorem dX4_digestCords_59 : decode cX4_digestCords 59 = .ok (.ldc2_w 214, 3) := by decide +kernel
theorem dX4_digestCords_62 : decode cX4_digestCords 62 = .ok (.lmul, 1) := by decide +kernel
theorem dX4_digestCords_63 : decode cX4_digestCords 63 = .ok (.aload_n 0, 1) := by decide +kernel
theorem dX4_digestCords_64 : decode cX4_digestCords 64 = .ok (.getfield 19, 3) := by decide +kernel
theorem dX4_digestCords_67 : decode cX4_digestCords 67 = .ok (.getfield 93, 3) := by decide +kernel
theorem dX4_digestCords_70 : decode cX4_digestCords 70 = .ok (.iload 5, 2) := by decide +kernel
theorem dX4_digestCords_72 : decode cX4_digestCords 72 = .ok (.aaload, 1) := by decide +kernel
theorem dX4_digestCords_73 : decode cX4_digestCords 73 = .ok (.iload 6, 2) := by decide +kernel
theorem dX4_digestCords_75 : decode cX4_digestCords 75 = .ok (.iaload, 1) := by decide +kernel
theorem dX4_digestCords_76 : decode cX4_digestCords 76 = .ok (.i2l, 1) := by decide +kernel
theorem dX4_digestCords_77 : decode cX4_digestCords 77 = .ok (.ladd, 1) := by decide +kernel
theorem dX4_digestCords_78 : decode cX4_digestCords 78 = .ok (.lstore_n 3, 1) := by decide +kernel
theorem dX4_digestCords_79 : decode cX4_digestCords 79 = .ok (.lload_n 3, 1) := by decide +kernel
theorem dX4_digestCords_80 : decode cX4_digestCords 80 = .ok (.ldc2_w 214, 3) := by decide +kernel
theorem dX4_digestCords_83 : decode cX4_digestCords 83 = .ok (.lmul, 1) := by decide +kernel
theorem dX4_digestCords_84 : decode cX4_digestCords 84 = .ok (.aload_n 0, 1) := by decide +kernel
theorem dX4_digestCords_85 : decode cX4_digestCords 85 = .ok (.getfield 19, 3) := by decide +kernel
theorem dX4_digestCords_88 : decode cX4_digestCords 88 = .ok (.getfield 122, 3) := by decide +kernel
theorem dX4_digestCords_91 : decode cX4_digestCords 91 = .ok (.iload 5, 2) := by decide +kernel
theorem dX4_digestCords_93 : decode cX4_digestCords 93 = .ok (.aaload, 1) := by decide +kernel
theorem dX4_digestCords_94 : decode cX4_digestCords 94 = .ok (.iload 6, 2) := by decide +kernel
theorem dX4_digestCords_96 : decode cX4_digestCords 96 = .ok (.iaload, 1) := by decide +kernel
theorem dX4_digestCords_97 : decode cX4_digestCords 97 = .ok (.i2l, 1) := by decide +kernel
theorem dX4_digestCords_98 : decode cX4_digestCords 98 = .ok (.ladd, 1) := by decide +kernel
theorem dX4_digestCords_99 : decode cX4_digestCords 99 = .ok (.lstore_n 3, 1) := by decide +kernel
theorem dX4_digestCords_100 : decode cX4_digestCords 100 = .ok (.iinc 6 1, 3) := by decide +kernel
theorem dX4_digestCords_103 : decode cX4_digestCords 103 = .ok (.goto (-51), 3) := by decide +kernel
theorem dX4_digestCords_106 : decode cX4_digestCords 106 = .ok (.iinc 5 1, 3) := by decide +kernel
theorem dX4_digestCords_109 : decode cX4_digestCords 109 = .ok (.goto (-104), 3) := by decide +kernel
theorem dX4_digestCords_112 : decode cX4_digestCords 112 = .ok (.lload_n 3, 1) := by decide +kernel
theorem dX4_digestCords_113 : decode cX4_digestCords 113 = .ok (.lreturn, 1) := by decide +kernel
set_option maxRecDepth 20000 in
theorem ggX4_digestWitnesses_X3_memory : GoodIn wsX4_digestWitnesses wsX3_memory := goodIn_r _ [7, 8, 9, 10, 11, 12, 5, 13, 21, 22, 23, 24] (by decide +kernel) (by decide +kernel)
set_option maxRecDepth 20000 in
theorem gX4_digestWitnesses_X3_memory_n139 : GoodIn wsX4_digestWitnesses (wsX3_memory) := ggX4_digestWitnesses_X3_memory
theorem dX4_digestWitnesses_0 : decode cX4_digestWitnesses 0 = .ok (.lload_n 1, 1) := by decide +kernel
theorem dX4_digestWitnesses_1 : decode cX4_digestWitnesses 1 = .ok (.lstore_n 3, 1) := by decide +kernel
theorem dX4_digestWitnesses_2 : decode cX4_digestWitnesses 2 = .ok (.iconst 0, 1) := by decide +kernel
theorem dX4_digestWitnesses_3 : decode cX4_digestWitnesses 3 = .ok (.istore 5, 2) := by decide +kernel
theorem dX4_digestWitnesses_5 : decode cX4_digestWitnesses 5 = .ok (.iload 5, 2) := by decide +kernel
theorem dX4_digestWitnesses_7 : decode cX4_digestWitnesses 7 = .ok (.aload_n 0, 1) := by decide +kernel
theorem dX4_digestWitnesses_8 : decode cX4_digestWitnesses 8 = .ok (.getfield 29, 3) := by decide +kernel
theorem dX4_digestWitnesses_11 : decode cX4_digestWitnesses 11 = .ok (.getfield 125, 3) := by decide +kernel
theorem dX4_digestWitnesses_14 : decode cX4_digestWitnesses 14 = .ok (.if_icmp .ge 84, 3) := by decide +kernel
theorem dX4_digestWitnesses_17 : decode cX4_digestWitnesses 17 = .ok (.lload_n 3, 1) := by decide +kernel
theorem dX4_digestWitnesses_18 : decode cX4_digestWitnesses 18 = .ok (.ldc2_w 214, 3) := by decide +kernel
theorem dX4_digestWitnesses_21 : decode cX4_digestWitnesses 21 = .ok (.lmul, 1) := by decide +kernel
theorem dX4_digestWitnesses_22 : decode cX4_digestWitnesses 22 = .ok (.aload_n 0, 1) := by decide +kernel
theorem dX4_digestWitnesses_23 : decode cX4_digestWitnesses 23 = .ok (.getfield 29, 3) := by decide +kernel
theorem dX4_digestWitnesses_26 : decode cX4_digestWitnesses 26 = .ok (.getfield 143, 3) := by decide +kernel
theorem dX4_digestWitnesses_29 : decode cX4_digestWitnesses 29 = .ok (.iload 5, 2) := by decide +kernel
theorem dX4_digestWitnesses_31 : decode cX4_digestWitnesses 31 = .ok (.iaload, 1) := by decide +kernel
theorem dX4_digestWitnesses_32 : decode cX4_digestWitnesses 32 = .ok (.i2l, 1) := by decide +kernel
theorem dX4_digestWitnesses_33 : decode cX4_digestWitnesses 33 = .ok (.ladd, 1) := by decide +kernel
theorem dX4_digestWitnesses_34 : decode cX4_digestWitnesses 34 = .ok (.lstore_n 3, 1) := by decide +kernel
theorem dX4_digestWitnesses_35 : decode cX4_digestWitnesses 35 = .ok (.iconst 0, 1) := by decide +kernel
theorem dX4_digestWitnesses_36 : decode cX4_digestWitnesses 36 = .ok (.istore 6, 2) := by decide +kernel
theorem dX4_digestWitnesses_38 : decode cX4_digestWitnesses 38 = .ok (.iload 6, 2) := by decide +kernel
theorem dX4_digestWitnesses_40 : decode cX4_digestWitnesses 40 = .ok (.aload_n 0, 1) := by decide +kernel
theorem dX4_digestWitnesses_41 : decode cX4_digestWitnesses 41 = .ok (.getfield 10, 3) := by decide +kernel
theorem dX4_digestWitnesses_44 : decode cX4_digestWitnesses 44 = .ok (.getfield 58, 3) := by decide +kernel
theorem dX4_digestWitnesses_47 : decode cX4_digestWitnesses 47 = .ok (.if_icmp .ge 45, 3) := by decide +kernel
theorem dX4_digestWitnesses_50 : decode cX4_digestWitnesses 50 = .ok (.iconst 0, 1) := by decide +kernel
theorem dX4_digestWitnesses_51 : decode cX4_digestWitnesses 51 = .ok (.istore 7, 2) := by decide +kernel
theorem dX4_digestWitnesses_53 : decode cX4_digestWitnesses 53 = .ok (.iload 7, 2) := by decide +kernel
theorem dX4_digestWitnesses_55 : decode cX4_digestWitnesses 55 = .ok (.iconst 3, 1) := by decide +kernel
theorem dX4_digestWitnesses_56 : decode cX4_digestWitnesses 56 = .ok (.if_icmp .ge 30, 3) := by decide +kernel
theorem dX4_digestWitnesses_59 : decode cX4_digestWitnesses 59 = .ok (.lload_n 3, 1) := by decide +kernel
theorem dX4_digestWitnesses_60 : decode cX4_digestWitnesses 60 = .ok (.ldc2_w 214, 3) := by decide +kernel
theorem dX4_digestWitnesses_63 : decode cX4_digestWitnesses 63 = .ok (.lmul, 1) := by decide +kernel
theorem dX4_digestWitnesses_64 : decode cX4_digestWitnesses 64 = .ok (.aload_n 0, 1) := by decide +kernel
theorem dX4_digestWitnesses_65 : decode cX4_digestWitnesses 65 = .ok (.getfield 29, 3) := by decide +kernel
theorem dX4_digestWitnesses_68 : decode cX4_digestWitnesses 68 = .ok (.iload 5, 2) := by decide +kernel
theorem dX4_digestWitnesses_70 : decode cX4_digestWitnesses 70 = .ok (.iload 6, 2) := by decide +kernel
theorem dX4_digestWitnesses_72 : decode cX4_digestWitnesses 72 = .ok (.iload 7, 2) := by decide +kernel
theorem dX4_digestWitnesses_74 : decode cX4_digestWitnesses 74 = .ok (.invokevirtual 139, 3) := by decide +kernel
theorem dX4_digestWitnesses_77 : decode cX4_digestWitnesses 77 = .ok (.i2l, 1) := by decide +kernel
theorem dX4_digestWitnesses_78 : decode cX4_digestWitnesses 78 = .ok (.ladd, 1) := by decide +kernel
theorem dX4_digestWitnesses_79 : decode cX4_digestWitnesses 79 = .ok (.lstore_n 3, 1) := by decide +kernel
theorem dX4_digestWitnesses_80 : decode cX4_digestWitnesses 80 = .ok (.iinc 7 1, 3) := by decide +kernel
theorem dX4_digestWitnesses_83 : decode cX4_digestWitnesses 83 = .ok (.goto (-30), 3) := by decide +kernel
theorem dX4_digestWitnesses_86 : decode cX4_digestWitnesses 86 = .ok (.iinc 6 1, 3) := by decide +kernel
theorem dX4_digestWitnesses_89 : decode cX4_digestWitnesses 89 = .ok (.goto (-51), 3) := by decide +kernel
theorem dX4_digestWitnesses_92 : decode cX4_digestWitnesses 92 = .ok (.iinc 5 1, 3) := by decide +kernel
theorem dX4_digestWitnesses_95 : decode cX4_digestWitnesses 95 = .ok (.goto (-90), 3) := by decide +kernel
theorem dX4_digestWitnesses_98 : decode cX4_digestWitnesses 98 = .ok (.lload_n 3, 1) := by decide +kernel
theorem dX4_digestWitnesses_99 : decode cX4_digestWitnesses 99 = .ok (.lreturn, 1) := by decide +kernel
theorem dX4_digestUntyings_0 : decode cX4_digestUntyings 0 = .ok (.lload_n 1, 1) := by decide +kernel
theorem dX4_digestUntyings_1 : decode cX4_digestUntyings 1 = .ok (.lstore_n 3, 1) := by decide +kernel
theorem dX4_digestUntyings_2 : decode cX4_digestUntyings 2 = .ok (.iconst 0, 1) := by decide +kernel
theorem dX4_digestUntyings_3 : decode cX4_digestUntyings 3 = .ok (.istore 5, 2) := by decide +kernel
theorem dX4_digestUntyings_5 : decode cX4_digestUntyings 5 = .ok (.iload 5, 2) := by decide +kernel
theorem dX4_digestUntyings_7 : decode cX4_digestUntyings 7 = .ok (.aload_n 0, 1) := by decide +kernel
theorem dX4_digestUntyings_8 : decode cX4_digestUntyings 8 = .ok (.getfield 36, 3) := by decide +kernel
theorem dX4_digestUntyings_11 : decode cX4_digestUntyings 11 = .ok (.getfield 99, 3) := by decide +kernel
theorem dX4_digestUntyings_14 : decode cX4_digestUntyings 14 = .ok (.if_icmp .ge 45, 3) := by decide +kernel
theorem dX4_digestUntyings_17 : decode cX4_digestUntyings 17 = .ok (.iconst 0, 1) := by decide +kernel
theorem dX4_digestUntyings_18 : decode cX4_digestUntyings 18 = .ok (.istore 6, 2) := by decide +kernel
theorem dX4_digestUntyings_20 : decode cX4_digestUntyings 20 = .ok (.iload 6, 2) := by decide +kernel
theorem dX4_digestUntyings_22 : decode cX4_digestUntyings 22 = .ok (.iconst 5, 1) := by decide +kernel
theorem dX4_digestUntyings_23 : decode cX4_digestUntyings 23 = .ok (.if_icmp .ge 30, 3) := by decide +kernel
theorem dX4_digestUntyings_26 : decode cX4_digestUntyings 26 = .ok (.lload_n 3, 1) := by decide +kernel
theorem dX4_digestUntyings_27 : decode cX4_digestUntyings 27 = .ok (.ldc2_w 214, 3) := by decide +kernel
theorem dX4_digestUntyings_30 : decode cX4_digestUntyings 30 = .ok (.lmul, 1) := by decide +kernel
theorem dX4_digestUntyings_31 : decode cX4_digestUntyings 31 = .ok (.aload_n 0, 1) := by decide +kernel
theorem dX4_digestUntyings_32 : decode cX4_digestUntyings 32 = .ok (.getfield 36, 3) := by decide +kernel
theorem dX4_digestUntyings_35 : decode cX4_digestUntyings 35 = .ok (.getfield 162, 3) := by decide +kernel
theorem dX4_digestUntyings_38 : decode cX4_digestUntyings 38 = .ok (.iload 5, 2) := by decide +kernel
theorem dX4_digestUntyings_40 : decode cX4_digestUntyings 40 = .ok (.aaload, 1) := by decide +kernel
theorem dX4_digestUntyings_41 : decode cX4_digestUntyings 41 = .ok (.iload 6, 2) := by decide +kernel
theorem dX4_digestUntyings_43 : decode cX4_digestUntyings 43 = .ok (.iaload, 1) := by decide +kernel
theorem dX4_digestUntyings_44 : decode cX4_digestUntyings 44 = .ok (.i2l, 1) := by decide +kernel
theorem dX4_digestUntyings_45 : decode cX4_digestUntyings 45 = .ok (.ladd, 1) := by decide +kernel
theorem dX4_digestUntyings_46 : decode cX4_digestUntyings 46 = .ok (.lstore_n 3, 1) := by decide +kernel
theorem dX4_digestUntyings_47 : decode cX4_digestUntyings 47 = .ok (.iinc 6 1, 3) := by decide +kernel
theorem dX4_digestUntyings_50 : decode cX4_digestUntyings 50 = .ok (.goto (-30), 3) := by decide +kernel
theorem dX4_digestUntyings_53 : decode cX4_digestUntyings 53 = .ok (.iinc 5 1, 3) := by decide +kernel
theorem dX4_digestUntyings_56 : decode cX4_digestUntyings 56 = .ok (.goto (-51), 3) := by decide +kernel
theorem dX4_digestUntyings_59 : decode cX4_digestUntyings 59 = .ok (.lload_n 3, 1) := by decide +kernel
theorem dX4_digestUntyings_60 : decode cX4_digestUntyings 60 = .ok (.lreturn, 1) := by decide +kernel
theorem dX5_init_0 : decode cX5_init 0 = .ok (.aload_n 0, 1) := by decide +kernel
theorem dX5_init_1 : decode cX5_init 1 = .ok (.invokespecial 1, 3) := by decide +kernel
theorem dX5_init_4 : decode cX5_init 4 = .ok (.aload_n 0, 1) := by decide +kernel
theorem dX5_init_5 : decode cX5_init 5 = .ok (.bipush 16, 2) := by decide +kernel
theorem dX5_init_7 : decode cX5_init 7 = .ok (.newarray .int, 2) := by decide +kernel
theorem dX5_init_9 : decode cX5_init 9 = .ok (.putfield 9, 3) := by decide +kernel
theorem dX5_init_12 : decode cX5_init 12 = .ok (.aload_n 0, 1) := by decide +kernel
theorem dX5_init_13 : decode cX5_init 13 = .ok (.bipush 16, 2) := by decide +kernel
theorem dX5_init_15 : decode cX5_init 15 = .ok (.newarray .int, 2) := by decide +kernel
theorem dX5_init_17 : decode cX5_init 17 = .ok (.putfield 13, 3) := by decide +kernel
theorem dX5_init_20 : decode cX5_init 20 = .ok (.aload_n 0, 1) := by decide +kernel
theorem dX5_init_21 : decode cX5_init 21 = .ok (.bipush 64, 2) := by decide +kernel
theorem dX5_init_23 : decode cX5_init 23 = .ok (.newarray .int, 2) := by decide +kernel
theorem dX5_init_25 : decode cX5_init 25 = .ok (.putfield 16, 3) := by decide +kernel
theorem dX5_init_28 : decode cX5_init 28 = .ok (.aload_n 0, 1) := by decide +kernel
theorem dX5_init_29 : decode cX5_init 29 = .ok (.bipush 64, 2) := by decide +kernel
theorem dX5_init_31 : decode cX5_init 31 = .ok (.newarray .int, 2) := by decide +kernel
theorem dX5_init_33 : decode cX5_init 33 = .ok (.putfield 19, 3) := by decide +kernel
theorem dX5_init_36 : decode cX5_init 36 = .ok (.aload_n 0, 1) := by decide +kernel
theorem dX5_init_37 : decode cX5_init 37 = .ok (.bipush 6, 2) := by decide +kernel
theorem dX5_init_39 : decode cX5_init 39 = .ok (.newarray .int, 2) := by decide +kernel
theorem dX5_init_41 : decode cX5_init 41 = .ok (.putfield 22, 3) := by decide +kernel
theorem dX5_init_44 : decode cX5_init 44 = .ok (.aload_n 0, 1) := by decide +kernel
theorem dX5_init_45 : decode cX5_init 45 = .ok (.bipush 96, 2) := by decide +kernel
theorem dX5_init_47 : decode cX5_init 47 = .ok (.newarray .int, 2) := by decide +kernel
theorem dX5_init_49 : decode cX5_init 49 = .ok (.putfield 25, 3) := by decide +kernel
theorem dX5_init_52 : decode cX5_init 52 = .ok (.aload_n 0, 1) := by decide +kernel
theorem dX5_init_53 : decode cX5_init 53 = .ok (.bipush 96, 2) := by decide +kernel
theorem dX5_init_55 : decode cX5_init 55 = .ok (.newarray .int, 2) := by decide +kernel
theorem dX5_init_57 : decode cX5_init 57 = .ok (.putfield 28, 3) := by decide +kernel
theorem dX5_init_60 : decode cX5_init 60 = .ok (.aload_n 0, 1) := by decide +kernel
theorem dX5_init_61 : decode cX5_init 61 = .ok (.sipush 150, 3) := by decide +kernel
theorem dX5_init_64 : decode cX5_init 64 = .ok (.newarray .int, 2) := by decide +kernel
theorem dX5_init_66 : decode cX5_init 66 = .ok (.putfield 31, 3) := by decide +kernel
theorem dX5_init_69 : decode cX5_init 69 = .ok (.aload_n 0, 1) := by decide +kernel
theorem dX5_init_70 : decode cX5_init 70 = .ok (.iconst 2, 1) := by decide +kernel
theorem dX5_init_71 : decode cX5_init 71 = .ok (.newarray .int, 2) := by decide +kernel
theorem dX5_init_73 : decode cX5_init 73 = .ok (.putfield 34, 3) := by decide +kernel
theorem dX5_init_76 : decode cX5_init 76 = .ok (.aload_n 0, 1) := by decide +kernel
theorem dX5_init_77 : decode cX5_init 77 = .ok (.bipush 16, 2) := by decide +kernel
theorem dX5_init_79 : decode cX5_init 79 = .ok (.newarray .int, 2) := by decide +kernel
theorem dX5_init_81 : decode cX5_init 81 = .ok (.putfield 37, 3) := by decide +kernel
theorem dX5_init_84 : decode cX5_init 84 = .ok (.aload_n 0, 1) := by decide +kernel
theorem dX5_init_85 : decode cX5_init 85 = .ok (.bipush 16, 2) := by decide +kernel
theorem dX5_init_87 : decode cX5_init 87 = .ok (.newarray .int, 2) := by decide +kernel
theorem dX5_init_89 : decode cX5_init 89 = .ok (.putfield 40, 3) := by decide +kernel
theorem dX5_init_92 : decode cX5_init 92 = .ok (.aload_n 0, 1) := by decide +kernel
theorem dX5_init_93 : decode cX5_init 93 = .ok (.bipush 16, 2) := by decide +kernel
theorem dX5_init_95 : decode cX5_init 95 = .ok (.newarray .int, 2) := by decide +kernel
theorem dX5_init_97 : decode cX5_init 97 = .ok (.putfield 43, 3) := by decide +kernel
theorem dX5_init_100 : decode cX5_init 100 = .ok (.iconst 0, 1) := by decide +kernel
theorem dX5_init_101 : decode cX5_init 101 = .ok (.istore_n 1, 1) := by decide +kernel
theorem dX5_init_102 : decode cX5_init 102 = .ok (.iload_n 1, 1) := by decide +kernel
theorem dX5_init_103 : decode cX5_init 103 = .ok (.aload_n 0, 1) := by decide +kernel
theorem dX5_init_104 : decode cX5_init 104 = .ok (.getfield 28, 3) := by decide +kernel
theorem dX5_init_107 : decode cX5_init 107 = .ok (.arraylength, 1) := by decide +kernel
theorem dX5_init_108 : decode cX5_init 108 = .ok (.if_icmp .ge 16, 3) := by decide +kernel
theorem dX5_init_111 : decode cX5_init 111 = .ok (.aload_n 0, 1) := by decide +kernel
theorem dX5_init_112 : decode cX5_init 112 = .ok (.getfield 28, 3) := by decide +kernel
theorem dX5_init_115 : decode cX5_init 115 = .ok (.iload_n 1, 1) := by decide +kernel
theorem dX5_init_116 : decode cX5_init 116 = .ok (.iconst (-1), 1) := by decide +kernel
theorem dX5_init_117 : decode cX5_init 117 = .ok (.iastore, 1) := by decide +kernel
theorem dX5_init_118 : decode cX5_init 118 = .ok (.iinc 1 1, 3) := by decide +kernel
theorem dX5_init_121 : decode cX5_init 121 = .ok (.goto (-19), 3) := by decide +kernel
theorem dX5_init_124 : decode cX5_init 124 = .ok (.return_, 1) := by decide +kernel
theorem dX5_thrown_0 : decode cX5_thrown 0 = .ok (.aload_n 0, 1) := by decide +kernel
theorem dX5_thrown_1 : decode cX5_thrown 1 = .ok (.getfield 46, 3) := by decide +kernel
theorem dX5_thrown_4 : decode cX5_thrown 4 = .ok (.ireturn, 1) := by decide +kernel
theorem dX5_fail_0 : decode cX5_fail 0 = .ok (.aload_n 0, 1) := by decide +kernel
theorem dX5_fail_1 : decode cX5_fail 1 = .ok (.iload_n 1, 1) := by decide +kernel
theorem dX5_fail_2 : decode cX5_fail 2 = .ok (.putfield 46, 3) := by decide +kernel
theorem dX5_fail_5 : decode cX5_fail 5 = .ok (.iconst 0, 1) := by decide +kernel
theorem dX5_fail_6 : decode cX5_fail 6 = .ok (.ireturn, 1) := by decide +kernel
theorem dX5_isIn_0 : decode cX5_isIn 0 = .ok (.iload_n 0, 1) := by decide +kernel
theorem dX5_isIn_1 : decode cX5_isIn 1 = .ok (.iload_n 1, 1) := by decide +kernel
theorem dX5_isIn_2 : decode cX5_isIn 2 = .ok (.if_icmp .lt 12, 3) := by decide +kernel
theorem dX5_isIn_5 : decode cX5_isIn 5 = .ok (.iload_n 0, 1) := by decide +kernel
theorem dX5_isIn_6 : decode cX5_isIn 6 = .ok (.iload_n 2, 1) := by decide +kernel
theorem dX5_isIn_7 : decode cX5_isIn 7 = .ok (.if_icmp .gt 7, 3) := by decide +kernel
theorem dX5_isIn_10 : decode cX5_isIn 10 = .ok (.iconst 1, 1) := by decide +kernel
theorem dX5_isIn_11 : decode cX5_isIn 11 = .ok (.goto 4, 3) := by decide +kernel
theorem dX5_isIn_14 : decode cX5_isIn 14 = .ok (.iconst 0, 1) := by decide +kernel
theorem dX5_isIn_15 : decode cX5_isIn 15 = .ok (.ireturn, 1) := by decide +kernel
set_option maxRecDepth 20000 in
theorem ggX5_isCord_X5_isIn : GoodIn wsX5_isCord wsX5_isIn := goodIn_r _ [5] (by decide +kernel) (by decide +kernel)
set_option maxRecDepth 20000 in
theorem gX5_isCord_X5_isIn : GoodIn wsX5_isCord (va_wsS RX5 53 yX5_isIn wsX5_isIn) := goodIn_app (goodIn_of _ (by decide +kernel)) ggX5_isCord_X5_isIn
theorem dX5_isCord_0 : decode cX5_isCord 0 = .ok (.iload_n 1, 1) := by decide +kernel
theorem dX5_isCord_1 : decode cX5_isCord 1 = .ok (.iconst 0, 1) := by decide +kernel
theorem dX5_isCord_2 : decode cX5_isCord 2 = .ok (.aload_n 0, 1) := by decide +kernel
theorem dX5_isCord_3 : decode cX5_isCord 3 = .ok (.getfield 50, 3) := by decide +kernel
theorem dX5_isCord_6 : decode cX5_isCord 6 = .ok (.iconst 1, 1) := by decide +kernel
theorem dX5_isCord_7 : decode cX5_isCord 7 = .ok (.isub, 1) := by decide +kernel
theorem dX5_isCord_8 : decode cX5_isCord 8 = .ok (.invokestatic 53, 3) := by decide +kernel
theorem dX5_isCord_11 : decode cX5_isCord 11 = .ok (.ireturn, 1) := by decide +kernel
set_option maxRecDepth 20000 in
theorem ggX5_isWitness_X5_isIn : GoodIn wsX5_isWitness wsX5_isIn := goodIn_r _ [5] (by decide +kernel) (by decide +kernel)
set_option maxRecDepth 20000 in
theorem gX5_isWitness_X5_isIn : GoodIn wsX5_isWitness (va_wsS RX5 53 yX5_isIn wsX5_isIn) := goodIn_app (goodIn_of _ (by decide +kernel)) ggX5_isWitness_X5_isIn
theorem dX5_isWitness_0 : decode cX5_isWitness 0 = .ok (.iload_n 1, 1) := by decide +kernel
theorem dX5_isWitness_1 : decode cX5_isWitness 1 = .ok (.iconst 0, 1) := by decide +kernel
theorem dX5_isWitness_2 : decode cX5_isWitness 2 = .ok (.aload_n 0, 1) := by decide +kernel
theorem dX5_isWitness_3 : decode cX5_isWitness 3 = .ok (.getfield 57, 3) := by decide +kernel
theorem dX5_isWitness_6 : decode cX5_isWitness 6 = .ok (.iconst 1, 1) := by decide +kernel
theorem dX5_isWitness_7 : decode cX5_isWitness 7 = .ok (.isub, 1) := by decide +kernel
theorem dX5_isWitness_8 : decode cX5_isWitness 8 = .ok (.invokestatic 53, 3) := by decide +kernel
theorem dX5_isWitness_11 : decode cX5_isWitness 11 = .ok (.ireturn, 1) := by decide +kernel
theorem dX5_hangs_0 : decode cX5_hangs 0 = .ok (.iconst 0, 1) := by decide +kernel
theorem dX5_hangs_1 : decode cX5_hangs 1 = .ok (.istore_n 2, 1) := by decide +kernel
theorem dX5_hangs_2 : decode cX5_hangs 2 = .ok (.iconst 0, 1) := by decide +kernel
theorem dX5_hangs_3 : decode cX5_hangs 3 = .ok (.istore_n 3, 1) := by decide +kernel
theorem dX5_hangs_4 : decode cX5_hangs 4 = .ok (.iload_n 3, 1) := by decide +kernel
theorem dX5_hangs_5 : decode cX5_hangs 5 = .ok (.aload_n 0, 1) := by decide +kernel
theorem dX5_hangs_6 : decode cX5_hangs 6 = .ok (.getfield 50, 3) := by decide +kernel
theorem dX5_hangs_9 : decode cX5_hangs 9 = .ok (.if_icmp .ge 27, 3) := by decide +kernel
theorem dX5_hangs_12 : decode cX5_hangs 12 = .ok (.iload_n 2, 1) := by decide +kernel
theorem dX5_hangs_13 : decode cX5_hangs 13 = .ok (.aload_n 0, 1) := by decide +kernel
theorem dX5_hangs_14 : decode cX5_hangs 14 = .ok (.getfield 9, 3) := by decide +kernel
theorem dX5_hangs_17 : decode cX5_hangs 17 = .ok (.iload_n 3, 1) := by decide +kernel
theorem dX5_hangs_18 : decode cX5_hangs 18 = .ok (.iaload, 1) := by decide +kernel
theorem dX5_hangs_19 : decode cX5_hangs 19 = .ok (.iload_n 1, 1) := by decide +kernel
theorem dX5_hangs_20 : decode cX5_hangs 20 = .ok (.if_icmp .ne 7, 3) := by decide +kernel
theorem dX5_hangs_23 : decode cX5_hangs 23 = .ok (.iconst 1, 1) := by decide +kernel
theorem dX5_hangs_24 : decode cX5_hangs 24 = .ok (.goto 4, 3) := by decide +kernel
theorem dX5_hangs_27 : decode cX5_hangs 27 = .ok (.iconst 0, 1) := by decide +kernel
theorem dX5_hangs_28 : decode cX5_hangs 28 = .ok (.iadd, 1) := by decide +kernel
theorem dX5_hangs_29 : decode cX5_hangs 29 = .ok (.istore_n 2, 1) := by decide +kernel
theorem dX5_hangs_30 : decode cX5_hangs 30 = .ok (.iinc 3 1, 3) := by decide +kernel
theorem dX5_hangs_33 : decode cX5_hangs 33 = .ok (.goto (-29), 3) := by decide +kernel
theorem dX5_hangs_36 : decode cX5_hangs 36 = .ok (.iload_n 2, 1) := by decide +kernel
theorem dX5_hangs_37 : decode cX5_hangs 37 = .ok (.ireturn, 1) := by decide +kernel
set_option maxRecDepth 20000 in
theorem ggX5_hang_X5_isCord : GoodIn wsX5_hang wsX5_isCord := goodIn_r _ [9, 2, 10, 11, 8, 12, 21, 22, 23, 24, 25, 26, 27, 28, 29, 30, 31, 32, 33, 34, 35, 36] (by decide +kernel) (by decide +kernel)
set_option maxRecDepth 20000 in
theorem gX5_hang_X5_isCord : GoodIn wsX5_hang (wsV RX5 60 RX5 yX5_isCord wsX5_isCord) := goodIn_app (goodIn_of _ (by decide +kernel)) ggX5_hang_X5_isCord
set_option maxRecDepth 20000 in
theorem ggX5_hang_X5_fail : GoodIn wsX5_hang wsX5_fail := goodIn_r _ [16, 1, 21, 22, 23, 24, 25, 26, 27, 28, 29, 30, 31, 32, 33, 34, 35, 36] (by decide +kernel) (by decide +kernel)
set_option maxRecDepth 20000 in
theorem gX5_hang_X5_fail : GoodIn wsX5_hang (wsV RX5 64 RX5 yX5_fail wsX5_fail) := goodIn_app (goodIn_of _ (by decide +kernel)) ggX5_hang_X5_fail
set_option maxRecDepth 20000 in
theorem ggX5_hang_X5_isIn : GoodIn wsX5_hang wsX5_isIn := goodIn_r _ [12] (by decide +kernel) (by decide +kernel)
set_option maxRecDepth 20000 in
theorem gX5_hang_X5_isIn : GoodIn wsX5_hang (va_wsS RX5 53 yX5_isIn wsX5_isIn) := goodIn_app (goodIn_of _ (by decide +kernel)) ggX5_hang_X5_isIn
set_option maxRecDepth 20000 in
theorem ggX5_hang_X5_hangs : GoodIn wsX5_hang wsX5_hangs := goodIn_r _ [20, 2, 3, 21, 22, 23, 24, 25, 26, 27, 28, 29, 30, 31, 32, 33, 34, 35, 36] (by decide +kernel) (by decide +kernel)
set_option maxRecDepth 20000 in
theorem gX5_hang_X5_hangs : GoodIn wsX5_hang (wsV RX5 68 RX5 yX5_hangs wsX5_hangs) := goodIn_app (goodIn_of _ (by decide +kernel)) ggX5_hang_X5_hangs
theorem dX5_hang_0 : decode cX5_hang 0 = .ok (.aload_n 0, 1) := by decide +kernel
theorem dX5_hang_1 : decode cX5_hang 1 = .ok (.iconst 0, 1) := by decide +kernel
theorem dX5_hang_2 : decode cX5_hang 2 = .ok (.putfield 46, 3) := by decide +kernel
theorem dX5_hang_5 : decode cX5_hang 5 = .ok (.iload_n 1, 1) := by decide +kernel
theorem dX5_hang_6 : decode cX5_hang 6 = .ok (.iconst (-1), 1) := by decide +kernel
theorem dX5_hang_7 : decode cX5_hang 7 = .ok (.if_icmp .eq 17, 3) := by decide +kernel
theorem dX5_hang_10 : decode cX5_hang 10 = .ok (.aload_n 0, 1) := by decide +kernel
theorem dX5_hang_11 : decode cX5_hang 11 = .ok (.iload_n 1, 1) := by decide +kernel
theorem dX5_hang_12 : decode cX5_hang 12 = .ok (.invokevirtual 60, 3) := by decide +kernel
theorem dX5_hang_15 : decode cX5_hang 15 = .ok (.ifCond .ne 9, 3) := by decide +kernel
theorem dX5_hang_18 : decode cX5_hang 18 = .ok (.aload_n 0, 1) := by decide +kernel
theorem dX5_hang_19 : decode cX5_hang 19 = .ok (.iconst 1, 1) := by decide +kernel
theorem dX5_hang_20 : decode cX5_hang 20 = .ok (.invokevirtual 64, 3) := by decide +kernel
theorem dX5_hang_23 : decode cX5_hang 23 = .ok (.ireturn, 1) := by decide +kernel
theorem dX5_hang_24 : decode cX5_hang 24 = .ok (.iload_n 2, 1) := by decide +kernel
theorem dX5_hang_25 : decode cX5_hang 25 = .ok (.iconst 0, 1) := by decide +kernel
theorem dX5_hang_26 : decode cX5_hang 26 = .ok (.iconst 4, 1) := by decide +kernel
theorem dX5_hang_27 : decode cX5_hang 27 = .ok (.invokestatic 53, 3) := by decide +kernel
theorem dX5_hang_30 : decode cX5_hang 30 = .ok (.ifCond .ne 9, 3) := by decide +kernel
theorem dX5_hang_33 : decode cX5_hang 33 = .ok (.aload_n 0, 1) := by decide +kernel
theorem dX5_hang_34 : decode cX5_hang 34 = .ok (.iconst 2, 1) := by decide +kernel
theorem dX5_hang_35 : decode cX5_hang 35 = .ok (.invokevirtual 64, 3) := by decide +kernel
theorem dX5_hang_38 : decode cX5_hang 38 = .ok (.ireturn, 1) := by decide +kernel
theorem dX5_hang_39 : decode cX5_hang 39 = .ok (.aload_n 0, 1) := by decide +kernel
theorem dX5_hang_40 : decode cX5_hang 40 = .ok (.getfield 50, 3) := by decide +kernel
theorem dX5_hang_43 : decode cX5_hang 43 = .ok (.bipush 16, 2) := by decide +kernel
theorem dX5_hang_45 : decode cX5_hang 45 = .ok (.if_icmp .eq 18, 3) := by decide +kernel
theorem dX5_hang_48 : decode cX5_hang 48 = .ok (.iload_n 1, 1) := by decide +kernel
theorem dX5_hang_49 : decode cX5_hang 49 = .ok (.iconst (-1), 1) := by decide +kernel
theorem dX5_hang_50 : decode cX5_hang 50 = .ok (.if_icmp .eq 19, 3) := by decide +kernel
theorem dX5_hang_53 : decode cX5_hang 53 = .ok (.aload_n 0, 1) := by decide +kernel
theorem dX5_hang_54 : decode cX5_hang 54 = .ok (.iload_n 1, 1) := by decide +kernel
theorem dX5_hang_55 : decode cX5_hang 55 = .ok (.invokevirtual 68, 3) := by decide +kernel
theorem dX5_hang_58 : decode cX5_hang 58 = .ok (.bipush 6, 2) := by decide +kernel
theorem dX5_hang_60 : decode cX5_hang 60 = .ok (.if_icmp .ne 9, 3) := by decide +kernel
theorem dX5_hang_63 : decode cX5_hang 63 = .ok (.aload_n 0, 1) := by decide +kernel
theorem dX5_hang_64 : decode cX5_hang 64 = .ok (.iconst 3, 1) := by decide +kernel
theorem dX5_hang_65 : decode cX5_hang 65 = .ok (.invokevirtual 64, 3) := by decide +kernel
theorem dX5_hang_68 : decode cX5_hang 68 = .ok (.ireturn, 1) := by decide +kernel
theorem dX5_hang_69 : decode cX5_hang 69 = .ok (.aload_n 0, 1) := by decide +kernel
theorem dX5_hang_70 : decode cX5_hang 70 = .ok (.getfield 9, 3) := by decide +kernel
theorem dX5_hang_73 : decode cX5_hang 73 = .ok (.aload_n 0, 1) := by decide +kernel
theorem dX5_hang_74 : decode cX5_hang 74 = .ok (.getfield 50, 3) := by decide +kernel
theorem dX5_hang_77 : decode cX5_hang 77 = .ok (.iload_n 1, 1) := by decide +kernel
theorem dX5_hang_78 : decode cX5_hang 78 = .ok (.iastore, 1) := by decide +kernel
theorem dX5_hang_79 : decode cX5_hang 79 = .ok (.aload_n 0, 1) := by decide +kernel
theorem dX5_hang_80 : decode cX5_hang 80 = .ok (.getfield 13, 3) := by decide +kernel
theorem dX5_hang_83 : decode cX5_hang 83 = .ok (.aload_n 0, 1) := by decide +kernel
theorem dX5_hang_84 : decode cX5_hang 84 = .ok (.getfield 50, 3) := by decide +kernel
theorem dX5_hang_87 : decode cX5_hang 87 = .ok (.iload_n 2, 1) := by decide +kernel
theorem dX5_hang_88 : decode cX5_hang 88 = .ok (.iastore, 1) := by decide +kernel
theorem dX5_hang_89 : decode cX5_hang 89 = .ok (.aload_n 0, 1) := by decide +kernel
theorem dX5_hang_90 : decode cX5_hang 90 = .ok (.dup, 1) := by decide +kernel
theorem dX5_hang_91 : decode cX5_hang 91 = .ok (.getfield 50, 3) := by decide +kernel
theorem dX5_hang_94 : decode cX5_hang 94 = .ok (.iconst 1, 1) := by decide +kernel
theorem dX5_hang_95 : decode cX5_hang 95 = .ok (.iadd, 1) := by decide +kernel
theorem dX5_hang_96 : decode cX5_hang 96 = .ok (.putfield 50, 3) := by decide +kernel
theorem dX5_hang_99 : decode cX5_hang 99 = .ok (.aload_n 0, 1) := by decide +kernel
theorem dX5_hang_100 : decode cX5_hang 100 = .ok (.getfield 50, 3) := by decide +kernel
theorem dX5_hang_103 : decode cX5_hang 103 = .ok (.iconst 1, 1) := by decide +kernel
theorem dX5_hang_104 : decode cX5_hang 104 = .ok (.isub, 1) := by decide +kernel
theorem dX5_hang_105 : decode cX5_hang 105 = .ok (.ireturn, 1) := by decide +kernel
theorem dX5_digits_0 : decode cX5_digits 0 = .ok (.iconst 0, 1) := by decide +kernel
theorem dX5_digits_1 : decode cX5_digits 1 = .ok (.istore_n 2, 1) := by decide +kernel
theorem dX5_digits_2 : decode cX5_digits 2 = .ok (.iconst 0, 1) := by decide +kernel
theorem dX5_digits_3 : decode cX5_digits 3 = .ok (.istore_n 3, 1) := by decide +kernel
theorem dX5_digits_4 : decode cX5_digits 4 = .ok (.iload_n 3, 1) := by decide +kernel
theorem dX5_digits_5 : decode cX5_digits 5 = .ok (.iconst 4, 1) := by decide +kernel
theorem dX5_digits_6 : decode cX5_digits 6 = .ok (.if_icmp .ge 28, 3) := by decide +kernel
theorem dX5_digits_9 : decode cX5_digits 9 = .ok (.iload_n 2, 1) := by decide +kernel
theorem dX5_digits_10 : decode cX5_digits 10 = .ok (.getstatic 71, 3) := by decide +kernel
theorem dX5_digits_13 : decode cX5_digits 13 = .ok (.iload_n 3, 1) := by decide +kernel
theorem dX5_digits_14 : decode cX5_digits 14 = .ok (.iaload, 1) := by decide +kernel
theorem dX5_digits_15 : decode cX5_digits 15 = .ok (.aload_n 0, 1) := by decide +kernel
theorem dX5_digits_16 : decode cX5_digits 16 = .ok (.getfield 16, 3) := by decide +kernel
theorem dX5_digits_19 : decode cX5_digits 19 = .ok (.iconst 4, 1) := by decide +kernel
theorem dX5_digits_20 : decode cX5_digits 20 = .ok (.iload_n 1, 1) := by decide +kernel
theorem dX5_digits_21 : decode cX5_digits 21 = .ok (.imul, 1) := by decide +kernel
theorem dX5_digits_22 : decode cX5_digits 22 = .ok (.iload_n 3, 1) := by decide +kernel
theorem dX5_digits_23 : decode cX5_digits 23 = .ok (.iadd, 1) := by decide +kernel
theorem dX5_digits_24 : decode cX5_digits 24 = .ok (.iaload, 1) := by decide +kernel
theorem dX5_digits_25 : decode cX5_digits 25 = .ok (.imul, 1) := by decide +kernel
theorem dX5_digits_26 : decode cX5_digits 26 = .ok (.iadd, 1) := by decide +kernel
theorem dX5_digits_27 : decode cX5_digits 27 = .ok (.istore_n 2, 1) := by decide +kernel
theorem dX5_digits_28 : decode cX5_digits 28 = .ok (.iinc 3 1, 3) := by decide +kernel
theorem dX5_digits_31 : decode cX5_digits 31 = .ok (.goto (-27), 3) := by decide +kernel
theorem dX5_digits_34 : decode cX5_digits 34 = .ok (.iload_n 2, 1) := by decide +kernel
theorem dX5_digits_35 : decode cX5_digits 35 = .ok (.ireturn, 1) := by decide +kernel
theorem dX5_allFrays_0 : decode cX5_allFrays 0 = .ok (.iconst 0, 1) := by decide +kernel
theorem dX5_allFrays_1 : decode cX5_allFrays 1 = .ok (.istore_n 2, 1) := by decide +kernel
theorem dX5_allFrays_2 : decode cX5_allFrays 2 = .ok (.iconst 0, 1) := by decide +kernel
theorem dX5_allFrays_3 : decode cX5_allFrays 3 = .ok (.istore_n 3, 1) := by decide +kernel
theorem dX5_allFrays_4 : decode cX5_allFrays 4 = .ok (.iload_n 3, 1) := by decide +kernel
theorem dX5_allFrays_5 : decode cX5_allFrays 5 = .ok (.iconst 4, 1) := by decide +kernel
theorem dX5_allFrays_6 : decode cX5_allFrays 6 = .ok (.if_icmp .ge 22, 3) := by decide +kernel
theorem dX5_allFrays_9 : decode cX5_allFrays 9 = .ok (.iload_n 2, 1) := by decide +kernel
theorem dX5_allFrays_10 : decode cX5_allFrays 10 = .ok (.aload_n 0, 1) := by decide +kernel
theorem dX5_allFrays_11 : decode cX5_allFrays 11 = .ok (.getfield 19, 3) := by decide +kernel
theorem dX5_allFrays_14 : decode cX5_allFrays 14 = .ok (.iconst 4, 1) := by decide +kernel
theorem dX5_allFrays_15 : decode cX5_allFrays 15 = .ok (.iload_n 1, 1) := by decide +kernel
theorem dX5_allFrays_16 : decode cX5_allFrays 16 = .ok (.imul, 1) := by decide +kernel
theorem dX5_allFrays_17 : decode cX5_allFrays 17 = .ok (.iload_n 3, 1) := by decide +kernel
theorem dX5_allFrays_18 : decode cX5_allFrays 18 = .ok (.iadd, 1) := by decide +kernel
theorem dX5_allFrays_19 : decode cX5_allFrays 19 = .ok (.iaload, 1) := by decide +kernel
theorem dX5_allFrays_20 : decode cX5_allFrays 20 = .ok (.iadd, 1) := by decide +kernel
theorem dX5_allFrays_21 : decode cX5_allFrays 21 = .ok (.istore_n 2, 1) := by decide +kernel
theorem dX5_allFrays_22 : decode cX5_allFrays 22 = .ok (.iinc 3 1, 3) := by decide +kernel
theorem dX5_allFrays_25 : decode cX5_allFrays 25 = .ok (.goto (-21), 3) := by decide +kernel
theorem dX5_allFrays_28 : decode cX5_allFrays 28 = .ok (.iload_n 2, 1) := by decide +kernel
theorem dX5_allFrays_29 : decode cX5_allFrays 29 = .ok (.ireturn, 1) := by decide +kernel
set_option maxRecDepth 20000 in
theorem ggX5_tie_X5_isCord : GoodIn wsX5_tie wsX5_isCord := goodIn_r _ [9, 10, 11, 12, 8, 13, 22, 23, 24, 25, 26, 27, 28, 29, 30, 31, 32, 33, 34, 35, 36, 37] (by decide +kernel) (by decide +kernel)
set_option maxRecDepth 20000 in
theorem gX5_tie_X5_isCord : GoodIn wsX5_tie (wsV RX5 60 RX5 yX5_isCord wsX5_isCord) := goodIn_app (goodIn_of _ (by decide +kernel)) ggX5_tie_X5_isCord
set_option maxRecDepth 20000 in
theorem ggX5_tie_X5_fail : GoodIn wsX5_tie wsX5_fail := goodIn_r _ [17, 1, 22, 23, 24, 25, 26, 27, 28, 29, 30, 31, 32, 33, 34, 35, 36, 37] (by decide +kernel) (by decide +kernel)
set_option maxRecDepth 20000 in
theorem gX5_tie_X5_fail : GoodIn wsX5_tie (wsV RX5 64 RX5 yX5_fail wsX5_fail) := goodIn_app (goodIn_of _ (by decide +kernel)) ggX5_tie_X5_fail
set_option maxRecDepth 20000 in
theorem ggX5_tie_X5_isIn : GoodIn wsX5_tie wsX5_isIn := goodIn_r _ [13] (by decide +kernel) (by decide +kernel)
set_option maxRecDepth 20000 in
theorem gX5_tie_X5_isIn : GoodIn wsX5_tie (va_wsS RX5 53 yX5_isIn wsX5_isIn) := goodIn_app (goodIn_of _ (by decide +kernel)) ggX5_tie_X5_isIn
set_option maxRecDepth 20000 in
theorem ggX5_tie_X5_digits : GoodIn wsX5_tie wsX5_digits := goodIn_r _ [21, 3, 2, 22, 23, 24, 25, 26, 27, 28, 29, 30, 31, 32, 33, 34, 35, 36, 37] (by decide +kernel) (by decide +kernel)
set_option maxRecDepth 20000 in
theorem gX5_tie_X5_digits : GoodIn wsX5_tie (wsV RX5 74 RX5 yX5_digits wsX5_digits) := goodIn_app (goodIn_of _ (by decide +kernel)) ggX5_tie_X5_digits
theorem dX5_tie_0 : decode cX5_tie 0 = .ok (.aload_n 0, 1) := by decide +kernel
theorem dX5_tie_1 : decode cX5_tie 1 = .ok (.iconst 0, 1) := by decide +kernel
theorem dX5_tie_2 : decode cX5_tie 2 = .ok (.putfield 46, 3) := by decide +kernel
theorem dX5_tie_5 : decode cX5_tie 5 = .ok (.aload_n 0, 1) := by decide +kernel
theorem dX5_tie_6 : decode cX5_tie 6 = .ok (.iload_n 1, 1) := by decide +kernel
theorem dX5_tie_7 : decode cX5_tie 7 = .ok (.invokevirtual 60, 3) := by decide +kernel
theorem dX5_tie_10 : decode cX5_tie 10 = .ok (.ifCond .ne 9, 3) := by decide +kernel
theorem dX5_tie_13 : decode cX5_tie 13 = .ok (.aload_n 0, 1) := by decide +kernel
theorem dX5_tie_14 : decode cX5_tie 14 = .ok (.iconst 1, 1) := by decide +kernel
theorem dX5_tie_15 : decode cX5_tie 15 = .ok (.invokevirtual 64, 3) := by decide +kernel
theorem dX5_tie_18 : decode cX5_tie 18 = .ok (.ireturn, 1) := by decide +kernel
theorem dX5_tie_19 : decode cX5_tie 19 = .ok (.iload_n 2, 1) := by decide +kernel
theorem dX5_tie_20 : decode cX5_tie 20 = .ok (.iconst 0, 1) := by decide +kernel
theorem dX5_tie_21 : decode cX5_tie 21 = .ok (.sipush 9999, 3) := by decide +kernel
theorem dX5_tie_24 : decode cX5_tie 24 = .ok (.invokestatic 53, 3) := by decide +kernel
theorem dX5_tie_27 : decode cX5_tie 27 = .ok (.ifCond .ne 9, 3) := by decide +kernel
theorem dX5_tie_30 : decode cX5_tie 30 = .ok (.aload_n 0, 1) := by decide +kernel
theorem dX5_tie_31 : decode cX5_tie 31 = .ok (.iconst 2, 1) := by decide +kernel
theorem dX5_tie_32 : decode cX5_tie 32 = .ok (.invokevirtual 64, 3) := by decide +kernel
theorem dX5_tie_35 : decode cX5_tie 35 = .ok (.ireturn, 1) := by decide +kernel
theorem dX5_tie_36 : decode cX5_tie 36 = .ok (.aload_n 0, 1) := by decide +kernel
theorem dX5_tie_37 : decode cX5_tie 37 = .ok (.iload_n 1, 1) := by decide +kernel
theorem dX5_tie_38 : decode cX5_tie 38 = .ok (.invokevirtual 74, 3) := by decide +kernel
theorem dX5_tie_41 : decode cX5_tie 41 = .ok (.istore_n 3, 1) := by decide +kernel
theorem dX5_tie_42 : decode cX5_tie 42 = .ok (.iconst 0, 1) := by decide +kernel
theorem dX5_tie_43 : decode cX5_tie 43 = .ok (.istore 4, 2) := by decide +kernel
theorem dX5_tie_45 : decode cX5_tie 45 = .ok (.iload 4, 2) := by decide +kernel
theorem dX5_tie_47 : decode cX5_tie 47 = .ok (.iconst 4, 1) := by decide +kernel
theorem dX5_tie_48 : decode cX5_tie 48 = .ok (.if_icmp .ge 43, 3) := by decide +kernel
theorem dX5_tie_51 : decode cX5_tie 51 = .ok (.aload_n 0, 1) := by decide +kernel
theorem dX5_tie_52 : decode cX5_tie 52 = .ok (.getfield 16, 3) := by decide +kernel
theorem dX5_tie_55 : decode cX5_tie 55 = .ok (.iconst 4, 1) := by decide +kernel
theorem dX5_tie_56 : decode cX5_tie 56 = .ok (.iload_n 1, 1) := by decide +kernel
theorem dX5_tie_57 : decode cX5_tie 57 = .ok (.imul, 1) := by decide +kernel
theorem dX5_tie_58 : decode cX5_tie 58 = .ok (.iload 4, 2) := by decide +kernel
theorem dX5_tie_60 : decode cX5_tie 60 = .ok (.iadd, 1) := by decide +kernel
theorem dX5_tie_61 : decode cX5_tie 61 = .ok (.iload_n 2, 1) := by decide +kernel
theorem dX5_tie_62 : decode cX5_tie 62 = .ok (.getstatic 71, 3) := by decide +kernel
theorem dX5_tie_65 : decode cX5_tie 65 = .ok (.iload 4, 2) := by decide +kernel
theorem dX5_tie_67 : decode cX5_tie 67 = .ok (.iaload, 1) := by decide +kernel
theorem dX5_tie_68 : decode cX5_tie 68 = .ok (.idiv, 1) := by decide +kernel
theorem dX5_tie_69 : decode cX5_tie 69 = .ok (.bipush 10, 2) := by decide +kernel
theorem dX5_tie_71 : decode cX5_tie 71 = .ok (.irem, 1) := by decide +kernel
theorem dX5_tie_72 : decode cX5_tie 72 = .ok (.iastore, 1) := by decide +kernel
theorem dX5_tie_73 : decode cX5_tie 73 = .ok (.aload_n 0, 1) := by decide +kernel
theorem dX5_tie_74 : decode cX5_tie 74 = .ok (.getfield 19, 3) := by decide +kernel
theorem dX5_tie_77 : decode cX5_tie 77 = .ok (.iconst 4, 1) := by decide +kernel
theorem dX5_tie_78 : decode cX5_tie 78 = .ok (.iload_n 1, 1) := by decide +kernel
theorem dX5_tie_79 : decode cX5_tie 79 = .ok (.imul, 1) := by decide +kernel
theorem dX5_tie_80 : decode cX5_tie 80 = .ok (.iload 4, 2) := by decide +kernel
theorem dX5_tie_82 : decode cX5_tie 82 = .ok (.iadd, 1) := by decide +kernel
theorem dX5_tie_83 : decode cX5_tie 83 = .ok (.iconst 0, 1) := by decide +kernel
theorem dX5_tie_84 : decode cX5_tie 84 = .ok (.iastore, 1) := by decide +kernel
theorem dX5_tie_85 : decode cX5_tie 85 = .ok (.iinc 4 1, 3) := by decide +kernel
theorem dX5_tie_88 : decode cX5_tie 88 = .ok (.goto (-43), 3) := by decide +kernel
theorem dX5_tie_91 : decode cX5_tie 91 = .ok (.iload_n 3, 1) := by decide +kernel
theorem dX5_tie_92 : decode cX5_tie 92 = .ok (.ireturn, 1) := by decide +kernel
set_option maxRecDepth 20000 in
theorem ggX5_untie_X5_isWitness : GoodIn wsX5_untie wsX5_isWitness := goodIn_r _ [15, 16, 17, 18, 14, 19, 34, 35, 36, 37, 38, 39, 40, 41, 42, 43, 44, 45, 46, 47, 48, 49] (by decide +kernel) (by decide +kernel)
set_option maxRecDepth 20000 in
theorem gX5_untie_X5_isWitness : GoodIn wsX5_untie (wsV RX5 77 RX5 yX5_isWitness wsX5_isWitness) := goodIn_app (goodIn_of _ (by decide +kernel)) ggX5_untie_X5_isWitness
set_option maxRecDepth 20000 in
theorem ggX5_untie_X5_isCord : GoodIn wsX5_untie wsX5_isCord := goodIn_r _ [23, 24, 17, 18, 14, 19, 34, 35, 36, 37, 38, 39, 40, 41, 42, 43, 44, 45, 46, 47, 48, 49] (by decide +kernel) (by decide +kernel)
set_option maxRecDepth 20000 in
theorem gX5_untie_X5_isCord : GoodIn wsX5_untie (wsV RX5 60 RX5 yX5_isCord wsX5_isCord) := goodIn_app (goodIn_of _ (by decide +kernel)) ggX5_untie_X5_isCord
set_option maxRecDepth 20000 in
theorem ggX5_untie_X5_isIn : GoodIn wsX5_untie wsX5_isIn := goodIn_r _ [19] (by decide +kernel) (by decide +kernel)
set_option maxRecDepth 20000 in
theorem gX5_untie_X5_isIn : GoodIn wsX5_untie (va_wsS RX5 53 yX5_isIn wsX5_isIn) := goodIn_app (goodIn_of _ (by decide +kernel)) ggX5_untie_X5_isIn
set_option maxRecDepth 20000 in
theorem ggX5_untie_X5_fail : GoodIn wsX5_untie wsX5_fail := goodIn_r _ [28, 1, 34, 35, 36, 37, 38, 39, 40, 41, 42, 43, 44, 45, 46, 47, 48, 49] (by decide +kernel) (by decide +kernel)
set_option maxRecDepth 20000 in
theorem gX5_untie_X5_fail : GoodIn wsX5_untie (wsV RX5 64 RX5 yX5_fail wsX5_fail) := goodIn_app (goodIn_of _ (by decide +kernel)) ggX5_untie_X5_fail
set_option maxRecDepth 20000 in
theorem ggX5_untie_X5_digits : GoodIn wsX5_untie wsX5_digits := goodIn_r _ [32, 33, 2, 34, 35, 36, 37, 38, 39, 40, 41, 42, 43, 44, 45, 46, 47, 48, 49] (by decide +kernel) (by decide +kernel)
set_option maxRecDepth 20000 in
theorem gX5_untie_X5_digits : GoodIn wsX5_untie (wsV RX5 74 RX5 yX5_digits wsX5_digits) := goodIn_app (goodIn_of _ (by decide +kernel)) ggX5_untie_X5_digits
theorem dX5_untie_0 : decode cX5_untie 0 = .ok (.aload_n 0, 1) := by decide +kernel
theorem dX5_untie_1 : decode cX5_untie 1 = .ok (.iconst 0, 1) := by decide +kernel
theorem dX5_untie_2 : decode cX5_untie 2 = .ok (.putfield 46, 3) := by decide +kernel
theorem dX5_untie_5 : decode cX5_untie 5 = .ok (.aload_n 0, 1) := by decide +kernel
theorem dX5_untie_6 : decode cX5_untie 6 = .ok (.iload_n 1, 1) := by decide +kernel
theorem dX5_untie_7 : decode cX5_untie 7 = .ok (.invokevirtual 77, 3) := by decide +kernel
theorem dX5_untie_10 : decode cX5_untie 10 = .ok (.ifCond .eq 20, 3) := by decide +kernel
theorem dX5_untie_13 : decode cX5_untie 13 = .ok (.aload_n 0, 1) := by decide +kernel
theorem dX5_untie_14 : decode cX5_untie 14 = .ok (.iload_n 2, 1) := by decide +kernel
theorem dX5_untie_15 : decode cX5_untie 15 = .ok (.invokevirtual 60, 3) := by decide +kernel
theorem dX5_untie_18 : decode cX5_untie 18 = .ok (.ifCond .eq 12, 3) := by decide +kernel
theorem dX5_untie_21 : decode cX5_untie 21 = .ok (.iload_n 3, 1) := by decide +kernel
theorem dX5_untie_22 : decode cX5_untie 22 = .ok (.iconst 0, 1) := by decide +kernel
theorem dX5_untie_23 : decode cX5_untie 23 = .ok (.iconst 3, 1) := by decide +kernel
theorem dX5_untie_24 : decode cX5_untie 24 = .ok (.invokestatic 53, 3) := by decide +kernel
theorem dX5_untie_27 : decode cX5_untie 27 = .ok (.ifCond .ne 9, 3) := by decide +kernel
theorem dX5_untie_30 : decode cX5_untie 30 = .ok (.aload_n 0, 1) := by decide +kernel
theorem dX5_untie_31 : decode cX5_untie 31 = .ok (.iconst 1, 1) := by decide +kernel
theorem dX5_untie_32 : decode cX5_untie 32 = .ok (.invokevirtual 64, 3) := by decide +kernel
theorem dX5_untie_35 : decode cX5_untie 35 = .ok (.ireturn, 1) := by decide +kernel
theorem dX5_untie_36 : decode cX5_untie 36 = .ok (.iload 4, 2) := by decide +kernel
theorem dX5_untie_38 : decode cX5_untie 38 = .ok (.iconst 1, 1) := by decide +kernel
theorem dX5_untie_39 : decode cX5_untie 39 = .ok (.bipush 9, 2) := by decide +kernel
theorem dX5_untie_41 : decode cX5_untie 41 = .ok (.invokestatic 53, 3) := by decide +kernel
theorem dX5_untie_44 : decode cX5_untie 44 = .ok (.ifCond .ne 9, 3) := by decide +kernel
theorem dX5_untie_47 : decode cX5_untie 47 = .ok (.aload_n 0, 1) := by decide +kernel
theorem dX5_untie_48 : decode cX5_untie 48 = .ok (.iconst 2, 1) := by decide +kernel
theorem dX5_untie_49 : decode cX5_untie 49 = .ok (.invokevirtual 64, 3) := by decide +kernel
theorem dX5_untie_52 : decode cX5_untie 52 = .ok (.ireturn, 1) := by decide +kernel
theorem dX5_untie_53 : decode cX5_untie 53 = .ok (.aload_n 0, 1) := by decide +kernel
theorem dX5_untie_54 : decode cX5_untie 54 = .ok (.getfield 16, 3) := by decide +kernel
theorem dX5_untie_57 : decode cX5_untie 57 = .ok (.iconst 4, 1) := by decide +kernel
theorem dX5_untie_58 : decode cX5_untie 58 = .ok (.iload_n 2, 1) := by decide +kernel
theorem dX5_untie_59 : decode cX5_untie 59 = .ok (.imul, 1) := by decide +kernel
theorem dX5_untie_60 : decode cX5_untie 60 = .ok (.iload_n 3, 1) := by decide +kernel
theorem dX5_untie_61 : decode cX5_untie 61 = .ok (.iadd, 1) := by decide +kernel
theorem dX5_untie_62 : decode cX5_untie 62 = .ok (.iaload, 1) := by decide +kernel
theorem dX5_untie_63 : decode cX5_untie 63 = .ok (.iload 4, 2) := by decide +kernel
theorem dX5_untie_65 : decode cX5_untie 65 = .ok (.if_icmp .lt 12, 3) := by decide +kernel
theorem dX5_untie_68 : decode cX5_untie 68 = .ok (.aload_n 0, 1) := by decide +kernel
theorem dX5_untie_69 : decode cX5_untie 69 = .ok (.getfield 80, 3) := by decide +kernel
theorem dX5_untie_72 : decode cX5_untie 72 = .ok (.bipush 30, 2) := by decide +kernel
theorem dX5_untie_74 : decode cX5_untie 74 = .ok (.if_icmp .ne 9, 3) := by decide +kernel
theorem dX5_untie_77 : decode cX5_untie 77 = .ok (.aload_n 0, 1) := by decide +kernel
theorem dX5_untie_78 : decode cX5_untie 78 = .ok (.iconst 3, 1) := by decide +kernel
theorem dX5_untie_79 : decode cX5_untie 79 = .ok (.invokevirtual 64, 3) := by decide +kernel
theorem dX5_untie_82 : decode cX5_untie 82 = .ok (.ireturn, 1) := by decide +kernel
theorem dX5_untie_83 : decode cX5_untie 83 = .ok (.aload_n 0, 1) := by decide +kernel
theorem dX5_untie_84 : decode cX5_untie 84 = .ok (.getfield 16, 3) := by decide +kernel
theorem dX5_untie_87 : decode cX5_untie 87 = .ok (.iconst 4, 1) := by decide +kernel
theorem dX5_untie_88 : decode cX5_untie 88 = .ok (.iload_n 2, 1) := by decide +kernel
theorem dX5_untie_89 : decode cX5_untie 89 = .ok (.imul, 1) := by decide +kernel
theorem dX5_untie_90 : decode cX5_untie 90 = .ok (.iload_n 3, 1) := by decide +kernel
theorem dX5_untie_91 : decode cX5_untie 91 = .ok (.iadd, 1) := by decide +kernel
theorem dX5_untie_92 : decode cX5_untie 92 = .ok (.dup2, 1) := by decide +kernel
theorem dX5_untie_93 : decode cX5_untie 93 = .ok (.iaload, 1) := by decide +kernel
theorem dX5_untie_94 : decode cX5_untie 94 = .ok (.iload 4, 2) := by decide +kernel
theorem dX5_untie_96 : decode cX5_untie 96 = .ok (.isub, 1) := by decide +kernel
theorem dX5_untie_97 : decode cX5_untie 97 = .ok (.iastore, 1) := by decide +kernel
theorem dX5_untie_98 : decode cX5_untie 98 = .ok (.iconst 5, 1) := by decide +kernel
theorem dX5_untie_99 : decode cX5_untie 99 = .ok (.newarray .int, 2) := by decide +kernel
theorem dX5_untie_101 : decode cX5_untie 101 = .ok (.dup, 1) := by decide +kernel
theorem dX5_untie_102 : decode cX5_untie 102 = .ok (.iconst 0, 1) := by decide +kernel
theorem dX5_untie_103 : decode cX5_untie 103 = .ok (.iload_n 1, 1) := by decide +kernel
theorem dX5_untie_104 : decode cX5_untie 104 = .ok (.iastore, 1) := by decide +kernel
theorem dX5_untie_105 : decode cX5_untie 105 = .ok (.dup, 1) := by decide +kernel
theorem dX5_untie_106 : decode cX5_untie 106 = .ok (.iconst 1, 1) := by decide +kernel
theorem dX5_untie_107 : decode cX5_untie 107 = .ok (.iload_n 2, 1) := by decide +kernel
theorem dX5_untie_108 : decode cX5_untie 108 = .ok (.iastore, 1) := by decide +kernel
theorem dX5_untie_109 : decode cX5_untie 109 = .ok (.dup, 1) := by decide +kernel
theorem dX5_untie_110 : decode cX5_untie 110 = .ok (.iconst 2, 1) := by decide +kernel
theorem dX5_untie_111 : decode cX5_untie 111 = .ok (.iload_n 3, 1) := by decide +kernel
theorem dX5_untie_112 : decode cX5_untie 112 = .ok (.iastore, 1) := by decide +kernel
theorem dX5_untie_113 : decode cX5_untie 113 = .ok (.dup, 1) := by decide +kernel
theorem dX5_untie_114 : decode cX5_untie 114 = .ok (.iconst 3, 1) := by decide +kernel
theorem dX5_untie_115 : decode cX5_untie 115 = .ok (.iload 4, 2) := by decide +kernel
theorem dX5_untie_117 : decode cX5_untie 117 = .ok (.iastore, 1) := by decide +kernel
theorem dX5_untie_118 : decode cX5_untie 118 = .ok (.dup, 1) := by decide +kernel
theorem dX5_untie_119 : decode cX5_untie 119 = .ok (.iconst 4, 1) := by decide +kernel
theorem dX5_untie_120 : decode cX5_untie 120 = .ok (.aload_n 0, 1) := by decide +kernel
theorem dX5_untie_121 : decode cX5_untie 121 = .ok (.getfield 34, 3) := by decide +kernel
theorem dX5_untie_124 : decode cX5_untie 124 = .ok (.iconst 0, 1) := by decide +kernel
theorem dX5_untie_125 : decode cX5_untie 125 = .ok (.iaload, 1) := by decide +kernel
theorem dX5_untie_126 : decode cX5_untie 126 = .ok (.iastore, 1) := by decide +kernel
theorem dX5_untie_127 : decode cX5_untie 127 = .ok (.astore 5, 2) := by decide +kernel
theorem dX5_untie_129 : decode cX5_untie 129 = .ok (.aload 5, 2) := by decide +kernel
theorem dX5_untie_131 : decode cX5_untie 131 = .ok (.iconst 0, 1) := by decide +kernel
theorem dX5_untie_132 : decode cX5_untie 132 = .ok (.aload_n 0, 1) := by decide +kernel
theorem dX5_untie_133 : decode cX5_untie 133 = .ok (.getfield 31, 3) := by decide +kernel
theorem dX5_untie_136 : decode cX5_untie 136 = .ok (.iconst 5, 1) := by decide +kernel
theorem dX5_untie_137 : decode cX5_untie 137 = .ok (.aload_n 0, 1) := by decide +kernel
theorem dX5_untie_138 : decode cX5_untie 138 = .ok (.getfield 80, 3) := by decide +kernel
theorem dX5_untie_141 : decode cX5_untie 141 = .ok (.imul, 1) := by decide +kernel
theorem dX5_untie_142 : decode cX5_untie 142 = .ok (.iconst 5, 1) := by decide +kernel
theorem dX5_untie_143 : decode cX5_untie 143 = .ok (.invokestatic 83, 3) := by decide +kernel
theorem dX5_untie_146 : decode cX5_untie 146 = .ok (.aload_n 0, 1) := by decide +kernel
theorem dX5_untie_147 : decode cX5_untie 147 = .ok (.dup, 1) := by decide +kernel
theorem dX5_untie_148 : decode cX5_untie 148 = .ok (.getfield 80, 3) := by decide +kernel
theorem dX5_untie_151 : decode cX5_untie 151 = .ok (.iconst 1, 1) := by decide +kernel
theorem dX5_untie_152 : decode cX5_untie 152 = .ok (.iadd, 1) := by decide +kernel
theorem dX5_untie_153 : decode cX5_untie 153 = .ok (.putfield 80, 3) := by decide +kernel
theorem dX5_untie_156 : decode cX5_untie 156 = .ok (.aload_n 0, 1) := by decide +kernel
theorem dX5_untie_157 : decode cX5_untie 157 = .ok (.iload_n 2, 1) := by decide +kernel
theorem dX5_untie_158 : decode cX5_untie 158 = .ok (.invokevirtual 74, 3) := by decide +kernel
theorem dX5_untie_161 : decode cX5_untie 161 = .ok (.ireturn, 1) := by decide +kernel
set_option maxRecDepth 20000 in
theorem ggX5_mend_X5_isCord : GoodIn wsX5_mend wsX5_isCord := goodIn_r _ [7, 8, 9, 10, 6, 11, 20, 21, 22, 23, 24, 25, 26, 27, 28, 29, 30, 31, 32, 33, 34, 35] (by decide +kernel) (by decide +kernel)
set_option maxRecDepth 20000 in
theorem gX5_mend_X5_isCord : GoodIn wsX5_mend (wsV RX5 60 RX5 yX5_isCord wsX5_isCord) := goodIn_app (goodIn_of _ (by decide +kernel)) ggX5_mend_X5_isCord
set_option maxRecDepth 20000 in
theorem ggX5_mend_X5_fail : GoodIn wsX5_mend wsX5_fail := goodIn_r _ [15, 1, 20, 21, 22, 23, 24, 25, 26, 27, 28, 29, 30, 31, 32, 33, 34, 35] (by decide +kernel) (by decide +kernel)
set_option maxRecDepth 20000 in
theorem gX5_mend_X5_fail : GoodIn wsX5_mend (wsV RX5 64 RX5 yX5_fail wsX5_fail) := goodIn_app (goodIn_of _ (by decide +kernel)) ggX5_mend_X5_fail
set_option maxRecDepth 20000 in
theorem ggX5_mend_X5_allFrays : GoodIn wsX5_mend wsX5_allFrays := goodIn_r _ [19, 2, 20, 21, 22, 23, 24, 25, 26, 27, 28, 29, 30, 31, 32, 33, 34, 35] (by decide +kernel) (by decide +kernel)
set_option maxRecDepth 20000 in
theorem gX5_mend_X5_allFrays : GoodIn wsX5_mend (wsV RX5 89 RX5 yX5_allFrays wsX5_allFrays) := goodIn_app (goodIn_of _ (by decide +kernel)) ggX5_mend_X5_allFrays
theorem dX5_mend_0 : decode cX5_mend 0 = .ok (.aload_n 0, 1) := by decide +kernel
theorem dX5_mend_1 : decode cX5_mend 1 = .ok (.iconst 0, 1) := by decide +kernel
theorem dX5_mend_2 : decode cX5_mend 2 = .ok (.putfield 46, 3) := by decide +kernel
theorem dX5_mend_5 : decode cX5_mend 5 = .ok (.aload_n 0, 1) := by decide +kernel
theorem dX5_mend_6 : decode cX5_mend 6 = .ok (.iload_n 1, 1) := by decide +kernel
theorem dX5_mend_7 : decode cX5_mend 7 = .ok (.invokevirtual 60, 3) := by decide +kernel
theorem dX5_mend_10 : decode cX5_mend 10 = .ok (.ifCond .ne 9, 3) := by decide +kernel
theorem dX5_mend_13 : decode cX5_mend 13 = .ok (.aload_n 0, 1) := by decide +kernel
theorem dX5_mend_14 : decode cX5_mend 14 = .ok (.iconst 1, 1) := by decide +kernel
theorem dX5_mend_15 : decode cX5_mend 15 = .ok (.invokevirtual 64, 3) := by decide +kernel
theorem dX5_mend_18 : decode cX5_mend 18 = .ok (.ireturn, 1) := by decide +kernel
theorem dX5_mend_19 : decode cX5_mend 19 = .ok (.aload_n 0, 1) := by decide +kernel
theorem dX5_mend_20 : decode cX5_mend 20 = .ok (.iload_n 1, 1) := by decide +kernel
theorem dX5_mend_21 : decode cX5_mend 21 = .ok (.invokevirtual 89, 3) := by decide +kernel
theorem dX5_mend_24 : decode cX5_mend 24 = .ok (.istore_n 2, 1) := by decide +kernel
theorem dX5_mend_25 : decode cX5_mend 25 = .ok (.iconst 0, 1) := by decide +kernel
theorem dX5_mend_26 : decode cX5_mend 26 = .ok (.istore_n 3, 1) := by decide +kernel
theorem dX5_mend_27 : decode cX5_mend 27 = .ok (.iload_n 3, 1) := by decide +kernel
theorem dX5_mend_28 : decode cX5_mend 28 = .ok (.iconst 4, 1) := by decide +kernel
theorem dX5_mend_29 : decode cX5_mend 29 = .ok (.if_icmp .ge 20, 3) := by decide +kernel
theorem dX5_mend_32 : decode cX5_mend 32 = .ok (.aload_n 0, 1) := by decide +kernel
theorem dX5_mend_33 : decode cX5_mend 33 = .ok (.getfield 19, 3) := by decide +kernel
theorem dX5_mend_36 : decode cX5_mend 36 = .ok (.iconst 4, 1) := by decide +kernel
theorem dX5_mend_37 : decode cX5_mend 37 = .ok (.iload_n 1, 1) := by decide +kernel
theorem dX5_mend_38 : decode cX5_mend 38 = .ok (.imul, 1) := by decide +kernel
theorem dX5_mend_39 : decode cX5_mend 39 = .ok (.iload_n 3, 1) := by decide +kernel
theorem dX5_mend_40 : decode cX5_mend 40 = .ok (.iadd, 1) := by decide +kernel
theorem dX5_mend_41 : decode cX5_mend 41 = .ok (.iconst 0, 1) := by decide +kernel
theorem dX5_mend_42 : decode cX5_mend 42 = .ok (.iastore, 1) := by decide +kernel
theorem dX5_mend_43 : decode cX5_mend 43 = .ok (.iinc 3 1, 3) := by decide +kernel
theorem dX5_mend_46 : decode cX5_mend 46 = .ok (.goto (-19), 3) := by decide +kernel
theorem dX5_mend_49 : decode cX5_mend 49 = .ok (.iload_n 2, 1) := by decide +kernel
theorem dX5_mend_50 : decode cX5_mend 50 = .ok (.ireturn, 1) := by decide +kernel
set_option maxRecDepth 20000 in
theorem ggX5_count_X5_hangs : GoodIn wsX5_count wsX5_hangs := goodIn_r _ [13, 14, 1, 15, 16, 17, 18, 19, 20, 21, 22, 23, 24, 25, 26, 27, 28, 29, 30] (by decide +kernel) (by decide +kernel)
set_option maxRecDepth 20000 in
theorem gX5_count_X5_hangs : GoodIn wsX5_count (wsV RX5 68 RX5 yX5_hangs wsX5_hangs) := goodIn_app (goodIn_of _ (by decide +kernel)) ggX5_count_X5_hangs
theorem dX5_count_0 : decode cX5_count 0 = .ok (.aload_n 0, 1) := by decide +kernel
theorem dX5_count_1 : decode cX5_count 1 = .ok (.getfield 9, 3) := by decide +kernel
theorem dX5_count_4 : decode cX5_count 4 = .ok (.iload_n 1, 1) := by decide +kernel
theorem dX5_count_5 : decode cX5_count 5 = .ok (.iaload, 1) := by decide +kernel
theorem dX5_count_6 : decode cX5_count 6 = .ok (.istore_n 3, 1) := by decide +kernel
theorem dX5_count_7 : decode cX5_count 7 = .ok (.iload_n 3, 1) := by decide +kernel
theorem dX5_count_8 : decode cX5_count 8 = .ok (.iconst (-1), 1) := by decide +kernel
theorem dX5_count_9 : decode cX5_count 9 = .ok (.if_icmp .ne 4, 3) := by decide +kernel
theorem dX5_count_12 : decode cX5_count 12 = .ok (.return_, 1) := by decide +kernel
theorem dX5_count_13 : decode cX5_count 13 = .ok (.aload_n 0, 1) := by decide +kernel
theorem dX5_count_14 : decode cX5_count 14 = .ok (.getfield 43, 3) := by decide +kernel
theorem dX5_count_17 : decode cX5_count 17 = .ok (.iload_n 3, 1) := by decide +kernel
theorem dX5_count_18 : decode cX5_count 18 = .ok (.iaload, 1) := by decide +kernel
theorem dX5_count_19 : decode cX5_count 19 = .ok (.ifCond .ne 7, 3) := by decide +kernel
theorem dX5_count_22 : decode cX5_count 22 = .ok (.iconst 1, 1) := by decide +kernel
theorem dX5_count_23 : decode cX5_count 23 = .ok (.goto 4, 3) := by decide +kernel
theorem dX5_count_26 : decode cX5_count 26 = .ok (.iconst 0, 1) := by decide +kernel
theorem dX5_count_27 : decode cX5_count 27 = .ok (.istore 4, 2) := by decide +kernel
theorem dX5_count_29 : decode cX5_count 29 = .ok (.aload_n 0, 1) := by decide +kernel
theorem dX5_count_30 : decode cX5_count 30 = .ok (.getfield 43, 3) := by decide +kernel
theorem dX5_count_33 : decode cX5_count 33 = .ok (.iload_n 3, 1) := by decide +kernel
theorem dX5_count_34 : decode cX5_count 34 = .ok (.dup2, 1) := by decide +kernel
theorem dX5_count_35 : decode cX5_count 35 = .ok (.iaload, 1) := by decide +kernel
theorem dX5_count_36 : decode cX5_count 36 = .ok (.iconst 1, 1) := by decide +kernel
theorem dX5_count_37 : decode cX5_count 37 = .ok (.iadd, 1) := by decide +kernel
theorem dX5_count_38 : decode cX5_count 38 = .ok (.iastore, 1) := by decide +kernel
theorem dX5_count_39 : decode cX5_count 39 = .ok (.aload_n 0, 1) := by decide +kernel
theorem dX5_count_40 : decode cX5_count 40 = .ok (.getfield 43, 3) := by decide +kernel
theorem dX5_count_43 : decode cX5_count 43 = .ok (.iload_n 3, 1) := by decide +kernel
theorem dX5_count_44 : decode cX5_count 44 = .ok (.iaload, 1) := by decide +kernel
theorem dX5_count_45 : decode cX5_count 45 = .ok (.aload_n 0, 1) := by decide +kernel
theorem dX5_count_46 : decode cX5_count 46 = .ok (.iload_n 3, 1) := by decide +kernel
theorem dX5_count_47 : decode cX5_count 47 = .ok (.invokevirtual 68, 3) := by decide +kernel
theorem dX5_count_50 : decode cX5_count 50 = .ok (.if_icmp .ne 7, 3) := by decide +kernel
theorem dX5_count_53 : decode cX5_count 53 = .ok (.iconst 1, 1) := by decide +kernel
theorem dX5_count_54 : decode cX5_count 54 = .ok (.goto 4, 3) := by decide +kernel
theorem dX5_count_57 : decode cX5_count 57 = .ok (.iconst 0, 1) := by decide +kernel
theorem dX5_count_58 : decode cX5_count 58 = .ok (.istore 5, 2) := by decide +kernel
theorem dX5_count_60 : decode cX5_count 60 = .ok (.aload_n 0, 1) := by decide +kernel
theorem dX5_count_61 : decode cX5_count 61 = .ok (.getfield 13, 3) := by decide +kernel
theorem dX5_count_64 : decode cX5_count 64 = .ok (.iload_n 3, 1) := by decide +kernel
theorem dX5_count_65 : decode cX5_count 65 = .ok (.iaload, 1) := by decide +kernel
theorem dX5_count_66 : decode cX5_count 66 = .ok (.tableswitch 115 0 3 #[30, 43, 66, 94], 30) := by decide +kernel
theorem dX5_count_96 : decode cX5_count 96 = .ok (.aload_n 0, 1) := by decide +kernel
theorem dX5_count_97 : decode cX5_count 97 = .ok (.getfield 37, 3) := by decide +kernel
theorem dX5_count_100 : decode cX5_count 100 = .ok (.iload_n 3, 1) := by decide +kernel
theorem dX5_count_101 : decode cX5_count 101 = .ok (.dup2, 1) := by decide +kernel
theorem dX5_count_102 : decode cX5_count 102 = .ok (.iaload, 1) := by decide +kernel
theorem dX5_count_103 : decode cX5_count 103 = .ok (.iload_n 2, 1) := by decide +kernel
theorem dX5_count_104 : decode cX5_count 104 = .ok (.iadd, 1) := by decide +kernel
theorem dX5_count_105 : decode cX5_count 105 = .ok (.iastore, 1) := by decide +kernel
theorem dX5_count_106 : decode cX5_count 106 = .ok (.goto 98, 3) := by decide +kernel
theorem dX5_count_109 : decode cX5_count 109 = .ok (.aload_n 0, 1) := by decide +kernel
theorem dX5_count_110 : decode cX5_count 110 = .ok (.getfield 37, 3) := by decide +kernel
theorem dX5_count_113 : decode cX5_count 113 = .ok (.iload_n 3, 1) := by decide +kernel
theorem dX5_count_114 : decode cX5_count 114 = .ok (.dup2, 1) := by decide +kernel
theorem dX5_count_115 : decode cX5_count 115 = .ok (.iaload, 1) := by decide +kernel
theorem dX5_count_116 : decode cX5_count 116 = .ok (.iload 5, 2) := by decide +kernel
theorem dX5_count_118 : decode cX5_count 118 = .ok (.ifCond .eq 7, 3) := by decide +kernel
theorem dX5_count_121 : decode cX5_count 121 = .ok (.iload_n 2, 1) := by decide +kernel
theorem dX5_count_122 : decode cX5_count 122 = .ok (.goto 5, 3) := by decide +kernel
theorem dX5_count_125 : decode cX5_count 125 = .ok (.iload_n 2, 1) := by decide +kernel
theorem dX5_count_126 : decode cX5_count 126 = .ok (.ineg, 1) := by decide +kernel
theorem dX5_count_127 : decode cX5_count 127 = .ok (.iadd, 1) := by decide +kernel
theorem dX5_count_128 : decode cX5_count 128 = .ok (.iastore, 1) := by decide +kernel
theorem dX5_count_129 : decode cX5_count 129 = .ok (.goto 75, 3) := by decide +kernel
theorem dX5_count_132 : decode cX5_count 132 = .ok (.aload_n 0, 1) := by decide +kernel
theorem dX5_count_133 : decode cX5_count 133 = .ok (.getfield 37, 3) := by decide +kernel
theorem dX5_count_136 : decode cX5_count 136 = .ok (.iload_n 3, 1) := by decide +kernel
theorem dX5_count_137 : decode cX5_count 137 = .ok (.iload 4, 2) := by decide +kernel
theorem dX5_count_139 : decode cX5_count 139 = .ok (.ifCond .eq 7, 3) := by decide +kernel
theorem dX5_count_142 : decode cX5_count 142 = .ok (.iload_n 2, 1) := by decide +kernel
