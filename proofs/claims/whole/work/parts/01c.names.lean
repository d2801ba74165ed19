theorem dX0_init_0 : decode cX0_init 0 = .ok (.aload_n 0, 1) := by decide +kernel
theorem dX0_init_1 : decode cX0_init 1 = .ok (.invokespecial 3, 3) := by decide +kernel
theorem dX0_init_4 : decode cX0_init 4 = .ok (.aload_n 0, 1) := by decide +kernel
theorem dX0_init_5 : decode cX0_init 5 = .ok (.bipush 16, 2) := by decide +kernel
theorem dX0_init_7 : decode cX0_init 7 = .ok (.newarray .int, 2) := by decide +kernel
theorem dX0_init_9 : decode cX0_init 9 = .ok (.putfield 9, 3) := by decide +kernel
theorem dX0_init_12 : decode cX0_init 12 = .ok (.aload_n 0, 1) := by decide +kernel
theorem dX0_init_13 : decode cX0_init 13 = .ok (.bipush 16, 2) := by decide +kernel
theorem dX0_init_15 : decode cX0_init 15 = .ok (.newarray .int, 2) := by decide +kernel
theorem dX0_init_17 : decode cX0_init 17 = .ok (.putfield 15, 3) := by decide +kernel
theorem dX0_init_20 : decode cX0_init 20 = .ok (.aload_n 0, 1) := by decide +kernel
theorem dX0_init_21 : decode cX0_init 21 = .ok (.bipush 16, 2) := by decide +kernel
theorem dX0_init_23 : decode cX0_init 23 = .ok (.newarray .int, 2) := by decide +kernel
theorem dX0_init_25 : decode cX0_init 25 = .ok (.putfield 18, 3) := by decide +kernel
theorem dX0_init_28 : decode cX0_init 28 = .ok (.aload_n 0, 1) := by decide +kernel
theorem dX0_init_29 : decode cX0_init 29 = .ok (.bipush 16, 2) := by decide +kernel
theorem dX0_init_31 : decode cX0_init 31 = .ok (.newarray .int, 2) := by decide +kernel
theorem dX0_init_33 : decode cX0_init 33 = .ok (.putfield 21, 3) := by decide +kernel
theorem dX0_init_36 : decode cX0_init 36 = .ok (.aload_n 0, 1) := by decide +kernel
theorem dX0_init_37 : decode cX0_init 37 = .ok (.iconst 0, 1) := by decide +kernel
theorem dX0_init_38 : decode cX0_init 38 = .ok (.putfield 24, 3) := by decide +kernel
theorem dX0_init_41 : decode cX0_init 41 = .ok (.return_, 1) := by decide +kernel
theorem dX0_add_0 : decode cX0_add 0 = .ok (.aload_n 0, 1) := by decide +kernel
theorem dX0_add_1 : decode cX0_add 1 = .ok (.getfield 24, 3) := by decide +kernel
theorem dX0_add_4 : decode cX0_add 4 = .ok (.istore_n 3, 1) := by decide +kernel
theorem dX0_add_5 : decode cX0_add 5 = .ok (.aload_n 0, 1) := by decide +kernel
theorem dX0_add_6 : decode cX0_add 6 = .ok (.getfield 9, 3) := by decide +kernel
theorem dX0_add_9 : decode cX0_add 9 = .ok (.iload_n 3, 1) := by decide +kernel
theorem dX0_add_10 : decode cX0_add 10 = .ok (.iload_n 1, 1) := by decide +kernel
theorem dX0_add_11 : decode cX0_add 11 = .ok (.iastore, 1) := by decide +kernel
theorem dX0_add_12 : decode cX0_add 12 = .ok (.aload_n 0, 1) := by decide +kernel
theorem dX0_add_13 : decode cX0_add 13 = .ok (.getfield 15, 3) := by decide +kernel
theorem dX0_add_16 : decode cX0_add 16 = .ok (.iload_n 3, 1) := by decide +kernel
theorem dX0_add_17 : decode cX0_add 17 = .ok (.iload_n 2, 1) := by decide +kernel
theorem dX0_add_18 : decode cX0_add 18 = .ok (.iastore, 1) := by decide +kernel
theorem dX0_add_19 : decode cX0_add 19 = .ok (.aload_n 0, 1) := by decide +kernel
theorem dX0_add_20 : decode cX0_add 20 = .ok (.iload_n 3, 1) := by decide +kernel
theorem dX0_add_21 : decode cX0_add 21 = .ok (.iconst 1, 1) := by decide +kernel
theorem dX0_add_22 : decode cX0_add 22 = .ok (.iadd, 1) := by decide +kernel
theorem dX0_add_23 : decode cX0_add 23 = .ok (.putfield 24, 3) := by decide +kernel
theorem dX0_add_26 : decode cX0_add 26 = .ok (.iload_n 3, 1) := by decide +kernel
theorem dX0_add_27 : decode cX0_add 27 = .ok (.ireturn, 1) := by decide +kernel
theorem dX0_hangingFrom_0 : decode cX0_hangingFrom 0 = .ok (.iconst 0, 1) := by decide +kernel
theorem dX0_hangingFrom_1 : decode cX0_hangingFrom 1 = .ok (.istore_n 2, 1) := by decide +kernel
theorem dX0_hangingFrom_2 : decode cX0_hangingFrom 2 = .ok (.iload_n 1, 1) := by decide +kernel
theorem dX0_hangingFrom_3 : decode cX0_hangingFrom 3 = .ok (.iconst 1, 1) := by decide +kernel
theorem dX0_hangingFrom_4 : decode cX0_hangingFrom 4 = .ok (.iadd, 1) := by decide +kernel
theorem dX0_hangingFrom_5 : decode cX0_hangingFrom 5 = .ok (.istore_n 3, 1) := by decide +kernel
theorem dX0_hangingFrom_6 : decode cX0_hangingFrom 6 = .ok (.iload_n 3, 1) := by decide +kernel
theorem dX0_hangingFrom_7 : decode cX0_hangingFrom 7 = .ok (.aload_n 0, 1) := by decide +kernel
theorem dX0_hangingFrom_8 : decode cX0_hangingFrom 8 = .ok (.getfield 24, 3) := by decide +kernel
theorem dX0_hangingFrom_11 : decode cX0_hangingFrom 11 = .ok (.if_icmp .ge 22, 3) := by decide +kernel
theorem dX0_hangingFrom_14 : decode cX0_hangingFrom 14 = .ok (.aload_n 0, 1) := by decide +kernel
theorem dX0_hangingFrom_15 : decode cX0_hangingFrom 15 = .ok (.getfield 9, 3) := by decide +kernel
theorem dX0_hangingFrom_18 : decode cX0_hangingFrom 18 = .ok (.iload_n 3, 1) := by decide +kernel
theorem dX0_hangingFrom_19 : decode cX0_hangingFrom 19 = .ok (.iaload, 1) := by decide +kernel
theorem dX0_hangingFrom_20 : decode cX0_hangingFrom 20 = .ok (.iload_n 1, 1) := by decide +kernel
theorem dX0_hangingFrom_21 : decode cX0_hangingFrom 21 = .ok (.if_icmp .ne 6, 3) := by decide +kernel
theorem dX0_hangingFrom_24 : decode cX0_hangingFrom 24 = .ok (.iinc 2 1, 3) := by decide +kernel
theorem dX0_hangingFrom_27 : decode cX0_hangingFrom 27 = .ok (.iinc 3 1, 3) := by decide +kernel
theorem dX0_hangingFrom_30 : decode cX0_hangingFrom 30 = .ok (.goto (-24), 3) := by decide +kernel
theorem dX0_hangingFrom_33 : decode cX0_hangingFrom 33 = .ok (.iload_n 2, 1) := by decide +kernel
theorem dX0_hangingFrom_34 : decode cX0_hangingFrom 34 = .ok (.ireturn, 1) := by decide +kernel
set_option maxRecDepth 20000 in
theorem ggX0_tell_X0_countHanging : GoodIn wsX0_tell wsX0_countHanging := goodIn_r _ [8, 9, 1, 10, 3, 11, 12, 7, 13, 14, 15, 16, 17, 18, 19, 20, 21, 22, 23, 29, 30, 31, 32, 33] (by decide +kernel) (by decide +kernel)
set_option maxRecDepth 20000 in
theorem gX0_tell_X0_countHanging : GoodIn wsX0_tell (wsV RX0 28 RX0 yX0_countHanging wsX0_countHanging) := goodIn_app (goodIn_of _ (by decide +kernel)) ggX0_tell_X0_countHanging
set_option maxRecDepth 20000 in
theorem ggX0_tell_X1_digits : GoodIn wsX0_tell wsX1_digits := goodIn_r _ [27, 28, 34, 35] (by decide +kernel) (by decide +kernel)
set_option maxRecDepth 20000 in
theorem gX0_tell_X1_digits_n32 : GoodIn wsX0_tell (wsX1_digits) := ggX0_tell_X1_digits
theorem dX0_tell_0 : decode cX0_tell 0 = .ok (.aload_n 0, 1) := by decide +kernel
theorem dX0_tell_1 : decode cX0_tell 1 = .ok (.getfield 24, 3) := by decide +kernel
theorem dX0_tell_4 : decode cX0_tell 4 = .ok (.iconst 1, 1) := by decide +kernel
theorem dX0_tell_5 : decode cX0_tell 5 = .ok (.isub, 1) := by decide +kernel
theorem dX0_tell_6 : decode cX0_tell 6 = .ok (.istore_n 2, 1) := by decide +kernel
theorem dX0_tell_7 : decode cX0_tell 7 = .ok (.iload_n 2, 1) := by decide +kernel
theorem dX0_tell_8 : decode cX0_tell 8 = .ok (.ifCond .lt 38, 3) := by decide +kernel
theorem dX0_tell_11 : decode cX0_tell 11 = .ok (.aload_n 0, 1) := by decide +kernel
theorem dX0_tell_12 : decode cX0_tell 12 = .ok (.getfield 21, 3) := by decide +kernel
theorem dX0_tell_15 : decode cX0_tell 15 = .ok (.iload_n 2, 1) := by decide +kernel
theorem dX0_tell_16 : decode cX0_tell 16 = .ok (.aload_n 0, 1) := by decide +kernel
theorem dX0_tell_17 : decode cX0_tell 17 = .ok (.iload_n 2, 1) := by decide +kernel
theorem dX0_tell_18 : decode cX0_tell 18 = .ok (.invokevirtual 28, 3) := by decide +kernel
theorem dX0_tell_21 : decode cX0_tell 21 = .ok (.iastore, 1) := by decide +kernel
theorem dX0_tell_22 : decode cX0_tell 22 = .ok (.aload_n 0, 1) := by decide +kernel
theorem dX0_tell_23 : decode cX0_tell 23 = .ok (.getfield 18, 3) := by decide +kernel
theorem dX0_tell_26 : decode cX0_tell 26 = .ok (.iload_n 2, 1) := by decide +kernel
theorem dX0_tell_27 : decode cX0_tell 27 = .ok (.aload_n 1, 1) := by decide +kernel
theorem dX0_tell_28 : decode cX0_tell 28 = .ok (.iload_n 2, 1) := by decide +kernel
theorem dX0_tell_29 : decode cX0_tell 29 = .ok (.invokevirtual 32, 3) := by decide +kernel
theorem dX0_tell_32 : decode cX0_tell 32 = .ok (.aload_n 0, 1) := by decide +kernel
theorem dX0_tell_33 : decode cX0_tell 33 = .ok (.getfield 21, 3) := by decide +kernel
theorem dX0_tell_36 : decode cX0_tell 36 = .ok (.iload_n 2, 1) := by decide +kernel
theorem dX0_tell_37 : decode cX0_tell 37 = .ok (.iaload, 1) := by decide +kernel
theorem dX0_tell_38 : decode cX0_tell 38 = .ok (.iadd, 1) := by decide +kernel
theorem dX0_tell_39 : decode cX0_tell 39 = .ok (.iastore, 1) := by decide +kernel
theorem dX0_tell_40 : decode cX0_tell 40 = .ok (.iinc 2 (-1), 3) := by decide +kernel
theorem dX0_tell_43 : decode cX0_tell 43 = .ok (.goto (-36), 3) := by decide +kernel
theorem dX0_tell_46 : decode cX0_tell 46 = .ok (.return_, 1) := by decide +kernel
set_option maxRecDepth 20000 in
theorem ggX0_countHanging_X0_begun : GoodIn wsX0_countHanging wsX0_begun := goodIn_r _ [8, 9, 10, 7, 11] (by decide +kernel) (by decide +kernel)
set_option maxRecDepth 20000 in
theorem gX0_countHanging_X0_begun : GoodIn wsX0_countHanging (va_wsS RX0 37 yX0_begun wsX0_begun) := goodIn_app (goodIn_of _ (by decide +kernel)) ggX0_countHanging_X0_begun
set_option maxRecDepth 20000 in
theorem ggX0_countHanging_X0_joined : GoodIn wsX0_countHanging wsX0_joined := goodIn_r _ [14, 15, 16, 17, 18, 9, 10, 7, 11] (by decide +kernel) (by decide +kernel)
set_option maxRecDepth 20000 in
theorem gX0_countHanging_X0_joined : GoodIn wsX0_countHanging (va_wsS RX0 41 yX0_joined wsX0_joined) := goodIn_app (goodIn_of _ (by decide +kernel)) ggX0_countHanging_X0_joined
theorem dX0_countHanging_0 : decode cX0_countHanging 0 = .ok (.aload_n 0, 1) := by decide +kernel
theorem dX0_countHanging_1 : decode cX0_countHanging 1 = .ok (.getfield 15, 3) := by decide +kernel
theorem dX0_countHanging_4 : decode cX0_countHanging 4 = .ok (.iload_n 1, 1) := by decide +kernel
theorem dX0_countHanging_5 : decode cX0_countHanging 5 = .ok (.iaload, 1) := by decide +kernel
theorem dX0_countHanging_6 : decode cX0_countHanging 6 = .ok (.istore_n 2, 1) := by decide +kernel
theorem dX0_countHanging_7 : decode cX0_countHanging 7 = .ok (.iconst 0, 1) := by decide +kernel
theorem dX0_countHanging_8 : decode cX0_countHanging 8 = .ok (.istore_n 3, 1) := by decide +kernel
theorem dX0_countHanging_9 : decode cX0_countHanging 9 = .ok (.iconst 1, 1) := by decide +kernel
theorem dX0_countHanging_10 : decode cX0_countHanging 10 = .ok (.istore 4, 2) := by decide +kernel
theorem dX0_countHanging_12 : decode cX0_countHanging 12 = .ok (.iload_n 1, 1) := by decide +kernel
theorem dX0_countHanging_13 : decode cX0_countHanging 13 = .ok (.iconst 1, 1) := by decide +kernel
theorem dX0_countHanging_14 : decode cX0_countHanging 14 = .ok (.iadd, 1) := by decide +kernel
theorem dX0_countHanging_15 : decode cX0_countHanging 15 = .ok (.istore 5, 2) := by decide +kernel
theorem dX0_countHanging_17 : decode cX0_countHanging 17 = .ok (.iload 5, 2) := by decide +kernel
theorem dX0_countHanging_19 : decode cX0_countHanging 19 = .ok (.aload_n 0, 1) := by decide +kernel
theorem dX0_countHanging_20 : decode cX0_countHanging 20 = .ok (.getfield 24, 3) := by decide +kernel
theorem dX0_countHanging_23 : decode cX0_countHanging 23 = .ok (.if_icmp .ge 55, 3) := by decide +kernel
theorem dX0_countHanging_26 : decode cX0_countHanging 26 = .ok (.aload_n 0, 1) := by decide +kernel
theorem dX0_countHanging_27 : decode cX0_countHanging 27 = .ok (.getfield 9, 3) := by decide +kernel
theorem dX0_countHanging_30 : decode cX0_countHanging 30 = .ok (.iload 5, 2) := by decide +kernel
theorem dX0_countHanging_32 : decode cX0_countHanging 32 = .ok (.iaload, 1) := by decide +kernel
theorem dX0_countHanging_33 : decode cX0_countHanging 33 = .ok (.iload_n 1, 1) := by decide +kernel
theorem dX0_countHanging_34 : decode cX0_countHanging 34 = .ok (.if_icmp .ne 38, 3) := by decide +kernel
theorem dX0_countHanging_37 : decode cX0_countHanging 37 = .ok (.iload 4, 2) := by decide +kernel
theorem dX0_countHanging_39 : decode cX0_countHanging 39 = .ok (.ifCond .eq 17, 3) := by decide +kernel
theorem dX0_countHanging_42 : decode cX0_countHanging 42 = .ok (.iload_n 2, 1) := by decide +kernel
theorem dX0_countHanging_43 : decode cX0_countHanging 43 = .ok (.aload_n 0, 1) := by decide +kernel
theorem dX0_countHanging_44 : decode cX0_countHanging 44 = .ok (.getfield 18, 3) := by decide +kernel
theorem dX0_countHanging_47 : decode cX0_countHanging 47 = .ok (.iload 5, 2) := by decide +kernel
theorem dX0_countHanging_49 : decode cX0_countHanging 49 = .ok (.iaload, 1) := by decide +kernel
theorem dX0_countHanging_50 : decode cX0_countHanging 50 = .ok (.invokestatic 37, 3) := by decide +kernel
theorem dX0_countHanging_53 : decode cX0_countHanging 53 = .ok (.goto 15, 3) := by decide +kernel
theorem dX0_countHanging_56 : decode cX0_countHanging 56 = .ok (.iload_n 2, 1) := by decide +kernel
theorem dX0_countHanging_57 : decode cX0_countHanging 57 = .ok (.iload_n 3, 1) := by decide +kernel
theorem dX0_countHanging_58 : decode cX0_countHanging 58 = .ok (.aload_n 0, 1) := by decide +kernel
theorem dX0_countHanging_59 : decode cX0_countHanging 59 = .ok (.getfield 18, 3) := by decide +kernel
theorem dX0_countHanging_62 : decode cX0_countHanging 62 = .ok (.iload 5, 2) := by decide +kernel
theorem dX0_countHanging_64 : decode cX0_countHanging 64 = .ok (.iaload, 1) := by decide +kernel
theorem dX0_countHanging_65 : decode cX0_countHanging 65 = .ok (.invokestatic 41, 3) := by decide +kernel
theorem dX0_countHanging_68 : decode cX0_countHanging 68 = .ok (.istore_n 3, 1) := by decide +kernel
theorem dX0_countHanging_69 : decode cX0_countHanging 69 = .ok (.iconst 0, 1) := by decide +kernel
theorem dX0_countHanging_70 : decode cX0_countHanging 70 = .ok (.istore 4, 2) := by decide +kernel
theorem dX0_countHanging_72 : decode cX0_countHanging 72 = .ok (.iinc 5 1, 3) := by decide +kernel
theorem dX0_countHanging_75 : decode cX0_countHanging 75 = .ok (.goto (-58), 3) := by decide +kernel
theorem dX0_countHanging_78 : decode cX0_countHanging 78 = .ok (.iload_n 3, 1) := by decide +kernel
theorem dX0_countHanging_79 : decode cX0_countHanging 79 = .ok (.ireturn, 1) := by decide +kernel
set_option maxRecDepth 20000 in
theorem ggX0_begun_X0_oneIfMore : GoodIn wsX0_begun wsX0_oneIfMore := goodIn_r _ [4] (by decide +kernel) (by decide +kernel)
set_option maxRecDepth 20000 in
theorem gX0_begun_X0_oneIfMore : GoodIn wsX0_begun (va_wsS RX0 45 yX0_oneIfMore wsX0_oneIfMore) := goodIn_app (goodIn_of _ (by decide +kernel)) ggX0_begun_X0_oneIfMore
theorem dX0_begun_0 : decode cX0_begun 0 = .ok (.iload_n 0, 1) := by decide +kernel
theorem dX0_begun_1 : decode cX0_begun 1 = .ok (.iconst 3, 1) := by decide +kernel
theorem dX0_begun_2 : decode cX0_begun 2 = .ok (.if_icmp .ne 10, 3) := by decide +kernel
theorem dX0_begun_5 : decode cX0_begun 5 = .ok (.iload_n 1, 1) := by decide +kernel
theorem dX0_begun_6 : decode cX0_begun 6 = .ok (.invokestatic 45, 3) := by decide +kernel
theorem dX0_begun_9 : decode cX0_begun 9 = .ok (.goto 4, 3) := by decide +kernel
theorem dX0_begun_12 : decode cX0_begun 12 = .ok (.iload_n 1, 1) := by decide +kernel
theorem dX0_begun_13 : decode cX0_begun 13 = .ok (.ireturn, 1) := by decide +kernel
set_option maxRecDepth 20000 in
theorem ggX0_joined_X0_oneIfMore : GoodIn wsX0_joined wsX0_oneIfMore := goodIn_r _ [8] (by decide +kernel) (by decide +kernel)
set_option maxRecDepth 20000 in
theorem gX0_joined_X0_oneIfMore : GoodIn wsX0_joined (va_wsS RX0 45 yX0_oneIfMore wsX0_oneIfMore) := goodIn_app (goodIn_of _ (by decide +kernel)) ggX0_joined_X0_oneIfMore
theorem dX0_joined_0 : decode cX0_joined 0 = .ok (.iload_n 0, 1) := by decide +kernel
theorem dX0_joined_1 : decode cX0_joined 1 = .ok (.tableswitch 52 0 3 #[31, 35, 39, 45], 31) := by decide +kernel
theorem dX0_joined_32 : decode cX0_joined 32 = .ok (.iload_n 1, 1) := by decide +kernel
theorem dX0_joined_33 : decode cX0_joined 33 = .ok (.iload_n 2, 1) := by decide +kernel
theorem dX0_joined_34 : decode cX0_joined 34 = .ok (.iadd, 1) := by decide +kernel
theorem dX0_joined_35 : decode cX0_joined 35 = .ok (.ireturn, 1) := by decide +kernel
theorem dX0_joined_36 : decode cX0_joined 36 = .ok (.iload_n 1, 1) := by decide +kernel
theorem dX0_joined_37 : decode cX0_joined 37 = .ok (.iload_n 2, 1) := by decide +kernel
theorem dX0_joined_38 : decode cX0_joined 38 = .ok (.isub, 1) := by decide +kernel
theorem dX0_joined_39 : decode cX0_joined 39 = .ok (.ireturn, 1) := by decide +kernel
theorem dX0_joined_40 : decode cX0_joined 40 = .ok (.iload_n 1, 1) := by decide +kernel
theorem dX0_joined_41 : decode cX0_joined 41 = .ok (.iload_n 2, 1) := by decide +kernel
theorem dX0_joined_42 : decode cX0_joined 42 = .ok (.invokestatic 48, 3) := by decide +kernel
theorem dX0_joined_45 : decode cX0_joined 45 = .ok (.ireturn, 1) := by decide +kernel
theorem dX0_joined_46 : decode cX0_joined 46 = .ok (.iload_n 1, 1) := by decide +kernel
theorem dX0_joined_47 : decode cX0_joined 47 = .ok (.iload_n 2, 1) := by decide +kernel
theorem dX0_joined_48 : decode cX0_joined 48 = .ok (.invokestatic 45, 3) := by decide +kernel
theorem dX0_joined_51 : decode cX0_joined 51 = .ok (.iadd, 1) := by decide +kernel
theorem dX0_joined_52 : decode cX0_joined 52 = .ok (.ireturn, 1) := by decide +kernel
theorem dX0_joined_53 : decode cX0_joined 53 = .ok (.iload_n 1, 1) := by decide +kernel
theorem dX0_joined_54 : decode cX0_joined 54 = .ok (.iload_n 2, 1) := by decide +kernel
theorem dX0_joined_55 : decode cX0_joined 55 = .ok (.imul, 1) := by decide +kernel
theorem dX0_joined_56 : decode cX0_joined 56 = .ok (.ireturn, 1) := by decide +kernel
theorem dX0_oneIfMore_0 : decode cX0_oneIfMore 0 = .ok (.iload_n 0, 1) := by decide +kernel
theorem dX0_oneIfMore_1 : decode cX0_oneIfMore 1 = .ok (.ifCond .le 7, 3) := by decide +kernel
theorem dX0_oneIfMore_4 : decode cX0_oneIfMore 4 = .ok (.iconst 1, 1) := by decide +kernel
theorem dX0_oneIfMore_5 : decode cX0_oneIfMore 5 = .ok (.goto 4, 3) := by decide +kernel
theorem dX0_oneIfMore_8 : decode cX0_oneIfMore 8 = .ok (.iconst 0, 1) := by decide +kernel
theorem dX0_oneIfMore_9 : decode cX0_oneIfMore 9 = .ok (.ireturn, 1) := by decide +kernel
theorem dX1_init_0 : decode cX1_init 0 = .ok (.aload_n 0, 1) := by decide +kernel
theorem dX1_init_1 : decode cX1_init 1 = .ok (.invokespecial 3, 3) := by decide +kernel
theorem dX1_init_4 : decode cX1_init 4 = .ok (.aload_n 0, 1) := by decide +kernel
theorem dX1_init_5 : decode cX1_init 5 = .ok (.bipush 16, 2) := by decide +kernel
theorem dX1_init_7 : decode cX1_init 7 = .ok (.iconst 4, 1) := by decide +kernel
theorem dX1_init_8 : decode cX1_init 8 = .ok (.multianewarray 9 2, 4) := by decide +kernel
theorem dX1_init_12 : decode cX1_init 12 = .ok (.putfield 11, 3) := by decide +kernel
theorem dX1_init_15 : decode cX1_init 15 = .ok (.aload_n 0, 1) := by decide +kernel
theorem dX1_init_16 : decode cX1_init 16 = .ok (.bipush 16, 2) := by decide +kernel
theorem dX1_init_18 : decode cX1_init 18 = .ok (.iconst 4, 1) := by decide +kernel
theorem dX1_init_19 : decode cX1_init 19 = .ok (.multianewarray 9 2, 4) := by decide +kernel
theorem dX1_init_23 : decode cX1_init 23 = .ok (.putfield 16, 3) := by decide +kernel
theorem dX1_init_26 : decode cX1_init 26 = .ok (.return_, 1) := by decide +kernel
theorem dX1_digits_0 : decode cX1_digits 0 = .ok (.iconst 0, 1) := by decide +kernel
theorem dX1_digits_1 : decode cX1_digits 1 = .ok (.istore_n 2, 1) := by decide +kernel
theorem dX1_digits_2 : decode cX1_digits 2 = .ok (.iconst 0, 1) := by decide +kernel
theorem dX1_digits_3 : decode cX1_digits 3 = .ok (.istore_n 3, 1) := by decide +kernel
theorem dX1_digits_4 : decode cX1_digits 4 = .ok (.iload_n 3, 1) := by decide +kernel
theorem dX1_digits_5 : decode cX1_digits 5 = .ok (.iconst 4, 1) := by decide +kernel
theorem dX1_digits_6 : decode cX1_digits 6 = .ok (.if_icmp .ge 23, 3) := by decide +kernel
theorem dX1_digits_9 : decode cX1_digits 9 = .ok (.iload_n 2, 1) := by decide +kernel
theorem dX1_digits_10 : decode cX1_digits 10 = .ok (.bipush 10, 2) := by decide +kernel
theorem dX1_digits_12 : decode cX1_digits 12 = .ok (.imul, 1) := by decide +kernel
theorem dX1_digits_13 : decode cX1_digits 13 = .ok (.aload_n 0, 1) := by decide +kernel
theorem dX1_digits_14 : decode cX1_digits 14 = .ok (.getfield 11, 3) := by decide +kernel
theorem dX1_digits_17 : decode cX1_digits 17 = .ok (.iload_n 1, 1) := by decide +kernel
theorem dX1_digits_18 : decode cX1_digits 18 = .ok (.aaload, 1) := by decide +kernel
theorem dX1_digits_19 : decode cX1_digits 19 = .ok (.iload_n 3, 1) := by decide +kernel
theorem dX1_digits_20 : decode cX1_digits 20 = .ok (.iaload, 1) := by decide +kernel
theorem dX1_digits_21 : decode cX1_digits 21 = .ok (.iadd, 1) := by decide +kernel
theorem dX1_digits_22 : decode cX1_digits 22 = .ok (.istore_n 2, 1) := by decide +kernel
theorem dX1_digits_23 : decode cX1_digits 23 = .ok (.iinc 3 1, 3) := by decide +kernel
theorem dX1_digits_26 : decode cX1_digits 26 = .ok (.goto (-22), 3) := by decide +kernel
theorem dX1_digits_29 : decode cX1_digits 29 = .ok (.iload_n 2, 1) := by decide +kernel
theorem dX1_digits_30 : decode cX1_digits 30 = .ok (.ireturn, 1) := by decide +kernel
set_option maxRecDepth 20000 in
theorem ggX1_tieAll_X1_clearFrays : GoodIn wsX1_tieAll wsX1_clearFrays := goodIn_r _ [6, 7, 8, 9] (by decide +kernel) (by decide +kernel)
set_option maxRecDepth 20000 in
theorem gX1_tieAll_X1_clearFrays : GoodIn wsX1_tieAll (wsV RX1 19 RX1 yX1_clearFrays wsX1_clearFrays) := goodIn_app (goodIn_of _ (by decide +kernel)) ggX1_tieAll_X1_clearFrays
theorem dX1_tieAll_0 : decode cX1_tieAll 0 = .ok (.iload_n 2, 1) := by decide +kernel
theorem dX1_tieAll_1 : decode cX1_tieAll 1 = .ok (.istore_n 3, 1) := by decide +kernel
theorem dX1_tieAll_2 : decode cX1_tieAll 2 = .ok (.iconst 3, 1) := by decide +kernel
theorem dX1_tieAll_3 : decode cX1_tieAll 3 = .ok (.istore 4, 2) := by decide +kernel
theorem dX1_tieAll_5 : decode cX1_tieAll 5 = .ok (.iload 4, 2) := by decide +kernel
theorem dX1_tieAll_7 : decode cX1_tieAll 7 = .ok (.ifCond .lt 27, 3) := by decide +kernel
theorem dX1_tieAll_10 : decode cX1_tieAll 10 = .ok (.aload_n 0, 1) := by decide +kernel
theorem dX1_tieAll_11 : decode cX1_tieAll 11 = .ok (.getfield 11, 3) := by decide +kernel
theorem dX1_tieAll_14 : decode cX1_tieAll 14 = .ok (.iload_n 1, 1) := by decide +kernel
theorem dX1_tieAll_15 : decode cX1_tieAll 15 = .ok (.aaload, 1) := by decide +kernel
theorem dX1_tieAll_16 : decode cX1_tieAll 16 = .ok (.iload 4, 2) := by decide +kernel
theorem dX1_tieAll_18 : decode cX1_tieAll 18 = .ok (.iload_n 3, 1) := by decide +kernel
theorem dX1_tieAll_19 : decode cX1_tieAll 19 = .ok (.bipush 10, 2) := by decide +kernel
theorem dX1_tieAll_21 : decode cX1_tieAll 21 = .ok (.irem, 1) := by decide +kernel
theorem dX1_tieAll_22 : decode cX1_tieAll 22 = .ok (.iastore, 1) := by decide +kernel
theorem dX1_tieAll_23 : decode cX1_tieAll 23 = .ok (.iload_n 3, 1) := by decide +kernel
theorem dX1_tieAll_24 : decode cX1_tieAll 24 = .ok (.bipush 10, 2) := by decide +kernel
theorem dX1_tieAll_26 : decode cX1_tieAll 26 = .ok (.idiv, 1) := by decide +kernel
theorem dX1_tieAll_27 : decode cX1_tieAll 27 = .ok (.istore_n 3, 1) := by decide +kernel
theorem dX1_tieAll_28 : decode cX1_tieAll 28 = .ok (.iinc 4 (-1), 3) := by decide +kernel
theorem dX1_tieAll_31 : decode cX1_tieAll 31 = .ok (.goto (-26), 3) := by decide +kernel
theorem dX1_tieAll_34 : decode cX1_tieAll 34 = .ok (.aload_n 0, 1) := by decide +kernel
theorem dX1_tieAll_35 : decode cX1_tieAll 35 = .ok (.iload_n 1, 1) := by decide +kernel
theorem dX1_tieAll_36 : decode cX1_tieAll 36 = .ok (.invokevirtual 19, 3) := by decide +kernel
theorem dX1_tieAll_39 : decode cX1_tieAll 39 = .ok (.return_, 1) := by decide +kernel
theorem dX1_clearFrays_0 : decode cX1_clearFrays 0 = .ok (.iconst 0, 1) := by decide +kernel
theorem dX1_clearFrays_1 : decode cX1_clearFrays 1 = .ok (.istore_n 2, 1) := by decide +kernel
theorem dX1_clearFrays_2 : decode cX1_clearFrays 2 = .ok (.iload_n 2, 1) := by decide +kernel
theorem dX1_clearFrays_3 : decode cX1_clearFrays 3 = .ok (.iconst 4, 1) := by decide +kernel
theorem dX1_clearFrays_4 : decode cX1_clearFrays 4 = .ok (.if_icmp .ge 18, 3) := by decide +kernel
theorem dX1_clearFrays_7 : decode cX1_clearFrays 7 = .ok (.aload_n 0, 1) := by decide +kernel
theorem dX1_clearFrays_8 : decode cX1_clearFrays 8 = .ok (.getfield 16, 3) := by decide +kernel
theorem dX1_clearFrays_11 : decode cX1_clearFrays 11 = .ok (.iload_n 1, 1) := by decide +kernel
theorem dX1_clearFrays_12 : decode cX1_clearFrays 12 = .ok (.aaload, 1) := by decide +kernel
theorem dX1_clearFrays_13 : decode cX1_clearFrays 13 = .ok (.iload_n 2, 1) := by decide +kernel
theorem dX1_clearFrays_14 : decode cX1_clearFrays 14 = .ok (.iconst 0, 1) := by decide +kernel
theorem dX1_clearFrays_15 : decode cX1_clearFrays 15 = .ok (.iastore, 1) := by decide +kernel
theorem dX1_clearFrays_16 : decode cX1_clearFrays 16 = .ok (.iinc 2 1, 3) := by decide +kernel
theorem dX1_clearFrays_19 : decode cX1_clearFrays 19 = .ok (.goto (-17), 3) := by decide +kernel
theorem dX1_clearFrays_22 : decode cX1_clearFrays 22 = .ok (.return_, 1) := by decide +kernel
theorem dX1_allFrays_0 : decode cX1_allFrays 0 = .ok (.iconst 0, 1) := by decide +kernel
theorem dX1_allFrays_1 : decode cX1_allFrays 1 = .ok (.istore_n 2, 1) := by decide +kernel
theorem dX1_allFrays_2 : decode cX1_allFrays 2 = .ok (.iconst 0, 1) := by decide +kernel
theorem dX1_allFrays_3 : decode cX1_allFrays 3 = .ok (.istore_n 3, 1) := by decide +kernel
theorem dX1_allFrays_4 : decode cX1_allFrays 4 = .ok (.iload_n 3, 1) := by decide +kernel
theorem dX1_allFrays_5 : decode cX1_allFrays 5 = .ok (.iconst 4, 1) := by decide +kernel
theorem dX1_allFrays_6 : decode cX1_allFrays 6 = .ok (.if_icmp .ge 20, 3) := by decide +kernel
theorem dX1_allFrays_9 : decode cX1_allFrays 9 = .ok (.iload_n 2, 1) := by decide +kernel
theorem dX1_allFrays_10 : decode cX1_allFrays 10 = .ok (.aload_n 0, 1) := by decide +kernel
theorem dX1_allFrays_11 : decode cX1_allFrays 11 = .ok (.getfield 16, 3) := by decide +kernel
theorem dX1_allFrays_14 : decode cX1_allFrays 14 = .ok (.iload_n 1, 1) := by decide +kernel
theorem dX1_allFrays_15 : decode cX1_allFrays 15 = .ok (.aaload, 1) := by decide +kernel
theorem dX1_allFrays_16 : decode cX1_allFrays 16 = .ok (.iload_n 3, 1) := by decide +kernel
theorem dX1_allFrays_17 : decode cX1_allFrays 17 = .ok (.iaload, 1) := by decide +kernel
theorem dX1_allFrays_18 : decode cX1_allFrays 18 = .ok (.iadd, 1) := by decide +kernel
theorem dX1_allFrays_19 : decode cX1_allFrays 19 = .ok (.istore_n 2, 1) := by decide +kernel
theorem dX1_allFrays_20 : decode cX1_allFrays 20 = .ok (.iinc 3 1, 3) := by decide +kernel
theorem dX1_allFrays_23 : decode cX1_allFrays 23 = .ok (.goto (-19), 3) := by decide +kernel
theorem dX1_allFrays_26 : decode cX1_allFrays 26 = .ok (.iload_n 2, 1) := by decide +kernel
theorem dX1_allFrays_27 : decode cX1_allFrays 27 = .ok (.ireturn, 1) := by decide +kernel
theorem dX1_differences_0 : decode cX1_differences 0 = .ok (.iconst 0, 1) := by decide +kernel
theorem dX1_differences_1 : decode cX1_differences 1 = .ok (.istore_n 3, 1) := by decide +kernel
theorem dX1_differences_2 : decode cX1_differences 2 = .ok (.iload_n 2, 1) := by decide +kernel
theorem dX1_differences_3 : decode cX1_differences 3 = .ok (.istore 4, 2) := by decide +kernel
theorem dX1_differences_5 : decode cX1_differences 5 = .ok (.iconst 3, 1) := by decide +kernel
theorem dX1_differences_6 : decode cX1_differences 6 = .ok (.istore 5, 2) := by decide +kernel
theorem dX1_differences_8 : decode cX1_differences 8 = .ok (.iload 5, 2) := by decide +kernel
theorem dX1_differences_10 : decode cX1_differences 10 = .ok (.ifCond .lt 37, 3) := by decide +kernel
theorem dX1_differences_13 : decode cX1_differences 13 = .ok (.iload_n 3, 1) := by decide +kernel
theorem dX1_differences_14 : decode cX1_differences 14 = .ok (.aload_n 0, 1) := by decide +kernel
theorem dX1_differences_15 : decode cX1_differences 15 = .ok (.getfield 11, 3) := by decide +kernel
theorem dX1_differences_18 : decode cX1_differences 18 = .ok (.iload_n 1, 1) := by decide +kernel
theorem dX1_differences_19 : decode cX1_differences 19 = .ok (.aaload, 1) := by decide +kernel
theorem dX1_differences_20 : decode cX1_differences 20 = .ok (.iload 5, 2) := by decide +kernel
theorem dX1_differences_22 : decode cX1_differences 22 = .ok (.iaload, 1) := by decide +kernel
theorem dX1_differences_23 : decode cX1_differences 23 = .ok (.iload 4, 2) := by decide +kernel
theorem dX1_differences_25 : decode cX1_differences 25 = .ok (.bipush 10, 2) := by decide +kernel
theorem dX1_differences_27 : decode cX1_differences 27 = .ok (.irem, 1) := by decide +kernel
theorem dX1_differences_28 : decode cX1_differences 28 = .ok (.isub, 1) := by decide +kernel
theorem dX1_differences_29 : decode cX1_differences 29 = .ok (.invokestatic 23, 3) := by decide +kernel
theorem dX1_differences_32 : decode cX1_differences 32 = .ok (.iadd, 1) := by decide +kernel
theorem dX1_differences_33 : decode cX1_differences 33 = .ok (.istore_n 3, 1) := by decide +kernel
theorem dX1_differences_34 : decode cX1_differences 34 = .ok (.iload 4, 2) := by decide +kernel
theorem dX1_differences_36 : decode cX1_differences 36 = .ok (.bipush 10, 2) := by decide +kernel
theorem dX1_differences_38 : decode cX1_differences 38 = .ok (.idiv, 1) := by decide +kernel
theorem dX1_differences_39 : decode cX1_differences 39 = .ok (.istore 4, 2) := by decide +kernel
theorem dX1_differences_41 : decode cX1_differences 41 = .ok (.iinc 5 (-1), 3) := by decide +kernel
theorem dX1_differences_44 : decode cX1_differences 44 = .ok (.goto (-36), 3) := by decide +kernel
theorem dX1_differences_47 : decode cX1_differences 47 = .ok (.iload_n 3, 1) := by decide +kernel
theorem dX1_differences_48 : decode cX1_differences 48 = .ok (.ireturn, 1) := by decide +kernel
theorem dX1_copyFrom_0 : decode cX1_copyFrom 0 = .ok (.iconst 0, 1) := by decide +kernel
theorem dX1_copyFrom_1 : decode cX1_copyFrom 1 = .ok (.istore_n 2, 1) := by decide +kernel
theorem dX1_copyFrom_2 : decode cX1_copyFrom 2 = .ok (.iload_n 2, 1) := by decide +kernel
theorem dX1_copyFrom_3 : decode cX1_copyFrom 3 = .ok (.bipush 16, 2) := by decide +kernel
theorem dX1_copyFrom_5 : decode cX1_copyFrom 5 = .ok (.if_icmp .ge 45, 3) := by decide +kernel
theorem dX1_copyFrom_8 : decode cX1_copyFrom 8 = .ok (.aload_n 1, 1) := by decide +kernel
theorem dX1_copyFrom_9 : decode cX1_copyFrom 9 = .ok (.getfield 11, 3) := by decide +kernel
theorem dX1_copyFrom_12 : decode cX1_copyFrom 12 = .ok (.iload_n 2, 1) := by decide +kernel
theorem dX1_copyFrom_13 : decode cX1_copyFrom 13 = .ok (.aaload, 1) := by decide +kernel
theorem dX1_copyFrom_14 : decode cX1_copyFrom 14 = .ok (.iconst 0, 1) := by decide +kernel
theorem dX1_copyFrom_15 : decode cX1_copyFrom 15 = .ok (.aload_n 0, 1) := by decide +kernel
theorem dX1_copyFrom_16 : decode cX1_copyFrom 16 = .ok (.getfield 11, 3) := by decide +kernel
theorem dX1_copyFrom_19 : decode cX1_copyFrom 19 = .ok (.iload_n 2, 1) := by decide +kernel
theorem dX1_copyFrom_20 : decode cX1_copyFrom 20 = .ok (.aaload, 1) := by decide +kernel
theorem dX1_copyFrom_21 : decode cX1_copyFrom 21 = .ok (.iconst 0, 1) := by decide +kernel
theorem dX1_copyFrom_22 : decode cX1_copyFrom 22 = .ok (.iconst 4, 1) := by decide +kernel
theorem dX1_copyFrom_23 : decode cX1_copyFrom 23 = .ok (.invokestatic 29, 3) := by decide +kernel
theorem dX1_copyFrom_26 : decode cX1_copyFrom 26 = .ok (.aload_n 1, 1) := by decide +kernel
theorem dX1_copyFrom_27 : decode cX1_copyFrom 27 = .ok (.getfield 16, 3) := by decide +kernel
theorem dX1_copyFrom_30 : decode cX1_copyFrom 30 = .ok (.iload_n 2, 1) := by decide +kernel
theorem dX1_copyFrom_31 : decode cX1_copyFrom 31 = .ok (.aaload, 1) := by decide +kernel
theorem dX1_copyFrom_32 : decode cX1_copyFrom 32 = .ok (.iconst 0, 1) := by decide +kernel
theorem dX1_copyFrom_33 : decode cX1_copyFrom 33 = .ok (.aload_n 0, 1) := by decide +kernel
theorem dX1_copyFrom_34 : decode cX1_copyFrom 34 = .ok (.getfield 16, 3) := by decide +kernel
theorem dX1_copyFrom_37 : decode cX1_copyFrom 37 = .ok (.iload_n 2, 1) := by decide +kernel
theorem dX1_copyFrom_38 : decode cX1_copyFrom 38 = .ok (.aaload, 1) := by decide +kernel
theorem dX1_copyFrom_39 : decode cX1_copyFrom 39 = .ok (.iconst 0, 1) := by decide +kernel
theorem dX1_copyFrom_40 : decode cX1_copyFrom 40 = .ok (.iconst 4, 1) := by decide +kernel
theorem dX1_copyFrom_41 : decode cX1_copyFrom 41 = .ok (.invokestatic 29, 3) := by decide +kernel
theorem dX1_copyFrom_44 : decode cX1_copyFrom 44 = .ok (.iinc 2 1, 3) := by decide +kernel
theorem dX1_copyFrom_47 : decode cX1_copyFrom 47 = .ok (.goto (-45), 3) := by decide +kernel
theorem dX1_copyFrom_50 : decode cX1_copyFrom 50 = .ok (.return_, 1) := by decide +kernel
set_option maxRecDepth 20000 in
theorem ggX1_fray_X1_frayCord : GoodIn wsX1_fray wsX1_frayCord := goodIn_r _ [5, 6, 7, 13, 14] (by decide +kernel) (by decide +kernel)
set_option maxRecDepth 20000 in
theorem gX1_fray_X1_frayCord : GoodIn wsX1_fray (wsV RX1 45 RX1 yX1_frayCord wsX1_frayCord) := goodIn_app (goodIn_of _ (by decide +kernel)) ggX1_fray_X1_frayCord
theorem dX1_fray_0 : decode cX1_fray 0 = .ok (.iconst 0, 1) := by decide +kernel
theorem dX1_fray_1 : decode cX1_fray 1 = .ok (.istore_n 3, 1) := by decide +kernel
theorem dX1_fray_2 : decode cX1_fray 2 = .ok (.iconst 0, 1) := by decide +kernel
theorem dX1_fray_3 : decode cX1_fray 3 = .ok (.istore 4, 2) := by decide +kernel
theorem dX1_fray_5 : decode cX1_fray 5 = .ok (.iload 4, 2) := by decide +kernel
theorem dX1_fray_7 : decode cX1_fray 7 = .ok (.iload_n 2, 1) := by decide +kernel
theorem dX1_fray_8 : decode cX1_fray 8 = .ok (.if_icmp .ge 66, 3) := by decide +kernel
theorem dX1_fray_11 : decode cX1_fray 11 = .ok (.iconst 0, 1) := by decide +kernel
theorem dX1_fray_12 : decode cX1_fray 12 = .ok (.istore 5, 2) := by decide +kernel
theorem dX1_fray_14 : decode cX1_fray 14 = .ok (.iload 5, 2) := by decide +kernel
theorem dX1_fray_16 : decode cX1_fray 16 = .ok (.aload_n 1, 1) := by decide +kernel
theorem dX1_fray_17 : decode cX1_fray 17 = .ok (.getfield 35, 3) := by decide +kernel
theorem dX1_fray_20 : decode cX1_fray 20 = .ok (.if_icmp .ge 48, 3) := by decide +kernel
theorem dX1_fray_23 : decode cX1_fray 23 = .ok (.aload_n 1, 1) := by decide +kernel
theorem dX1_fray_24 : decode cX1_fray 24 = .ok (.getfield 41, 3) := by decide +kernel
theorem dX1_fray_27 : decode cX1_fray 27 = .ok (.iload 5, 2) := by decide +kernel
theorem dX1_fray_29 : decode cX1_fray 29 = .ok (.iaload, 1) := by decide +kernel
theorem dX1_fray_30 : decode cX1_fray 30 = .ok (.istore 6, 2) := by decide +kernel
theorem dX1_fray_32 : decode cX1_fray 32 = .ok (.iload 6, 2) := by decide +kernel
theorem dX1_fray_34 : decode cX1_fray 34 = .ok (.iconst 2, 1) := by decide +kernel
theorem dX1_fray_35 : decode cX1_fray 35 = .ok (.if_icmp .eq 9, 3) := by decide +kernel
theorem dX1_fray_38 : decode cX1_fray 38 = .ok (.iload 6, 2) := by decide +kernel
theorem dX1_fray_40 : decode cX1_fray 40 = .ok (.iconst 4, 1) := by decide +kernel
theorem dX1_fray_41 : decode cX1_fray 41 = .ok (.if_icmp .ne 7, 3) := by decide +kernel
theorem dX1_fray_44 : decode cX1_fray 44 = .ok (.iconst 2, 1) := by decide +kernel
theorem dX1_fray_45 : decode cX1_fray 45 = .ok (.goto 4, 3) := by decide +kernel
theorem dX1_fray_48 : decode cX1_fray 48 = .ok (.iconst 1, 1) := by decide +kernel
theorem dX1_fray_49 : decode cX1_fray 49 = .ok (.istore 7, 2) := by decide +kernel
theorem dX1_fray_51 : decode cX1_fray 51 = .ok (.iload_n 3, 1) := by decide +kernel
theorem dX1_fray_52 : decode cX1_fray 52 = .ok (.aload_n 0, 1) := by decide +kernel
theorem dX1_fray_53 : decode cX1_fray 53 = .ok (.iload 5, 2) := by decide +kernel
theorem dX1_fray_55 : decode cX1_fray 55 = .ok (.iload 7, 2) := by decide +kernel
theorem dX1_fray_57 : decode cX1_fray 57 = .ok (.invokevirtual 45, 3) := by decide +kernel
theorem dX1_fray_60 : decode cX1_fray 60 = .ok (.iadd, 1) := by decide +kernel
theorem dX1_fray_61 : decode cX1_fray 61 = .ok (.istore_n 3, 1) := by decide +kernel
theorem dX1_fray_62 : decode cX1_fray 62 = .ok (.iinc 5 1, 3) := by decide +kernel
theorem dX1_fray_65 : decode cX1_fray 65 = .ok (.goto (-51), 3) := by decide +kernel
theorem dX1_fray_68 : decode cX1_fray 68 = .ok (.iinc 4 1, 3) := by decide +kernel
theorem dX1_fray_71 : decode cX1_fray 71 = .ok (.goto (-66), 3) := by decide +kernel
theorem dX1_fray_74 : decode cX1_fray 74 = .ok (.iload_n 3, 1) := by decide +kernel
theorem dX1_fray_75 : decode cX1_fray 75 = .ok (.ireturn, 1) := by decide +kernel
theorem dX1_frayCord_0 : decode cX1_frayCord 0 = .ok (.iconst 0, 1) := by decide +kernel
theorem dX1_frayCord_1 : decode cX1_frayCord 1 = .ok (.istore_n 3, 1) := by decide +kernel
theorem dX1_frayCord_2 : decode cX1_frayCord 2 = .ok (.iconst 0, 1) := by decide +kernel
theorem dX1_frayCord_3 : decode cX1_frayCord 3 = .ok (.istore 4, 2) := by decide +kernel
theorem dX1_frayCord_5 : decode cX1_frayCord 5 = .ok (.iload 4, 2) := by decide +kernel
theorem dX1_frayCord_7 : decode cX1_frayCord 7 = .ok (.iconst 4, 1) := by decide +kernel
theorem dX1_frayCord_8 : decode cX1_frayCord 8 = .ok (.if_icmp .ge 74, 3) := by decide +kernel
theorem dX1_frayCord_11 : decode cX1_frayCord 11 = .ok (.aload_n 0, 1) := by decide +kernel
theorem dX1_frayCord_12 : decode cX1_frayCord 12 = .ok (.getfield 11, 3) := by decide +kernel
theorem dX1_frayCord_15 : decode cX1_frayCord 15 = .ok (.iload_n 1, 1) := by decide +kernel
theorem dX1_frayCord_16 : decode cX1_frayCord 16 = .ok (.aaload, 1) := by decide +kernel
theorem dX1_frayCord_17 : decode cX1_frayCord 17 = .ok (.iload 4, 2) := by decide +kernel
theorem dX1_frayCord_19 : decode cX1_frayCord 19 = .ok (.iaload, 1) := by decide +kernel
theorem dX1_frayCord_20 : decode cX1_frayCord 20 = .ok (.ifCond .le 56, 3) := by decide +kernel
theorem dX1_frayCord_23 : decode cX1_frayCord 23 = .ok (.aload_n 0, 1) := by decide +kernel
theorem dX1_frayCord_24 : decode cX1_frayCord 24 = .ok (.getfield 16, 3) := by decide +kernel
theorem dX1_frayCord_27 : decode cX1_frayCord 27 = .ok (.iload_n 1, 1) := by decide +kernel
theorem dX1_frayCord_28 : decode cX1_frayCord 28 = .ok (.aaload, 1) := by decide +kernel
theorem dX1_frayCord_29 : decode cX1_frayCord 29 = .ok (.iload 4, 2) := by decide +kernel
theorem dX1_frayCord_31 : decode cX1_frayCord 31 = .ok (.dup2, 1) := by decide +kernel
theorem dX1_frayCord_32 : decode cX1_frayCord 32 = .ok (.iaload, 1) := by decide +kernel
theorem dX1_frayCord_33 : decode cX1_frayCord 33 = .ok (.iload_n 2, 1) := by decide +kernel
theorem dX1_frayCord_34 : decode cX1_frayCord 34 = .ok (.iadd, 1) := by decide +kernel
theorem dX1_frayCord_35 : decode cX1_frayCord 35 = .ok (.iastore, 1) := by decide +kernel
theorem dX1_frayCord_36 : decode cX1_frayCord 36 = .ok (.aload_n 0, 1) := by decide +kernel
theorem dX1_frayCord_37 : decode cX1_frayCord 37 = .ok (.getfield 16, 3) := by decide +kernel
theorem dX1_frayCord_40 : decode cX1_frayCord 40 = .ok (.iload_n 1, 1) := by decide +kernel
theorem dX1_frayCord_41 : decode cX1_frayCord 41 = .ok (.aaload, 1) := by decide +kernel
theorem dX1_frayCord_42 : decode cX1_frayCord 42 = .ok (.iload 4, 2) := by decide +kernel
theorem dX1_frayCord_44 : decode cX1_frayCord 44 = .ok (.iaload, 1) := by decide +kernel
theorem dX1_frayCord_45 : decode cX1_frayCord 45 = .ok (.bipush 10, 2) := by decide +kernel
theorem dX1_frayCord_47 : decode cX1_frayCord 47 = .ok (.if_icmp .lt 29, 3) := by decide +kernel
theorem dX1_frayCord_50 : decode cX1_frayCord 50 = .ok (.aload_n 0, 1) := by decide +kernel
theorem dX1_frayCord_51 : decode cX1_frayCord 51 = .ok (.getfield 11, 3) := by decide +kernel
theorem dX1_frayCord_54 : decode cX1_frayCord 54 = .ok (.iload_n 1, 1) := by decide +kernel
theorem dX1_frayCord_55 : decode cX1_frayCord 55 = .ok (.aaload, 1) := by decide +kernel
theorem dX1_frayCord_56 : decode cX1_frayCord 56 = .ok (.iload 4, 2) := by decide +kernel
theorem dX1_frayCord_58 : decode cX1_frayCord 58 = .ok (.dup2, 1) := by decide +kernel
theorem dX1_frayCord_59 : decode cX1_frayCord 59 = .ok (.iaload, 1) := by decide +kernel
theorem dX1_frayCord_60 : decode cX1_frayCord 60 = .ok (.iconst 1, 1) := by decide +kernel
theorem dX1_frayCord_61 : decode cX1_frayCord 61 = .ok (.isub, 1) := by decide +kernel
theorem dX1_frayCord_62 : decode cX1_frayCord 62 = .ok (.iastore, 1) := by decide +kernel
theorem dX1_frayCord_63 : decode cX1_frayCord 63 = .ok (.aload_n 0, 1) := by decide +kernel
theorem dX1_frayCord_64 : decode cX1_frayCord 64 = .ok (.getfield 16, 3) := by decide +kernel
theorem dX1_frayCord_67 : decode cX1_frayCord 67 = .ok (.iload_n 1, 1) := by decide +kernel
theorem dX1_frayCord_68 : decode cX1_frayCord 68 = .ok (.aaload, 1) := by decide +kernel
theorem dX1_frayCord_69 : decode cX1_frayCord 69 = .ok (.iload 4, 2) := by decide +kernel
theorem dX1_frayCord_71 : decode cX1_frayCord 71 = .ok (.iconst 0, 1) := by decide +kernel
theorem dX1_frayCord_72 : decode cX1_frayCord 72 = .ok (.iastore, 1) := by decide +kernel
theorem dX1_frayCord_73 : decode cX1_frayCord 73 = .ok (.iinc 3 1, 3) := by decide +kernel
theorem dX1_frayCord_76 : decode cX1_frayCord 76 = .ok (.iinc 4 1, 3) := by decide +kernel
theorem dX1_frayCord_79 : decode cX1_frayCord 79 = .ok (.goto (-74), 3) := by decide +kernel
theorem dX1_frayCord_82 : decode cX1_frayCord 82 = .ok (.iload_n 3, 1) := by decide +kernel
theorem dX1_frayCord_83 : decode cX1_frayCord 83 = .ok (.ireturn, 1) := by decide +kernel
theorem dX2_init_0 : decode cX2_init 0 = .ok (.aload_n 0, 1) := by decide +kernel
theorem dX2_init_1 : decode cX2_init 1 = .ok (.invokespecial 3, 3) := by decide +kernel
theorem dX2_init_4 : decode cX2_init 4 = .ok (.aload_n 0, 1) := by decide +kernel
theorem dX2_init_5 : decode cX2_init 5 = .ok (.bipush 30, 2) := by decide +kernel
theorem dX2_init_7 : decode cX2_init 7 = .ok (.iconst 5, 1) := by decide +kernel
theorem dX2_init_8 : decode cX2_init 8 = .ok (.multianewarray 9 2, 4) := by decide +kernel
theorem dX2_init_12 : decode cX2_init 12 = .ok (.putfield 11, 3) := by decide +kernel
theorem dX2_init_15 : decode cX2_init 15 = .ok (.aload_n 0, 1) := by decide +kernel
theorem dX2_init_16 : decode cX2_init 16 = .ok (.iconst 0, 1) := by decide +kernel
theorem dX2_init_17 : decode cX2_init 17 = .ok (.putfield 16, 3) := by decide +kernel
theorem dX2_init_20 : decode cX2_init 20 = .ok (.return_, 1) := by decide +kernel
theorem dX2_write_0 : decode cX2_write 0 = .ok (.aload_n 0, 1) := by decide +kernel
theorem dX2_write_1 : decode cX2_write 1 = .ok (.getfield 11, 3) := by decide +kernel
theorem dX2_write_4 : decode cX2_write 4 = .ok (.aload_n 0, 1) := by decide +kernel
theorem dX2_write_5 : decode cX2_write 5 = .ok (.getfield 16, 3) := by decide +kernel
theorem dX2_write_8 : decode cX2_write 8 = .ok (.aaload, 1) := by decide +kernel
theorem dX2_write_9 : decode cX2_write 9 = .ok (.astore 6, 2) := by decide +kernel
theorem dX2_write_11 : decode cX2_write 11 = .ok (.aload 6, 2) := by decide +kernel
theorem dX2_write_13 : decode cX2_write 13 = .ok (.iconst 0, 1) := by decide +kernel
theorem dX2_write_14 : decode cX2_write 14 = .ok (.iload_n 1, 1) := by decide +kernel
theorem dX2_write_15 : decode cX2_write 15 = .ok (.iastore, 1) := by decide +kernel
theorem dX2_write_16 : decode cX2_write 16 = .ok (.aload 6, 2) := by decide +kernel
theorem dX2_write_18 : decode cX2_write 18 = .ok (.iconst 1, 1) := by decide +kernel
theorem dX2_write_19 : decode cX2_write 19 = .ok (.iload_n 2, 1) := by decide +kernel
theorem dX2_write_20 : decode cX2_write 20 = .ok (.iastore, 1) := by decide +kernel
theorem dX2_write_21 : decode cX2_write 21 = .ok (.aload 6, 2) := by decide +kernel
theorem dX2_write_23 : decode cX2_write 23 = .ok (.iconst 2, 1) := by decide +kernel
theorem dX2_write_24 : decode cX2_write 24 = .ok (.iload_n 3, 1) := by decide +kernel
theorem dX2_write_25 : decode cX2_write 25 = .ok (.iastore, 1) := by decide +kernel
theorem dX2_write_26 : decode cX2_write 26 = .ok (.aload 6, 2) := by decide +kernel
theorem dX2_write_28 : decode cX2_write 28 = .ok (.iconst 3, 1) := by decide +kernel
theorem dX2_write_29 : decode cX2_write 29 = .ok (.iload 4, 2) := by decide +kernel
theorem dX2_write_31 : decode cX2_write 31 = .ok (.iastore, 1) := by decide +kernel
theorem dX2_write_32 : decode cX2_write 32 = .ok (.aload 6, 2) := by decide +kernel
theorem dX2_write_34 : decode cX2_write 34 = .ok (.iconst 4, 1) := by decide +kernel
theorem dX2_write_35 : decode cX2_write 35 = .ok (.iload 5, 2) := by decide +kernel
theorem dX2_write_37 : decode cX2_write 37 = .ok (.iastore, 1) := by decide +kernel
theorem dX2_write_38 : decode cX2_write 38 = .ok (.aload_n 0, 1) := by decide +kernel
theorem dX2_write_39 : decode cX2_write 39 = .ok (.dup, 1) := by decide +kernel
theorem dX2_write_40 : decode cX2_write 40 = .ok (.getfield 16, 3) := by decide +kernel
theorem dX2_write_43 : decode cX2_write 43 = .ok (.iconst 1, 1) := by decide +kernel
theorem dX2_write_44 : decode cX2_write 44 = .ok (.iadd, 1) := by decide +kernel
theorem dX2_write_45 : decode cX2_write 45 = .ok (.putfield 16, 3) := by decide +kernel
theorem dX2_write_48 : decode cX2_write 48 = .ok (.return_, 1) := by decide +kernel
theorem dX3_init_0 : decode cX3_init 0 = .ok (.aload_n 0, 1) := by decide +kernel
theorem dX3_init_1 : decode cX3_init 1 = .ok (.invokespecial 3, 3) := by decide +kernel
theorem dX3_init_4 : decode cX3_init 4 = .ok (.aload_n 0, 1) := by decide +kernel
theorem dX3_init_5 : decode cX3_init 5 = .ok (.bipush 6, 2) := by decide +kernel
theorem dX3_init_7 : decode cX3_init 7 = .ok (.newarray .int, 2) := by decide +kernel
theorem dX3_init_9 : decode cX3_init 9 = .ok (.putfield 9, 3) := by decide +kernel
theorem dX3_init_12 : decode cX3_init 12 = .ok (.aload_n 0, 1) := by decide +kernel
theorem dX3_init_13 : decode cX3_init 13 = .ok (.bipush 6, 2) := by decide +kernel
theorem dX3_init_15 : decode cX3_init 15 = .ok (.bipush 16, 2) := by decide +kernel
theorem dX3_init_17 : decode cX3_init 17 = .ok (.multianewarray 15 2, 4) := by decide +kernel
theorem dX3_init_21 : decode cX3_init 21 = .ok (.putfield 17, 3) := by decide +kernel
theorem dX3_init_24 : decode cX3_init 24 = .ok (.aload_n 0, 1) := by decide +kernel
theorem dX3_init_25 : decode cX3_init 25 = .ok (.bipush 6, 2) := by decide +kernel
theorem dX3_init_27 : decode cX3_init 27 = .ok (.bipush 16, 2) := by decide +kernel
theorem dX3_init_29 : decode cX3_init 29 = .ok (.multianewarray 15 2, 4) := by decide +kernel
theorem dX3_init_33 : decode cX3_init 33 = .ok (.putfield 20, 3) := by decide +kernel
theorem dX3_init_36 : decode cX3_init 36 = .ok (.aload_n 0, 1) := by decide +kernel
theorem dX3_init_37 : decode cX3_init 37 = .ok (.iconst 0, 1) := by decide +kernel
theorem dX3_init_38 : decode cX3_init 38 = .ok (.putfield 23, 3) := by decide +kernel
theorem dX3_init_41 : decode cX3_init 41 = .ok (.return_, 1) := by decide +kernel
set_option maxRecDepth 20000 in
theorem ggX3_add_X3_keep : GoodIn wsX3_add wsX3_keep := goodIn_r _ [7, 8, 9, 10, 11, 12, 13] (by decide +kernel) (by decide +kernel)
set_option maxRecDepth 20000 in
theorem gX3_add_X3_keep : GoodIn wsX3_add (wsV RX3 27 RX3 yX3_keep wsX3_keep) := goodIn_app (goodIn_of _ (by decide +kernel)) ggX3_add_X3_keep
theorem dX3_add_0 : decode cX3_add 0 = .ok (.aload_n 0, 1) := by decide +kernel
theorem dX3_add_1 : decode cX3_add 1 = .ok (.getfield 23, 3) := by decide +kernel
theorem dX3_add_4 : decode cX3_add 4 = .ok (.istore_n 1, 1) := by decide +kernel
theorem dX3_add_5 : decode cX3_add 5 = .ok (.aload_n 0, 1) := by decide +kernel
theorem dX3_add_6 : decode cX3_add 6 = .ok (.getfield 9, 3) := by decide +kernel
theorem dX3_add_9 : decode cX3_add 9 = .ok (.iload_n 1, 1) := by decide +kernel
theorem dX3_add_10 : decode cX3_add 10 = .ok (.bipush 10, 2) := by decide +kernel
theorem dX3_add_12 : decode cX3_add 12 = .ok (.iastore, 1) := by decide +kernel
theorem dX3_add_13 : decode cX3_add 13 = .ok (.iconst 0, 1) := by decide +kernel
theorem dX3_add_14 : decode cX3_add 14 = .ok (.istore_n 2, 1) := by decide +kernel
theorem dX3_add_15 : decode cX3_add 15 = .ok (.iload_n 2, 1) := by decide +kernel
theorem dX3_add_16 : decode cX3_add 16 = .ok (.bipush 16, 2) := by decide +kernel
theorem dX3_add_18 : decode cX3_add 18 = .ok (.if_icmp .ge 17, 3) := by decide +kernel
theorem dX3_add_21 : decode cX3_add 21 = .ok (.aload_n 0, 1) := by decide +kernel
theorem dX3_add_22 : decode cX3_add 22 = .ok (.iload_n 1, 1) := by decide +kernel
theorem dX3_add_23 : decode cX3_add 23 = .ok (.iload_n 2, 1) := by decide +kernel
theorem dX3_add_24 : decode cX3_add 24 = .ok (.iconst (-1), 1) := by decide +kernel
theorem dX3_add_25 : decode cX3_add 25 = .ok (.iconst (-1), 1) := by decide +kernel
theorem dX3_add_26 : decode cX3_add 26 = .ok (.invokevirtual 27, 3) := by decide +kernel
theorem dX3_add_29 : decode cX3_add 29 = .ok (.iinc 2 1, 3) := by decide +kernel
theorem dX3_add_32 : decode cX3_add 32 = .ok (.goto (-17), 3) := by decide +kernel
theorem dX3_add_35 : decode cX3_add 35 = .ok (.aload_n 0, 1) := by decide +kernel
theorem dX3_add_36 : decode cX3_add 36 = .ok (.iload_n 1, 1) := by decide +kernel
theorem dX3_add_37 : decode cX3_add 37 = .ok (.iconst 1, 1) := by decide +kernel
theorem dX3_add_38 : decode cX3_add 38 = .ok (.iadd, 1) := by decide +kernel
theorem dX3_add_39 : decode cX3_add 39 = .ok (.putfield 23, 3) := by decide +kernel
theorem dX3_add_42 : decode cX3_add 42 = .ok (.iload_n 1, 1) := by decide +kernel
theorem dX3_add_43 : decode cX3_add 43 = .ok (.ireturn, 1) := by decide +kernel
theorem dX3_keep_0 : decode cX3_keep 0 = .ok (.aload_n 0, 1) := by decide +kernel
theorem dX3_keep_1 : decode cX3_keep 1 = .ok (.getfield 17, 3) := by decide +kernel
theorem dX3_keep_4 : decode cX3_keep 4 = .ok (.iload_n 1, 1) := by decide +kernel
theorem dX3_keep_5 : decode cX3_keep 5 = .ok (.aaload, 1) := by decide +kernel
theorem dX3_keep_6 : decode cX3_keep 6 = .ok (.iload_n 2, 1) := by decide +kernel
theorem dX3_keep_7 : decode cX3_keep 7 = .ok (.iload_n 3, 1) := by decide +kernel
theorem dX3_keep_8 : decode cX3_keep 8 = .ok (.iastore, 1) := by decide +kernel
theorem dX3_keep_9 : decode cX3_keep 9 = .ok (.aload_n 0, 1) := by decide +kernel
theorem dX3_keep_10 : decode cX3_keep 10 = .ok (.getfield 20, 3) := by decide +kernel
theorem dX3_keep_13 : decode cX3_keep 13 = .ok (.iload_n 1, 1) := by decide +kernel
theorem dX3_keep_14 : decode cX3_keep 14 = .ok (.aaload, 1) := by decide +kernel
theorem dX3_keep_15 : decode cX3_keep 15 = .ok (.iload_n 2, 1) := by decide +kernel
theorem dX3_keep_16 : decode cX3_keep 16 = .ok (.iload 4, 2) := by decide +kernel
theorem dX3_keep_18 : decode cX3_keep 18 = .ok (.iastore, 1) := by decide +kernel
theorem dX3_keep_19 : decode cX3_keep 19 = .ok (.return_, 1) := by decide +kernel
theorem dX3_knows_0 : decode cX3_knows 0 = .ok (.aload_n 0, 1) := by decide +kernel
theorem dX3_knows_1 : decode cX3_knows 1 = .ok (.getfield 20, 3) := by decide +kernel
theorem dX3_knows_4 : decode cX3_knows 4 = .ok (.iload_n 1, 1) := by decide +kernel
theorem dX3_knows_5 : decode cX3_knows 5 = .ok (.aaload, 1) := by decide +kernel
theorem dX3_knows_6 : decode cX3_knows 6 = .ok (.iload_n 2, 1) := by decide +kernel
theorem dX3_knows_7 : decode cX3_knows 7 = .ok (.iaload, 1) := by decide +kernel
theorem dX3_knows_8 : decode cX3_knows 8 = .ok (.iconst (-1), 1) := by decide +kernel
theorem dX3_knows_9 : decode cX3_knows 9 = .ok (.if_icmp .eq 7, 3) := by decide +kernel
theorem dX3_knows_12 : decode cX3_knows 12 = .ok (.iconst 1, 1) := by decide +kernel
theorem dX3_knows_13 : decode cX3_knows 13 = .ok (.goto 4, 3) := by decide +kernel
theorem dX3_knows_16 : decode cX3_knows 16 = .ok (.iconst 0, 1) := by decide +kernel
theorem dX3_knows_17 : decode cX3_knows 17 = .ok (.ireturn, 1) := by decide +kernel
set_option maxRecDepth 20000 in
theorem ggX3_knowsAs_X3_knows : GoodIn wsX3_knowsAs wsX3_knows := goodIn_r _ [6, 7, 8, 9, 10, 11] (by decide +kernel) (by decide +kernel)
set_option maxRecDepth 20000 in
theorem gX3_knowsAs_X3_knows : GoodIn wsX3_knowsAs (wsV RX3 31 RX3 yX3_knows wsX3_knows) := goodIn_app (goodIn_of _ (by decide +kernel)) ggX3_knowsAs_X3_knows
theorem dX3_knowsAs_0 : decode cX3_knowsAs 0 = .ok (.aload_n 0, 1) := by decide +kernel
theorem dX3_knowsAs_1 : decode cX3_knowsAs 1 = .ok (.iload_n 1, 1) := by decide +kernel
theorem dX3_knowsAs_2 : decode cX3_knowsAs 2 = .ok (.iload_n 2, 1) := by decide +kernel
theorem dX3_knowsAs_3 : decode cX3_knowsAs 3 = .ok (.invokevirtual 31, 3) := by decide +kernel
theorem dX3_knowsAs_6 : decode cX3_knowsAs 6 = .ok (.ifCond .eq 19, 3) := by decide +kernel
theorem dX3_knowsAs_9 : decode cX3_knowsAs 9 = .ok (.aload_n 0, 1) := by decide +kernel
theorem dX3_knowsAs_10 : decode cX3_knowsAs 10 = .ok (.getfield 17, 3) := by decide +kernel
theorem dX3_knowsAs_13 : decode cX3_knowsAs 13 = .ok (.iload_n 1, 1) := by decide +kernel
theorem dX3_knowsAs_14 : decode cX3_knowsAs 14 = .ok (.aaload, 1) := by decide +kernel
theorem dX3_knowsAs_15 : decode cX3_knowsAs 15 = .ok (.iload_n 2, 1) := by decide +kernel
theorem dX3_knowsAs_16 : decode cX3_knowsAs 16 = .ok (.iaload, 1) := by decide +kernel
theorem dX3_knowsAs_17 : decode cX3_knowsAs 17 = .ok (.iload_n 3, 1) := by decide +kernel
theorem dX3_knowsAs_18 : decode cX3_knowsAs 18 = .ok (.if_icmp .ne 7, 3) := by decide +kernel
theorem dX3_knowsAs_21 : decode cX3_knowsAs 21 = .ok (.iconst 1, 1) := by decide +kernel
theorem dX3_knowsAs_22 : decode cX3_knowsAs 22 = .ok (.goto 4, 3) := by decide +kernel
theorem dX3_knowsAs_25 : decode cX3_knowsAs 25 = .ok (.iconst 0, 1) := by decide +kernel
theorem dX3_knowsAs_26 : decode cX3_knowsAs 26 = .ok (.ireturn, 1) := by decide +kernel
set_option maxRecDepth 20000 in
theorem ggX3_memory_X3_knows : GoodIn wsX3_memory wsX3_knows := goodIn_r _ [7, 2, 8, 9, 10, 11] (by decide +kernel) (by decide +kernel)
set_option maxRecDepth 20000 in
theorem gX3_memory_X3_knows : GoodIn wsX3_memory (wsV RX3 31 RX3 yX3_knows wsX3_knows) := goodIn_app (goodIn_of _ (by decide +kernel)) ggX3_memory_X3_knows
theorem dX3_memory_0 : decode cX3_memory 0 = .ok (.iload_n 3, 1) := by decide +kernel
theorem dX3_memory_1 : decode cX3_memory 1 = .ok (.lookupswitch 45 #[(0, 27), (1, 36)], 27) := by decide +kernel
theorem dX3_memory_28 : decode cX3_memory 28 = .ok (.aload_n 0, 1) := by decide +kernel
theorem dX3_memory_29 : decode cX3_memory 29 = .ok (.getfield 17, 3) := by decide +kernel
theorem dX3_memory_32 : decode cX3_memory 32 = .ok (.iload_n 1, 1) := by decide +kernel
theorem dX3_memory_33 : decode cX3_memory 33 = .ok (.aaload, 1) := by decide +kernel
theorem dX3_memory_34 : decode cX3_memory 34 = .ok (.iload_n 2, 1) := by decide +kernel
theorem dX3_memory_35 : decode cX3_memory 35 = .ok (.iaload, 1) := by decide +kernel
theorem dX3_memory_36 : decode cX3_memory 36 = .ok (.ireturn, 1) := by decide +kernel
theorem dX3_memory_37 : decode cX3_memory 37 = .ok (.aload_n 0, 1) := by decide +kernel
theorem dX3_memory_38 : decode cX3_memory 38 = .ok (.getfield 20, 3) := by decide +kernel
theorem dX3_memory_41 : decode cX3_memory 41 = .ok (.iload_n 1, 1) := by decide +kernel
theorem dX3_memory_42 : decode cX3_memory 42 = .ok (.aaload, 1) := by decide +kernel
theorem dX3_memory_43 : decode cX3_memory 43 = .ok (.iload_n 2, 1) := by decide +kernel
theorem dX3_memory_44 : decode cX3_memory 44 = .ok (.iaload, 1) := by decide +kernel
theorem dX3_memory_45 : decode cX3_memory 45 = .ok (.ireturn, 1) := by decide +kernel
theorem dX3_memory_46 : decode cX3_memory 46 = .ok (.aload_n 0, 1) := by decide +kernel
theorem dX3_memory_47 : decode cX3_memory 47 = .ok (.iload_n 1, 1) := by decide +kernel
theorem dX3_memory_48 : decode cX3_memory 48 = .ok (.iload_n 2, 1) := by decide +kernel
theorem dX3_memory_49 : decode cX3_memory 49 = .ok (.invokevirtual 31, 3) := by decide +kernel
theorem dX3_memory_52 : decode cX3_memory 52 = .ok (.ifCond .eq 7, 3) := by decide +kernel
theorem dX3_memory_55 : decode cX3_memory 55 = .ok (.iconst 1, 1) := by decide +kernel
theorem dX3_memory_56 : decode cX3_memory 56 = .ok (.goto 4, 3) := by decide +kernel
theorem dX3_memory_59 : decode cX3_memory 59 = .ok (.iconst 0, 1) := by decide +kernel
theorem dX3_memory_60 : decode cX3_memory 60 = .ok (.ireturn, 1) := by decide +kernel
set_option maxRecDepth 20000 in
theorem ggX3_mostTrusted_X3_knows : GoodIn wsX3_mostTrusted wsX3_knows := goodIn_r _ [6, 7, 34, 35, 36, 37] (by decide +kernel) (by decide +kernel)
set_option maxRecDepth 20000 in
theorem gX3_mostTrusted_X3_knows : GoodIn wsX3_mostTrusted (wsV RX3 31 RX3 yX3_knows wsX3_knows) := goodIn_app (goodIn_of _ (by decide +kernel)) ggX3_mostTrusted_X3_knows
set_option maxRecDepth 20000 in
theorem ggX3_mostTrusted_X3_outspeaks : GoodIn wsX3_mostTrusted wsX3_outspeaks := goodIn_r _ [11, 12, 13, 14, 15, 5, 16, 1, 17, 18, 19, 20, 21, 2, 3, 4, 6, 7, 22, 23, 24, 25, 26, 27, 28, 29, 30, 31, 32, 33, 34, 35, 36, 37] (by decide +kernel) (by decide +kernel)
set_option maxRecDepth 20000 in
theorem gX3_mostTrusted_X3_outspeaks : GoodIn wsX3_mostTrusted (wsV RX3 35 RX3 yX3_outspeaks wsX3_outspeaks) := goodIn_app (goodIn_of _ (by decide +kernel)) ggX3_mostTrusted_X3_outspeaks
theorem dX3_mostTrusted_0 : decode cX3_mostTrusted 0 = .ok (.iconst (-1), 1) := by decide +kernel
theorem dX3_mostTrusted_1 : decode cX3_mostTrusted 1 = .ok (.istore_n 2, 1) := by decide +kernel
theorem dX3_mostTrusted_2 : decode cX3_mostTrusted 2 = .ok (.iconst 0, 1) := by decide +kernel
theorem dX3_mostTrusted_3 : decode cX3_mostTrusted 3 = .ok (.istore_n 3, 1) := by decide +kernel
theorem dX3_mostTrusted_4 : decode cX3_mostTrusted 4 = .ok (.iload_n 3, 1) := by decide +kernel
theorem dX3_mostTrusted_5 : decode cX3_mostTrusted 5 = .ok (.aload_n 0, 1) := by decide +kernel
theorem dX3_mostTrusted_6 : decode cX3_mostTrusted 6 = .ok (.getfield 23, 3) := by decide +kernel
theorem dX3_mostTrusted_9 : decode cX3_mostTrusted 9 = .ok (.if_icmp .ge 35, 3) := by decide +kernel
theorem dX3_mostTrusted_12 : decode cX3_mostTrusted 12 = .ok (.aload_n 0, 1) := by decide +kernel
theorem dX3_mostTrusted_13 : decode cX3_mostTrusted 13 = .ok (.iload_n 3, 1) := by decide +kernel
theorem dX3_mostTrusted_14 : decode cX3_mostTrusted 14 = .ok (.iload_n 1, 1) := by decide +kernel
theorem dX3_mostTrusted_15 : decode cX3_mostTrusted 15 = .ok (.invokevirtual 31, 3) := by decide +kernel
theorem dX3_mostTrusted_18 : decode cX3_mostTrusted 18 = .ok (.ifCond .eq 20, 3) := by decide +kernel
theorem dX3_mostTrusted_21 : decode cX3_mostTrusted 21 = .ok (.iload_n 2, 1) := by decide +kernel
theorem dX3_mostTrusted_22 : decode cX3_mostTrusted 22 = .ok (.iconst (-1), 1) := by decide +kernel
theorem dX3_mostTrusted_23 : decode cX3_mostTrusted 23 = .ok (.if_icmp .eq 13, 3) := by decide +kernel
theorem dX3_mostTrusted_26 : decode cX3_mostTrusted 26 = .ok (.aload_n 0, 1) := by decide +kernel
theorem dX3_mostTrusted_27 : decode cX3_mostTrusted 27 = .ok (.iload_n 3, 1) := by decide +kernel
theorem dX3_mostTrusted_28 : decode cX3_mostTrusted 28 = .ok (.iload_n 2, 1) := by decide +kernel
theorem dX3_mostTrusted_29 : decode cX3_mostTrusted 29 = .ok (.iload_n 1, 1) := by decide +kernel
theorem dX3_mostTrusted_30 : decode cX3_mostTrusted 30 = .ok (.invokevirtual 35, 3) := by decide +kernel
theorem dX3_mostTrusted_33 : decode cX3_mostTrusted 33 = .ok (.ifCond .eq 5, 3) := by decide +kernel
theorem dX3_mostTrusted_36 : decode cX3_mostTrusted 36 = .ok (.iload_n 3, 1) := by decide +kernel
theorem dX3_mostTrusted_37 : decode cX3_mostTrusted 37 = .ok (.istore_n 2, 1) := by decide +kernel
theorem dX3_mostTrusted_38 : decode cX3_mostTrusted 38 = .ok (.iinc 3 1, 3) := by decide +kernel
theorem dX3_mostTrusted_41 : decode cX3_mostTrusted 41 = .ok (.goto (-37), 3) := by decide +kernel
theorem dX3_mostTrusted_44 : decode cX3_mostTrusted 44 = .ok (.iload_n 2, 1) := by decide +kernel
theorem dX3_mostTrusted_45 : decode cX3_mostTrusted 45 = .ok (.ireturn, 1) := by decide +kernel
set_option maxRecDepth 20000 in
theorem ggX3_outspeaks_X3_jointTrust : GoodIn wsX3_outspeaks wsX3_jointTrust := goodIn_r _ [6, 7, 8, 9, 10, 11, 5, 12, 1, 13, 14, 15, 16, 17, 30, 31, 32, 33] (by decide +kernel) (by decide +kernel)
set_option maxRecDepth 20000 in
theorem gX3_outspeaks_X3_jointTrust : GoodIn wsX3_outspeaks (wsV RX3 39 RX3 yX3_jointTrust wsX3_jointTrust) := goodIn_app (goodIn_of _ (by decide +kernel)) ggX3_outspeaks_X3_jointTrust
set_option maxRecDepth 20000 in
theorem ggX3_outspeaks_J6_compare_7cf53 : GoodIn wsX3_outspeaks wsJ6_compare_7cf53 := goodIn_r _ [21] (by decide +kernel) (by decide +kernel)
set_option maxRecDepth 20000 in
theorem gX3_outspeaks_J6_compare_7cf53 : GoodIn wsX3_outspeaks (va_wsS RX3 43 yJ6_compare_7cf53 wsJ6_compare_7cf53) := goodIn_app (goodIn_of _ (by decide +kernel)) ggX3_outspeaks_J6_compare_7cf53
set_option maxRecDepth 20000 in
theorem ggX3_outspeaks_X3_latestYear : GoodIn wsX3_outspeaks wsX3_latestYear := goodIn_r _ [25, 7, 17, 26, 27, 28, 29, 9, 10, 11, 5, 12, 1, 13, 14, 15, 16, 30, 31, 32, 33] (by decide +kernel) (by decide +kernel)
set_option maxRecDepth 20000 in
theorem gX3_outspeaks_X3_latestYear : GoodIn wsX3_outspeaks (wsV RX3 48 RX3 yX3_latestYear wsX3_latestYear) := goodIn_app (goodIn_of _ (by decide +kernel)) ggX3_outspeaks_X3_latestYear
theorem dX3_outspeaks_0 : decode cX3_outspeaks 0 = .ok (.aload_n 0, 1) := by decide +kernel
theorem dX3_outspeaks_1 : decode cX3_outspeaks 1 = .ok (.getfield 17, 3) := by decide +kernel
theorem dX3_outspeaks_4 : decode cX3_outspeaks 4 = .ok (.iload_n 1, 1) := by decide +kernel
theorem dX3_outspeaks_5 : decode cX3_outspeaks 5 = .ok (.aaload, 1) := by decide +kernel
theorem dX3_outspeaks_6 : decode cX3_outspeaks 6 = .ok (.iload_n 3, 1) := by decide +kernel
theorem dX3_outspeaks_7 : decode cX3_outspeaks 7 = .ok (.iaload, 1) := by decide +kernel
theorem dX3_outspeaks_8 : decode cX3_outspeaks 8 = .ok (.istore 4, 2) := by decide +kernel
theorem dX3_outspeaks_10 : decode cX3_outspeaks 10 = .ok (.aload_n 0, 1) := by decide +kernel
theorem dX3_outspeaks_11 : decode cX3_outspeaks 11 = .ok (.getfield 17, 3) := by decide +kernel
theorem dX3_outspeaks_14 : decode cX3_outspeaks 14 = .ok (.iload_n 2, 1) := by decide +kernel
theorem dX3_outspeaks_15 : decode cX3_outspeaks 15 = .ok (.aaload, 1) := by decide +kernel
theorem dX3_outspeaks_16 : decode cX3_outspeaks 16 = .ok (.iload_n 3, 1) := by decide +kernel
theorem dX3_outspeaks_17 : decode cX3_outspeaks 17 = .ok (.iaload, 1) := by decide +kernel
theorem dX3_outspeaks_18 : decode cX3_outspeaks 18 = .ok (.istore 5, 2) := by decide +kernel
theorem dX3_outspeaks_20 : decode cX3_outspeaks 20 = .ok (.aload_n 0, 1) := by decide +kernel
theorem dX3_outspeaks_21 : decode cX3_outspeaks 21 = .ok (.iload_n 3, 1) := by decide +kernel
theorem dX3_outspeaks_22 : decode cX3_outspeaks 22 = .ok (.iload 4, 2) := by decide +kernel
theorem dX3_outspeaks_24 : decode cX3_outspeaks 24 = .ok (.invokevirtual 39, 3) := by decide +kernel
theorem dX3_outspeaks_27 : decode cX3_outspeaks 27 = .ok (.aload_n 0, 1) := by decide +kernel
theorem dX3_outspeaks_28 : decode cX3_outspeaks 28 = .ok (.iload_n 3, 1) := by decide +kernel
theorem dX3_outspeaks_29 : decode cX3_outspeaks 29 = .ok (.iload 5, 2) := by decide +kernel
theorem dX3_outspeaks_31 : decode cX3_outspeaks 31 = .ok (.invokevirtual 39, 3) := by decide +kernel
theorem dX3_outspeaks_34 : decode cX3_outspeaks 34 = .ok (.invokestatic 43, 3) := by decide +kernel
theorem dX3_outspeaks_37 : decode cX3_outspeaks 37 = .ok (.istore 6, 2) := by decide +kernel
theorem dX3_outspeaks_39 : decode cX3_outspeaks 39 = .ok (.iload 6, 2) := by decide +kernel
theorem dX3_outspeaks_41 : decode cX3_outspeaks 41 = .ok (.ifCond .eq 14, 3) := by decide +kernel
theorem dX3_outspeaks_44 : decode cX3_outspeaks 44 = .ok (.iload 6, 2) := by decide +kernel
theorem dX3_outspeaks_46 : decode cX3_outspeaks 46 = .ok (.ifCond .le 7, 3) := by decide +kernel
theorem dX3_outspeaks_49 : decode cX3_outspeaks 49 = .ok (.iconst 1, 1) := by decide +kernel
theorem dX3_outspeaks_50 : decode cX3_outspeaks 50 = .ok (.goto 4, 3) := by decide +kernel
theorem dX3_outspeaks_53 : decode cX3_outspeaks 53 = .ok (.iconst 0, 1) := by decide +kernel
theorem dX3_outspeaks_54 : decode cX3_outspeaks 54 = .ok (.ireturn, 1) := by decide +kernel
theorem dX3_outspeaks_55 : decode cX3_outspeaks 55 = .ok (.aload_n 0, 1) := by decide +kernel
theorem dX3_outspeaks_56 : decode cX3_outspeaks 56 = .ok (.iload_n 3, 1) := by decide +kernel
theorem dX3_outspeaks_57 : decode cX3_outspeaks 57 = .ok (.iload 4, 2) := by decide +kernel
theorem dX3_outspeaks_59 : decode cX3_outspeaks 59 = .ok (.invokevirtual 48, 3) := by decide +kernel
theorem dX3_outspeaks_62 : decode cX3_outspeaks 62 = .ok (.aload_n 0, 1) := by decide +kernel
theorem dX3_outspeaks_63 : decode cX3_outspeaks 63 = .ok (.iload_n 3, 1) := by decide +kernel
theorem dX3_outspeaks_64 : decode cX3_outspeaks 64 = .ok (.iload 5, 2) := by decide +kernel
theorem dX3_outspeaks_66 : decode cX3_outspeaks 66 = .ok (.invokevirtual 48, 3) := by decide +kernel
theorem dX3_outspeaks_69 : decode cX3_outspeaks 69 = .ok (.invokestatic 43, 3) := by decide +kernel
theorem dX3_outspeaks_72 : decode cX3_outspeaks 72 = .ok (.istore 7, 2) := by decide +kernel
theorem dX3_outspeaks_74 : decode cX3_outspeaks 74 = .ok (.iload 7, 2) := by decide +kernel
theorem dX3_outspeaks_76 : decode cX3_outspeaks 76 = .ok (.ifCond .eq 14, 3) := by decide +kernel
theorem dX3_outspeaks_79 : decode cX3_outspeaks 79 = .ok (.iload 7, 2) := by decide +kernel
theorem dX3_outspeaks_81 : decode cX3_outspeaks 81 = .ok (.ifCond .le 7, 3) := by decide +kernel
theorem dX3_outspeaks_84 : decode cX3_outspeaks 84 = .ok (.iconst 1, 1) := by decide +kernel
theorem dX3_outspeaks_85 : decode cX3_outspeaks 85 = .ok (.goto 4, 3) := by decide +kernel
theorem dX3_outspeaks_88 : decode cX3_outspeaks 88 = .ok (.iconst 0, 1) := by decide +kernel
theorem dX3_outspeaks_89 : decode cX3_outspeaks 89 = .ok (.ireturn, 1) := by decide +kernel
theorem dX3_outspeaks_90 : decode cX3_outspeaks 90 = .ok (.iload 4, 2) := by decide +kernel
theorem dX3_outspeaks_92 : decode cX3_outspeaks 92 = .ok (.iload 5, 2) := by decide +kernel
theorem dX3_outspeaks_94 : decode cX3_outspeaks 94 = .ok (.if_icmp .ge 7, 3) := by decide +kernel
theorem dX3_outspeaks_97 : decode cX3_outspeaks 97 = .ok (.iconst 1, 1) := by decide +kernel
theorem dX3_outspeaks_98 : decode cX3_outspeaks 98 = .ok (.goto 4, 3) := by decide +kernel
theorem dX3_outspeaks_101 : decode cX3_outspeaks 101 = .ok (.iconst 0, 1) := by decide +kernel
theorem dX3_outspeaks_102 : decode cX3_outspeaks 102 = .ok (.ireturn, 1) := by decide +kernel
set_option maxRecDepth 20000 in
theorem ggX3_jointTrust_X3_knowsAs : GoodIn wsX3_jointTrust wsX3_knowsAs := goodIn_r _ [7, 8, 9, 10, 11, 6, 12, 13, 14, 15, 16, 17] (by decide +kernel) (by decide +kernel)
set_option maxRecDepth 20000 in
theorem gX3_jointTrust_X3_knowsAs : GoodIn wsX3_jointTrust (wsV RX3 51 RX3 yX3_knowsAs wsX3_knowsAs) := goodIn_app (goodIn_of _ (by decide +kernel)) ggX3_jointTrust_X3_knowsAs
theorem dX3_jointTrust_0 : decode cX3_jointTrust 0 = .ok (.iconst 0, 1) := by decide +kernel
theorem dX3_jointTrust_1 : decode cX3_jointTrust 1 = .ok (.istore_n 3, 1) := by decide +kernel
theorem dX3_jointTrust_2 : decode cX3_jointTrust 2 = .ok (.iconst 0, 1) := by decide +kernel
theorem dX3_jointTrust_3 : decode cX3_jointTrust 3 = .ok (.istore 4, 2) := by decide +kernel
theorem dX3_jointTrust_5 : decode cX3_jointTrust 5 = .ok (.iload 4, 2) := by decide +kernel
theorem dX3_jointTrust_7 : decode cX3_jointTrust 7 = .ok (.aload_n 0, 1) := by decide +kernel
theorem dX3_jointTrust_8 : decode cX3_jointTrust 8 = .ok (.getfield 23, 3) := by decide +kernel
theorem dX3_jointTrust_11 : decode cX3_jointTrust 11 = .ok (.if_icmp .ge 30, 3) := by decide +kernel
theorem dX3_jointTrust_14 : decode cX3_jointTrust 14 = .ok (.aload_n 0, 1) := by decide +kernel
theorem dX3_jointTrust_15 : decode cX3_jointTrust 15 = .ok (.iload 4, 2) := by decide +kernel
theorem dX3_jointTrust_17 : decode cX3_jointTrust 17 = .ok (.iload_n 1, 1) := by decide +kernel
theorem dX3_jointTrust_18 : decode cX3_jointTrust 18 = .ok (.iload_n 2, 1) := by decide +kernel
theorem dX3_jointTrust_19 : decode cX3_jointTrust 19 = .ok (.invokevirtual 51, 3) := by decide +kernel
theorem dX3_jointTrust_22 : decode cX3_jointTrust 22 = .ok (.ifCond .eq 13, 3) := by decide +kernel
theorem dX3_jointTrust_25 : decode cX3_jointTrust 25 = .ok (.iload_n 3, 1) := by decide +kernel
theorem dX3_jointTrust_26 : decode cX3_jointTrust 26 = .ok (.aload_n 0, 1) := by decide +kernel
theorem dX3_jointTrust_27 : decode cX3_jointTrust 27 = .ok (.getfield 9, 3) := by decide +kernel
theorem dX3_jointTrust_30 : decode cX3_jointTrust 30 = .ok (.iload 4, 2) := by decide +kernel
theorem dX3_jointTrust_32 : decode cX3_jointTrust 32 = .ok (.iaload, 1) := by decide +kernel
theorem dX3_jointTrust_33 : decode cX3_jointTrust 33 = .ok (.iadd, 1) := by decide +kernel
theorem dX3_jointTrust_34 : decode cX3_jointTrust 34 = .ok (.istore_n 3, 1) := by decide +kernel
theorem dX3_jointTrust_35 : decode cX3_jointTrust 35 = .ok (.iinc 4 1, 3) := by decide +kernel
theorem dX3_jointTrust_38 : decode cX3_jointTrust 38 = .ok (.goto (-33), 3) := by decide +kernel
theorem dX3_jointTrust_41 : decode cX3_jointTrust 41 = .ok (.iload_n 3, 1) := by decide +kernel
theorem dX3_jointTrust_42 : decode cX3_jointTrust 42 = .ok (.ireturn, 1) := by decide +kernel
set_option maxRecDepth 20000 in
theorem ggX3_latestYear_X3_knowsAs : GoodIn wsX3_latestYear wsX3_knowsAs := goodIn_r _ [11, 12, 13, 14, 15, 10, 16, 2, 17, 18, 19, 20] (by decide +kernel) (by decide +kernel)
set_option maxRecDepth 20000 in
theorem gX3_latestYear_X3_knowsAs : GoodIn wsX3_latestYear (wsV RX3 51 RX3 yX3_knowsAs wsX3_knowsAs) := goodIn_app (goodIn_of _ (by decide +kernel)) ggX3_latestYear_X3_knowsAs
theorem dX3_latestYear_0 : decode cX3_latestYear 0 = .ok (.iconst (-1), 1) := by decide +kernel
theorem dX3_latestYear_1 : decode cX3_latestYear 1 = .ok (.istore_n 3, 1) := by decide +kernel
theorem dX3_latestYear_2 : decode cX3_latestYear 2 = .ok (.iconst 0, 1) := by decide +kernel
theorem dX3_latestYear_3 : decode cX3_latestYear 3 = .ok (.istore 4, 2) := by decide +kernel
theorem dX3_latestYear_5 : decode cX3_latestYear 5 = .ok (.iload 4, 2) := by decide +kernel
theorem dX3_latestYear_7 : decode cX3_latestYear 7 = .ok (.aload_n 0, 1) := by decide +kernel
theorem dX3_latestYear_8 : decode cX3_latestYear 8 = .ok (.getfield 23, 3) := by decide +kernel
theorem dX3_latestYear_11 : decode cX3_latestYear 11 = .ok (.if_icmp .ge 34, 3) := by decide +kernel
theorem dX3_latestYear_14 : decode cX3_latestYear 14 = .ok (.aload_n 0, 1) := by decide +kernel
theorem dX3_latestYear_15 : decode cX3_latestYear 15 = .ok (.iload 4, 2) := by decide +kernel
theorem dX3_latestYear_17 : decode cX3_latestYear 17 = .ok (.iload_n 1, 1) := by decide +kernel
theorem dX3_latestYear_18 : decode cX3_latestYear 18 = .ok (.iload_n 2, 1) := by decide +kernel
theorem dX3_latestYear_19 : decode cX3_latestYear 19 = .ok (.invokevirtual 51, 3) := by decide +kernel
theorem dX3_latestYear_22 : decode cX3_latestYear 22 = .ok (.ifCond .eq 17, 3) := by decide +kernel
theorem dX3_latestYear_25 : decode cX3_latestYear 25 = .ok (.iload_n 3, 1) := by decide +kernel
theorem dX3_latestYear_26 : decode cX3_latestYear 26 = .ok (.aload_n 0, 1) := by decide +kernel
theorem dX3_latestYear_27 : decode cX3_latestYear 27 = .ok (.getfield 20, 3) := by decide +kernel
theorem dX3_latestYear_30 : decode cX3_latestYear 30 = .ok (.iload 4, 2) := by decide +kernel
theorem dX3_latestYear_32 : decode cX3_latestYear 32 = .ok (.aaload, 1) := by decide +kernel
theorem dX3_latestYear_33 : decode cX3_latestYear 33 = .ok (.iload_n 1, 1) := by decide +kernel
theorem dX3_latestYear_34 : decode cX3_latestYear 34 = .ok (.iaload, 1) := by decide +kernel
theorem dX3_latestYear_35 : decode cX3_latestYear 35 = .ok (.invokestatic 54, 3) := by decide +kernel
theorem dX3_latestYear_38 : decode cX3_latestYear 38 = .ok (.istore_n 3, 1) := by decide +kernel
theorem dX3_latestYear_39 : decode cX3_latestYear 39 = .ok (.iinc 4 1, 3) := by decide +kernel
theorem dX3_latestYear_42 : decode cX3_latestYear 42 = .ok (.goto (-37), 3) := by decide +kernel
theorem dX3_latestYear_45 : decode cX3_latestYear 45 = .ok (.iload_n 3, 1) := by decide +kernel
theorem dX3_latestYear_46 : decode cX3_latestYear 46 = .ok (.ireturn, 1) := by decide +kernel
set_option maxRecDepth 20000 in
theorem ggX3_judge_X3_knowsAs : GoodIn wsX3_judge wsX3_knowsAs := goodIn_r _ [14, 15, 16, 17, 18, 13, 19, 20, 21, 22, 23, 24] (by decide +kernel) (by decide +kernel)
set_option maxRecDepth 20000 in
theorem gX3_judge_X3_knowsAs : GoodIn wsX3_judge (wsV RX3 51 RX3 yX3_knowsAs wsX3_knowsAs) := goodIn_app (goodIn_of _ (by decide +kernel)) ggX3_judge_X3_knowsAs
set_option maxRecDepth 20000 in
theorem ggX3_judge_X3_knows : GoodIn wsX3_judge wsX3_knows := goodIn_r _ [19, 20, 21, 22, 23, 24] (by decide +kernel) (by decide +kernel)
set_option maxRecDepth 20000 in
theorem gX3_judge_X3_knows : GoodIn wsX3_judge (wsV RX3 31 RX3 yX3_knows wsX3_knows) := goodIn_app (goodIn_of _ (by decide +kernel)) ggX3_judge_X3_knows
theorem dX3_judge_0 : decode cX3_judge 0 = .ok (.iconst 0, 1) := by decide +kernel
theorem dX3_judge_1 : decode cX3_judge 1 = .ok (.istore_n 3, 1) := by decide +kernel
theorem dX3_judge_2 : decode cX3_judge 2 = .ok (.iload_n 3, 1) := by decide +kernel
theorem dX3_judge_3 : decode cX3_judge 3 = .ok (.aload_n 0, 1) := by decide +kernel
theorem dX3_judge_4 : decode cX3_judge 4 = .ok (.getfield 23, 3) := by decide +kernel
theorem dX3_judge_7 : decode cX3_judge 7 = .ok (.if_icmp .ge 68, 3) := by decide +kernel
theorem dX3_judge_10 : decode cX3_judge 10 = .ok (.aload_n 0, 1) := by decide +kernel
theorem dX3_judge_11 : decode cX3_judge 11 = .ok (.iload_n 3, 1) := by decide +kernel
theorem dX3_judge_12 : decode cX3_judge 12 = .ok (.iload_n 1, 1) := by decide +kernel
theorem dX3_judge_13 : decode cX3_judge 13 = .ok (.iload_n 2, 1) := by decide +kernel
theorem dX3_judge_14 : decode cX3_judge 14 = .ok (.invokevirtual 51, 3) := by decide +kernel
theorem dX3_judge_17 : decode cX3_judge 17 = .ok (.ifCond .eq 25, 3) := by decide +kernel
theorem dX3_judge_20 : decode cX3_judge 20 = .ok (.aload_n 0, 1) := by decide +kernel
theorem dX3_judge_21 : decode cX3_judge 21 = .ok (.getfield 9, 3) := by decide +kernel
theorem dX3_judge_24 : decode cX3_judge 24 = .ok (.iload_n 3, 1) := by decide +kernel
theorem dX3_judge_25 : decode cX3_judge 25 = .ok (.aload_n 0, 1) := by decide +kernel
theorem dX3_judge_26 : decode cX3_judge 26 = .ok (.getfield 9, 3) := by decide +kernel
theorem dX3_judge_29 : decode cX3_judge 29 = .ok (.iload_n 3, 1) := by decide +kernel
theorem dX3_judge_30 : decode cX3_judge 30 = .ok (.iaload, 1) := by decide +kernel
theorem dX3_judge_31 : decode cX3_judge 31 = .ok (.iconst 1, 1) := by decide +kernel
theorem dX3_judge_32 : decode cX3_judge 32 = .ok (.iadd, 1) := by decide +kernel
theorem dX3_judge_33 : decode cX3_judge 33 = .ok (.bipush 20, 2) := by decide +kernel
theorem dX3_judge_35 : decode cX3_judge 35 = .ok (.invokestatic 59, 3) := by decide +kernel
theorem dX3_judge_38 : decode cX3_judge 38 = .ok (.iastore, 1) := by decide +kernel
theorem dX3_judge_39 : decode cX3_judge 39 = .ok (.goto 30, 3) := by decide +kernel
theorem dX3_judge_42 : decode cX3_judge 42 = .ok (.aload_n 0, 1) := by decide +kernel
theorem dX3_judge_43 : decode cX3_judge 43 = .ok (.iload_n 3, 1) := by decide +kernel
theorem dX3_judge_44 : decode cX3_judge 44 = .ok (.iload_n 1, 1) := by decide +kernel
theorem dX3_judge_45 : decode cX3_judge 45 = .ok (.invokevirtual 31, 3) := by decide +kernel
theorem dX3_judge_48 : decode cX3_judge 48 = .ok (.ifCond .eq 21, 3) := by decide +kernel
theorem dX3_judge_51 : decode cX3_judge 51 = .ok (.aload_n 0, 1) := by decide +kernel
theorem dX3_judge_52 : decode cX3_judge 52 = .ok (.getfield 9, 3) := by decide +kernel
theorem dX3_judge_55 : decode cX3_judge 55 = .ok (.iload_n 3, 1) := by decide +kernel
theorem dX3_judge_56 : decode cX3_judge 56 = .ok (.aload_n 0, 1) := by decide +kernel
theorem dX3_judge_57 : decode cX3_judge 57 = .ok (.getfield 9, 3) := by decide +kernel
theorem dX3_judge_60 : decode cX3_judge 60 = .ok (.iload_n 3, 1) := by decide +kernel
theorem dX3_judge_61 : decode cX3_judge 61 = .ok (.iaload, 1) := by decide +kernel
theorem dX3_judge_62 : decode cX3_judge 62 = .ok (.iconst 1, 1) := by decide +kernel
theorem dX3_judge_63 : decode cX3_judge 63 = .ok (.isub, 1) := by decide +kernel
theorem dX3_judge_64 : decode cX3_judge 64 = .ok (.iconst 0, 1) := by decide +kernel
theorem dX3_judge_65 : decode cX3_judge 65 = .ok (.invokestatic 54, 3) := by decide +kernel
theorem dX3_judge_68 : decode cX3_judge 68 = .ok (.iastore, 1) := by decide +kernel
theorem dX3_judge_69 : decode cX3_judge 69 = .ok (.iinc 3 1, 3) := by decide +kernel
theorem dX3_judge_72 : decode cX3_judge 72 = .ok (.goto (-70), 3) := by decide +kernel
theorem dX3_judge_75 : decode cX3_judge 75 = .ok (.return_, 1) := by decide +kernel
set_option maxRecDepth 20000 in
theorem ggX4_init_X0_init : GoodIn wsX4_init wsX0_init := goodIn_r _ [24, 25, 2, 3, 26, 27, 28, 29, 30, 31, 52, 53, 54, 55, 56] (by decide +kernel) (by decide +kernel)
set_option maxRecDepth 20000 in
theorem gX4_init_X0_init_n9 : GoodIn wsX4_init (wsX0_init) := ggX4_init_X0_init
set_option maxRecDepth 20000 in
theorem ggX4_init_X1_init : GoodIn wsX4_init wsX1_init := goodIn_r _ [33, 34, 2, 3, 35, 26, 36, 37, 64, 65] (by decide +kernel) (by decide +kernel)
set_option maxRecDepth 20000 in
theorem gX4_init_X1_init_n18 : GoodIn wsX4_init (wsX1_init) := ggX4_init_X1_init
set_option maxRecDepth 20000 in
theorem ggX4_init_X3_init : GoodIn wsX4_init wsX3_init := goodIn_r _ [39, 40, 2, 3, 26, 41, 42, 43, 44, 45, 66, 67, 68, 69] (by decide +kernel) (by decide +kernel)
set_option maxRecDepth 20000 in
theorem gX4_init_X3_init_n28 : GoodIn wsX4_init (wsX3_init) := ggX4_init_X3_init
set_option maxRecDepth 20000 in
theorem ggX4_init_X2_init : GoodIn wsX4_init wsX2_init := goodIn_r _ [47, 48, 2, 3, 49, 26, 50, 51, 70, 71] (by decide +kernel) (by decide +kernel)
set_option maxRecDepth 20000 in
theorem gX4_init_X2_init_n35 : GoodIn wsX4_init (wsX2_init) := ggX4_init_X2_init
theorem dX4_init_0 : decode cX4_init 0 = .ok (.aload_n 0, 1) := by decide +kernel
theorem dX4_init_1 : decode cX4_init 1 = .ok (.invokespecial 1, 3) := by decide +kernel
theorem dX4_init_4 : decode cX4_init 4 = .ok (.aload_n 0, 1) := by decide +kernel
theorem dX4_init_5 : decode cX4_init 5 = .ok (.new 7, 3) := by decide +kernel
theorem dX4_init_8 : decode cX4_init 8 = .ok (.dup, 1) := by decide +kernel
theorem dX4_init_9 : decode cX4_init 9 = .ok (.invokespecial 9, 3) := by decide +kernel
theorem dX4_init_12 : decode cX4_init 12 = .ok (.putfield 10, 3) := by decide +kernel
theorem dX4_init_15 : decode cX4_init 15 = .ok (.aload_n 0, 1) := by decide +kernel
theorem dX4_init_16 : decode cX4_init 16 = .ok (.new 16, 3) := by decide +kernel
theorem dX4_init_19 : decode cX4_init 19 = .ok (.dup, 1) := by decide +kernel
theorem dX4_init_20 : decode cX4_init 20 = .ok (.invokespecial 18, 3) := by decide +kernel
theorem dX4_init_23 : decode cX4_init 23 = .ok (.putfield 19, 3) := by decide +kernel
theorem dX4_init_26 : decode cX4_init 26 = .ok (.aload_n 0, 1) := by decide +kernel
theorem dX4_init_27 : decode cX4_init 27 = .ok (.new 16, 3) := by decide +kernel
theorem dX4_init_30 : decode cX4_init 30 = .ok (.dup, 1) := by decide +kernel
theorem dX4_init_31 : decode cX4_init 31 = .ok (.invokespecial 18, 3) := by decide +kernel
theorem dX4_init_34 : decode cX4_init 34 = .ok (.putfield 23, 3) := by decide +kernel
theorem dX4_init_37 : decode cX4_init 37 = .ok (.aload_n 0, 1) := by decide +kernel
theorem dX4_init_38 : decode cX4_init 38 = .ok (.new 26, 3) := by decide +kernel
theorem dX4_init_41 : decode cX4_init 41 = .ok (.dup, 1) := by decide +kernel
theorem dX4_init_42 : decode cX4_init 42 = .ok (.invokespecial 28, 3) := by decide +kernel
theorem dX4_init_45 : decode cX4_init 45 = .ok (.putfield 29, 3) := by decide +kernel
theorem dX4_init_48 : decode cX4_init 48 = .ok (.aload_n 0, 1) := by decide +kernel
theorem dX4_init_49 : decode cX4_init 49 = .ok (.new 33, 3) := by decide +kernel
theorem dX4_init_52 : decode cX4_init 52 = .ok (.dup, 1) := by decide +kernel
theorem dX4_init_53 : decode cX4_init 53 = .ok (.invokespecial 35, 3) := by decide +kernel
theorem dX4_init_56 : decode cX4_init 56 = .ok (.putfield 36, 3) := by decide +kernel
theorem dX4_init_59 : decode cX4_init 59 = .ok (.aload_n 0, 1) := by decide +kernel
theorem dX4_init_60 : decode cX4_init 60 = .ok (.iconst 0, 1) := by decide +kernel
theorem dX4_init_61 : decode cX4_init 61 = .ok (.putfield 40, 3) := by decide +kernel
theorem dX4_init_64 : decode cX4_init 64 = .ok (.aload_n 0, 1) := by decide +kernel
theorem dX4_init_65 : decode cX4_init 65 = .ok (.iconst 0, 1) := by decide +kernel
theorem dX4_init_66 : decode cX4_init 66 = .ok (.putfield 44, 3) := by decide +kernel
theorem dX4_init_69 : decode cX4_init 69 = .ok (.return_, 1) := by decide +kernel
set_option maxRecDepth 20000 in
theorem ggX4_hang_X4_checkCord : GoodIn wsX4_hang wsX4_checkCord := goodIn_ca (goodIn_r _ [10, 11, 12, 5, 23, 24, 25, 26, 27, 28, 29, 30, 31, 32, 33, 34] (by decide +kernel) (by decide +kernel)) (goodIn_sub (fun _ h => List.mem_cons_of_mem _ (List.mem_append_right _ h)) (by decide +kernel))
set_option maxRecDepth 20000 in
theorem gX4_hang_X4_checkCord : GoodIn wsX4_hang (wsV RX4 47 RX4 yX4_checkCord wsX4_checkCord) := goodIn_app (goodIn_of _ (by decide +kernel)) ggX4_hang_X4_checkCord
set_option maxRecDepth 20000 in
theorem ggX4_hang_X0_hangingFrom : GoodIn wsX4_hang wsX0_hangingFrom := goodIn_r _ [16, 17, 18, 30, 31, 32, 33, 34] (by decide +kernel) (by decide +kernel)
set_option maxRecDepth 20000 in
theorem gX4_hang_X0_hangingFrom_n66 : GoodIn wsX4_hang (wsX0_hangingFrom) := ggX4_hang_X0_hangingFrom
set_option maxRecDepth 20000 in
theorem ggX4_hang_X0_add : GoodIn wsX4_hang wsX0_add := goodIn_r _ [21, 17, 18, 22, 30, 31, 32, 33, 34] (by decide +kernel) (by decide +kernel)
set_option maxRecDepth 20000 in
theorem gX4_hang_X0_add_n72 : GoodIn wsX4_hang (wsX0_add) := ggX4_hang_X0_add
theorem dX4_hang_0 : decode cX4_hang 0 = .ok (.iload_n 1, 1) := by decide +kernel
theorem dX4_hang_1 : decode cX4_hang 1 = .ok (.iconst (-1), 1) := by decide +kernel
theorem dX4_hang_2 : decode cX4_hang 2 = .ok (.if_icmp .eq 8, 3) := by decide +kernel
theorem dX4_hang_5 : decode cX4_hang 5 = .ok (.aload_n 0, 1) := by decide +kernel
theorem dX4_hang_6 : decode cX4_hang 6 = .ok (.iload_n 1, 1) := by decide +kernel
theorem dX4_hang_7 : decode cX4_hang 7 = .ok (.invokevirtual 47, 3) := by decide +kernel
theorem dX4_hang_10 : decode cX4_hang 10 = .ok (.iload_n 2, 1) := by decide +kernel
theorem dX4_hang_11 : decode cX4_hang 11 = .ok (.ifCond .lt 8, 3) := by decide +kernel
theorem dX4_hang_14 : decode cX4_hang 14 = .ok (.iload_n 2, 1) := by decide +kernel
theorem dX4_hang_15 : decode cX4_hang 15 = .ok (.iconst 4, 1) := by decide +kernel
theorem dX4_hang_16 : decode cX4_hang 16 = .ok (.if_icmp .le 13, 3) := by decide +kernel
theorem dX4_hang_19 : decode cX4_hang 19 = .ok (.new 51, 3) := by decide +kernel
theorem dX4_hang_22 : decode cX4_hang 22 = .ok (.dup, 1) := by decide +kernel
theorem dX4_hang_23 : decode cX4_hang 23 = .ok (.ldc 53, 2) := by decide +kernel
theorem dX4_hang_25 : decode cX4_hang 25 = .ok (.invokespecial 55, 3) := by decide +kernel
theorem dX4_hang_28 : decode cX4_hang 28 = .ok (.athrow, 1) := by decide +kernel
theorem dX4_hang_29 : decode cX4_hang 29 = .ok (.aload_n 0, 1) := by decide +kernel
theorem dX4_hang_30 : decode cX4_hang 30 = .ok (.getfield 10, 3) := by decide +kernel
theorem dX4_hang_33 : decode cX4_hang 33 = .ok (.getfield 58, 3) := by decide +kernel
theorem dX4_hang_36 : decode cX4_hang 36 = .ok (.bipush 16, 2) := by decide +kernel
theorem dX4_hang_38 : decode cX4_hang 38 = .ok (.if_icmp .ne 13, 3) := by decide +kernel
theorem dX4_hang_41 : decode cX4_hang 41 = .ok (.new 61, 3) := by decide +kernel
theorem dX4_hang_44 : decode cX4_hang 44 = .ok (.dup, 1) := by decide +kernel
theorem dX4_hang_45 : decode cX4_hang 45 = .ok (.ldc 63, 2) := by decide +kernel
theorem dX4_hang_47 : decode cX4_hang 47 = .ok (.invokespecial 65, 3) := by decide +kernel
theorem dX4_hang_50 : decode cX4_hang 50 = .ok (.athrow, 1) := by decide +kernel
theorem dX4_hang_51 : decode cX4_hang 51 = .ok (.iload_n 1, 1) := by decide +kernel
theorem dX4_hang_52 : decode cX4_hang 52 = .ok (.iconst (-1), 1) := by decide +kernel
theorem dX4_hang_53 : decode cX4_hang 53 = .ok (.if_icmp .eq 26, 3) := by decide +kernel
theorem dX4_hang_56 : decode cX4_hang 56 = .ok (.aload_n 0, 1) := by decide +kernel
theorem dX4_hang_57 : decode cX4_hang 57 = .ok (.getfield 10, 3) := by decide +kernel
theorem dX4_hang_60 : decode cX4_hang 60 = .ok (.iload_n 1, 1) := by decide +kernel
theorem dX4_hang_61 : decode cX4_hang 61 = .ok (.invokevirtual 66, 3) := by decide +kernel
theorem dX4_hang_64 : decode cX4_hang 64 = .ok (.bipush 6, 2) := by decide +kernel
theorem dX4_hang_66 : decode cX4_hang 66 = .ok (.if_icmp .lt 13, 3) := by decide +kernel
theorem dX4_hang_69 : decode cX4_hang 69 = .ok (.new 61, 3) := by decide +kernel
theorem dX4_hang_72 : decode cX4_hang 72 = .ok (.dup, 1) := by decide +kernel
theorem dX4_hang_73 : decode cX4_hang 73 = .ok (.ldc 70, 2) := by decide +kernel
theorem dX4_hang_75 : decode cX4_hang 75 = .ok (.invokespecial 65, 3) := by decide +kernel
theorem dX4_hang_78 : decode cX4_hang 78 = .ok (.athrow, 1) := by decide +kernel
theorem dX4_hang_79 : decode cX4_hang 79 = .ok (.aload_n 0, 1) := by decide +kernel
theorem dX4_hang_80 : decode cX4_hang 80 = .ok (.getfield 10, 3) := by decide +kernel
theorem dX4_hang_83 : decode cX4_hang 83 = .ok (.iload_n 1, 1) := by decide +kernel
theorem dX4_hang_84 : decode cX4_hang 84 = .ok (.iload_n 2, 1) := by decide +kernel
theorem dX4_hang_85 : decode cX4_hang 85 = .ok (.invokevirtual 72, 3) := by decide +kernel
theorem dX4_hang_88 : decode cX4_hang 88 = .ok (.ireturn, 1) := by decide +kernel
set_option maxRecDepth 20000 in
theorem ggX4_tie_X4_checkCord : GoodIn wsX4_tie wsX4_checkCord := goodIn_ca (goodIn_r _ [8, 9, 10, 11, 25, 26, 27, 28, 29, 30, 31, 32, 33, 34, 35, 36] (by decide +kernel) (by decide +kernel)) (goodIn_sub (fun _ h => List.mem_cons_of_mem _ (List.mem_append_right _ h)) (by decide +kernel))
set_option maxRecDepth 20000 in
theorem gX4_tie_X4_checkCord : GoodIn wsX4_tie (wsV RX4 47 RX4 yX4_checkCord wsX4_checkCord) := goodIn_app (goodIn_of _ (by decide +kernel)) ggX4_tie_X4_checkCord
set_option maxRecDepth 20000 in
theorem ggX4_tie_X1_digits : GoodIn wsX4_tie wsX1_digits := goodIn_r _ [15, 16, 37, 38] (by decide +kernel) (by decide +kernel)
set_option maxRecDepth 20000 in
theorem gX4_tie_X1_digits_n78 : GoodIn wsX4_tie (wsX1_digits) := ggX4_tie_X1_digits
set_option maxRecDepth 20000 in
theorem ggX4_tie_X1_tieAll : GoodIn wsX4_tie wsX1_tieAll := goodIn_r _ [19, 16, 20, 21, 22, 13, 23, 24, 37, 38] (by decide +kernel) (by decide +kernel)
set_option maxRecDepth 20000 in
theorem gX4_tie_X1_tieAll_n81 : GoodIn wsX4_tie (wsX1_tieAll) := ggX4_tie_X1_tieAll
theorem dX4_tie_0 : decode cX4_tie 0 = .ok (.aload_n 0, 1) := by decide +kernel
theorem dX4_tie_1 : decode cX4_tie 1 = .ok (.iload_n 1, 1) := by decide +kernel
theorem dX4_tie_2 : decode cX4_tie 2 = .ok (.invokevirtual 47, 3) := by decide +kernel
theorem dX4_tie_5 : decode cX4_tie 5 = .ok (.iload_n 2, 1) := by decide +kernel
theorem dX4_tie_6 : decode cX4_tie 6 = .ok (.ifCond .lt 10, 3) := by decide +kernel
theorem dX4_tie_9 : decode cX4_tie 9 = .ok (.iload_n 2, 1) := by decide +kernel
theorem dX4_tie_10 : decode cX4_tie 10 = .ok (.sipush 9999, 3) := by decide +kernel
theorem dX4_tie_13 : decode cX4_tie 13 = .ok (.if_icmp .le 13, 3) := by decide +kernel
theorem dX4_tie_16 : decode cX4_tie 16 = .ok (.new 51, 3) := by decide +kernel
theorem dX4_tie_19 : decode cX4_tie 19 = .ok (.dup, 1) := by decide +kernel
theorem dX4_tie_20 : decode cX4_tie 20 = .ok (.ldc 76, 2) := by decide +kernel
theorem dX4_tie_22 : decode cX4_tie 22 = .ok (.invokespecial 55, 3) := by decide +kernel
theorem dX4_tie_25 : decode cX4_tie 25 = .ok (.athrow, 1) := by decide +kernel
theorem dX4_tie_26 : decode cX4_tie 26 = .ok (.aload_n 0, 1) := by decide +kernel
theorem dX4_tie_27 : decode cX4_tie 27 = .ok (.getfield 19, 3) := by decide +kernel
theorem dX4_tie_30 : decode cX4_tie 30 = .ok (.iload_n 1, 1) := by decide +kernel
theorem dX4_tie_31 : decode cX4_tie 31 = .ok (.invokevirtual 78, 3) := by decide +kernel
theorem dX4_tie_34 : decode cX4_tie 34 = .ok (.istore_n 3, 1) := by decide +kernel
theorem dX4_tie_35 : decode cX4_tie 35 = .ok (.aload_n 0, 1) := by decide +kernel
theorem dX4_tie_36 : decode cX4_tie 36 = .ok (.getfield 19, 3) := by decide +kernel
theorem dX4_tie_39 : decode cX4_tie 39 = .ok (.iload_n 1, 1) := by decide +kernel
theorem dX4_tie_40 : decode cX4_tie 40 = .ok (.iload_n 2, 1) := by decide +kernel
theorem dX4_tie_41 : decode cX4_tie 41 = .ok (.invokevirtual 81, 3) := by decide +kernel
theorem dX4_tie_44 : decode cX4_tie 44 = .ok (.iload_n 3, 1) := by decide +kernel
theorem dX4_tie_45 : decode cX4_tie 45 = .ok (.ireturn, 1) := by decide +kernel
set_option maxRecDepth 20000 in
theorem ggX4_untie_X4_checkWitness : GoodIn wsX4_untie wsX4_checkWitness := goodIn_ca (goodIn_r _ [12, 13, 14, 15, 35, 36, 37, 38, 39, 40, 41, 46, 47, 48, 49] (by decide +kernel) (by decide +kernel)) (goodIn_sub (fun _ h => List.mem_cons_of_mem _ (List.mem_append_right _ h)) (by decide +kernel))
set_option maxRecDepth 20000 in
theorem gX4_untie_X4_checkWitness : GoodIn wsX4_untie (wsV RX4 85 RX4 yX4_checkWitness wsX4_checkWitness) := goodIn_app (goodIn_of _ (by decide +kernel)) ggX4_untie_X4_checkWitness
set_option maxRecDepth 20000 in
theorem ggX4_untie_X4_checkCord : GoodIn wsX4_untie wsX4_checkCord := goodIn_ca (goodIn_r _ [19, 13, 14, 20, 35, 36, 37, 38, 39, 40, 41, 50, 51, 52, 53, 54] (by decide +kernel) (by decide +kernel)) (goodIn_sub (fun _ h => List.mem_cons_of_mem _ (List.mem_append_right _ h)) (by decide +kernel))
set_option maxRecDepth 20000 in
theorem gX4_untie_X4_checkCord : GoodIn wsX4_untie (wsV RX4 47 RX4 yX4_checkCord wsX4_checkCord) := goodIn_app (goodIn_of _ (by decide +kernel)) ggX4_untie_X4_checkCord
set_option maxRecDepth 20000 in
theorem ggX4_untie_X4_checkPlace : GoodIn wsX4_untie wsX4_checkPlace := goodIn_ca (goodIn_r _ [23, 13, 14] (by decide +kernel) (by decide +kernel)) (goodIn_sub (fun _ h => List.mem_cons_of_mem _ (List.mem_append_right _ h)) (by decide +kernel))
set_option maxRecDepth 20000 in
theorem gX4_untie_X4_checkPlace : GoodIn wsX4_untie (va_wsS RX4 88 yX4_checkPlace wsX4_checkPlace) := goodIn_app (goodIn_of _ (by decide +kernel)) ggX4_untie_X4_checkPlace
set_option maxRecDepth 20000 in
theorem ggX4_untie_X2_write : GoodIn wsX4_untie wsX2_write := goodIn_r _ [27, 28, 29, 44, 45] (by decide +kernel) (by decide +kernel)
set_option maxRecDepth 20000 in
theorem gX4_untie_X2_write_n102 : GoodIn wsX4_untie (wsX2_write) := ggX4_untie_X2_write
set_option maxRecDepth 20000 in
theorem ggX4_untie_X1_digits : GoodIn wsX4_untie wsX1_digits := goodIn_r _ [33, 34, 42, 43] (by decide +kernel) (by decide +kernel)
set_option maxRecDepth 20000 in
theorem gX4_untie_X1_digits_n78 : GoodIn wsX4_untie (wsX1_digits) := ggX4_untie_X1_digits
theorem dX4_untie_0 : decode cX4_untie 0 = .ok (.aload_n 0, 1) := by decide +kernel
theorem dX4_untie_1 : decode cX4_untie 1 = .ok (.iload_n 1, 1) := by decide +kernel
theorem dX4_untie_2 : decode cX4_untie 2 = .ok (.invokevirtual 85, 3) := by decide +kernel
theorem dX4_untie_5 : decode cX4_untie 5 = .ok (.aload_n 0, 1) := by decide +kernel
theorem dX4_untie_6 : decode cX4_untie 6 = .ok (.iload_n 2, 1) := by decide +kernel
theorem dX4_untie_7 : decode cX4_untie 7 = .ok (.invokevirtual 47, 3) := by decide +kernel
theorem dX4_untie_10 : decode cX4_untie 10 = .ok (.iload_n 3, 1) := by decide +kernel
theorem dX4_untie_11 : decode cX4_untie 11 = .ok (.invokestatic 88, 3) := by decide +kernel
theorem dX4_untie_14 : decode cX4_untie 14 = .ok (.iload 4, 2) := by decide +kernel
theorem dX4_untie_16 : decode cX4_untie 16 = .ok (.iconst 1, 1) := by decide +kernel
theorem dX4_untie_17 : decode cX4_untie 17 = .ok (.if_icmp .lt 10, 3) := by decide +kernel
theorem dX4_untie_20 : decode cX4_untie 20 = .ok (.iload 4, 2) := by decide +kernel
theorem dX4_untie_22 : decode cX4_untie 22 = .ok (.bipush 9, 2) := by decide +kernel
theorem dX4_untie_24 : decode cX4_untie 24 = .ok (.if_icmp .le 13, 3) := by decide +kernel
theorem dX4_untie_27 : decode cX4_untie 27 = .ok (.new 51, 3) := by decide +kernel
theorem dX4_untie_30 : decode cX4_untie 30 = .ok (.dup, 1) := by decide +kernel
theorem dX4_untie_31 : decode cX4_untie 31 = .ok (.ldc 91, 2) := by decide +kernel
theorem dX4_untie_33 : decode cX4_untie 33 = .ok (.invokespecial 55, 3) := by decide +kernel
theorem dX4_untie_36 : decode cX4_untie 36 = .ok (.athrow, 1) := by decide +kernel
theorem dX4_untie_37 : decode cX4_untie 37 = .ok (.aload_n 0, 1) := by decide +kernel
theorem dX4_untie_38 : decode cX4_untie 38 = .ok (.getfield 19, 3) := by decide +kernel
theorem dX4_untie_41 : decode cX4_untie 41 = .ok (.getfield 93, 3) := by decide +kernel
theorem dX4_untie_44 : decode cX4_untie 44 = .ok (.iload_n 2, 1) := by decide +kernel
theorem dX4_untie_45 : decode cX4_untie 45 = .ok (.aaload, 1) := by decide +kernel
theorem dX4_untie_46 : decode cX4_untie 46 = .ok (.iload_n 3, 1) := by decide +kernel
theorem dX4_untie_47 : decode cX4_untie 47 = .ok (.iaload, 1) := by decide +kernel
theorem dX4_untie_48 : decode cX4_untie 48 = .ok (.iload 4, 2) := by decide +kernel
theorem dX4_untie_50 : decode cX4_untie 50 = .ok (.if_icmp .ge 13, 3) := by decide +kernel
theorem dX4_untie_53 : decode cX4_untie 53 = .ok (.new 61, 3) := by decide +kernel
theorem dX4_untie_56 : decode cX4_untie 56 = .ok (.dup, 1) := by decide +kernel
theorem dX4_untie_57 : decode cX4_untie 57 = .ok (.ldc 97, 2) := by decide +kernel
theorem dX4_untie_59 : decode cX4_untie 59 = .ok (.invokespecial 65, 3) := by decide +kernel
theorem dX4_untie_62 : decode cX4_untie 62 = .ok (.athrow, 1) := by decide +kernel
theorem dX4_untie_63 : decode cX4_untie 63 = .ok (.aload_n 0, 1) := by decide +kernel
theorem dX4_untie_64 : decode cX4_untie 64 = .ok (.getfield 36, 3) := by decide +kernel
theorem dX4_untie_67 : decode cX4_untie 67 = .ok (.getfield 99, 3) := by decide +kernel
theorem dX4_untie_70 : decode cX4_untie 70 = .ok (.bipush 30, 2) := by decide +kernel
theorem dX4_untie_72 : decode cX4_untie 72 = .ok (.if_icmp .ne 13, 3) := by decide +kernel
theorem dX4_untie_75 : decode cX4_untie 75 = .ok (.new 61, 3) := by decide +kernel
theorem dX4_untie_78 : decode cX4_untie 78 = .ok (.dup, 1) := by decide +kernel
theorem dX4_untie_79 : decode cX4_untie 79 = .ok (.ldc 100, 2) := by decide +kernel
theorem dX4_untie_81 : decode cX4_untie 81 = .ok (.invokespecial 65, 3) := by decide +kernel
theorem dX4_untie_84 : decode cX4_untie 84 = .ok (.athrow, 1) := by decide +kernel
theorem dX4_untie_85 : decode cX4_untie 85 = .ok (.aload_n 0, 1) := by decide +kernel
theorem dX4_untie_86 : decode cX4_untie 86 = .ok (.getfield 19, 3) := by decide +kernel
theorem dX4_untie_89 : decode cX4_untie 89 = .ok (.getfield 93, 3) := by decide +kernel
theorem dX4_untie_92 : decode cX4_untie 92 = .ok (.iload_n 2, 1) := by decide +kernel
theorem dX4_untie_93 : decode cX4_untie 93 = .ok (.aaload, 1) := by decide +kernel
theorem dX4_untie_94 : decode cX4_untie 94 = .ok (.iload_n 3, 1) := by decide +kernel
theorem dX4_untie_95 : decode cX4_untie 95 = .ok (.dup2, 1) := by decide +kernel
theorem dX4_untie_96 : decode cX4_untie 96 = .ok (.iaload, 1) := by decide +kernel
theorem dX4_untie_97 : decode cX4_untie 97 = .ok (.iload 4, 2) := by decide +kernel
theorem dX4_untie_99 : decode cX4_untie 99 = .ok (.isub, 1) := by decide +kernel
theorem dX4_untie_100 : decode cX4_untie 100 = .ok (.iastore, 1) := by decide +kernel
theorem dX4_untie_101 : decode cX4_untie 101 = .ok (.aload_n 0, 1) := by decide +kernel
theorem dX4_untie_102 : decode cX4_untie 102 = .ok (.getfield 36, 3) := by decide +kernel
theorem dX4_untie_105 : decode cX4_untie 105 = .ok (.iload_n 1, 1) := by decide +kernel
theorem dX4_untie_106 : decode cX4_untie 106 = .ok (.iload_n 2, 1) := by decide +kernel
theorem dX4_untie_107 : decode cX4_untie 107 = .ok (.iload_n 3, 1) := by decide +kernel
theorem dX4_untie_108 : decode cX4_untie 108 = .ok (.iload 4, 2) := by decide +kernel
theorem dX4_untie_110 : decode cX4_untie 110 = .ok (.aload_n 0, 1) := by decide +kernel
theorem dX4_untie_111 : decode cX4_untie 111 = .ok (.getfield 40, 3) := by decide +kernel
theorem dX4_untie_114 : decode cX4_untie 114 = .ok (.invokevirtual 102, 3) := by decide +kernel
theorem dX4_untie_117 : decode cX4_untie 117 = .ok (.aload_n 0, 1) := by decide +kernel
theorem dX4_untie_118 : decode cX4_untie 118 = .ok (.getfield 19, 3) := by decide +kernel
theorem dX4_untie_121 : decode cX4_untie 121 = .ok (.iload_n 2, 1) := by decide +kernel
theorem dX4_untie_122 : decode cX4_untie 122 = .ok (.invokevirtual 78, 3) := by decide +kernel
theorem dX4_untie_125 : decode cX4_untie 125 = .ok (.ireturn, 1) := by decide +kernel
set_option maxRecDepth 20000 in
theorem ggX4_mend_X4_checkCord : GoodIn wsX4_mend wsX4_checkCord := goodIn_ca (goodIn_r _ [6, 7, 8, 9, 18, 19, 20, 21, 22, 23, 24, 25, 26, 27, 28, 29] (by decide +kernel) (by decide +kernel)) (goodIn_sub (fun _ h => List.mem_cons_of_mem _ (List.mem_append_right _ h)) (by decide +kernel))
set_option maxRecDepth 20000 in
theorem gX4_mend_X4_checkCord : GoodIn wsX4_mend (wsV RX4 47 RX4 yX4_checkCord wsX4_checkCord) := goodIn_app (goodIn_of _ (by decide +kernel)) ggX4_mend_X4_checkCord
set_option maxRecDepth 20000 in
theorem ggX4_mend_X1_allFrays : GoodIn wsX4_mend wsX1_allFrays := goodIn_r _ [13, 14, 30, 31] (by decide +kernel) (by decide +kernel)
set_option maxRecDepth 20000 in
theorem gX4_mend_X1_allFrays_n106 : GoodIn wsX4_mend (wsX1_allFrays) := ggX4_mend_X1_allFrays
set_option maxRecDepth 20000 in
theorem ggX4_mend_X1_clearFrays : GoodIn wsX4_mend wsX1_clearFrays := goodIn_r _ [17, 14, 30, 31] (by decide +kernel) (by decide +kernel)
set_option maxRecDepth 20000 in
theorem gX4_mend_X1_clearFrays_n109 : GoodIn wsX4_mend (wsX1_clearFrays) := ggX4_mend_X1_clearFrays
theorem dX4_mend_0 : decode cX4_mend 0 = .ok (.aload_n 0, 1) := by decide +kernel
theorem dX4_mend_1 : decode cX4_mend 1 = .ok (.iload_n 1, 1) := by decide +kernel
theorem dX4_mend_2 : decode cX4_mend 2 = .ok (.invokevirtual 47, 3) := by decide +kernel
theorem dX4_mend_5 : decode cX4_mend 5 = .ok (.aload_n 0, 1) := by decide +kernel
theorem dX4_mend_6 : decode cX4_mend 6 = .ok (.getfield 19, 3) := by decide +kernel
theorem dX4_mend_9 : decode cX4_mend 9 = .ok (.iload_n 1, 1) := by decide +kernel
theorem dX4_mend_10 : decode cX4_mend 10 = .ok (.invokevirtual 106, 3) := by decide +kernel
theorem dX4_mend_13 : decode cX4_mend 13 = .ok (.istore_n 2, 1) := by decide +kernel
theorem dX4_mend_14 : decode cX4_mend 14 = .ok (.aload_n 0, 1) := by decide +kernel
theorem dX4_mend_15 : decode cX4_mend 15 = .ok (.getfield 19, 3) := by decide +kernel
theorem dX4_mend_18 : decode cX4_mend 18 = .ok (.iload_n 1, 1) := by decide +kernel
theorem dX4_mend_19 : decode cX4_mend 19 = .ok (.invokevirtual 109, 3) := by decide +kernel
theorem dX4_mend_22 : decode cX4_mend 22 = .ok (.iload_n 2, 1) := by decide +kernel
theorem dX4_mend_23 : decode cX4_mend 23 = .ok (.ireturn, 1) := by decide +kernel
set_option maxRecDepth 20000 in
theorem ggX4_cord_X4_checkCord : GoodIn wsX4_cord wsX4_checkCord := goodIn_ca (goodIn_r _ [7, 8, 9, 1, 59, 60, 61, 62, 63, 64, 65, 66, 67, 68, 69, 70] (by decide +kernel) (by decide +kernel)) (goodIn_sub (fun _ h => List.mem_cons_of_mem _ (List.mem_append_right _ h)) (by decide +kernel))
set_option maxRecDepth 20000 in
theorem gX4_cord_X4_checkCord : GoodIn wsX4_cord (wsV RX4 47 RX4 yX4_checkCord wsX4_checkCord) := goodIn_app (goodIn_of _ (by decide +kernel)) ggX4_cord_X4_checkCord
set_option maxRecDepth 20000 in
theorem ggX4_cord_X4_checkWhat : GoodIn wsX4_cord wsX4_checkWhat := goodIn_ca (goodIn_r _ [12, 8, 9] (by decide +kernel) (by decide +kernel)) (goodIn_sub (fun _ h => List.mem_cons_of_mem _ (List.mem_append_right _ h)) (by decide +kernel))
set_option maxRecDepth 20000 in
theorem gX4_cord_X4_checkWhat : GoodIn wsX4_cord (va_wsS RX4 112 yX4_checkWhat wsX4_checkWhat) := goodIn_app (goodIn_of _ (by decide +kernel)) ggX4_cord_X4_checkWhat
set_option maxRecDepth 20000 in
theorem ggX4_cord_X0_tell : GoodIn wsX4_cord wsX0_tell := goodIn_r _ [16, 17, 18, 19, 20, 21, 22, 14, 23, 24, 25, 26, 27, 28, 29, 30, 31, 32, 33, 34, 35, 36, 37, 38, 39, 40, 41, 42, 43, 66, 67, 68, 69, 70, 71, 72] (by decide +kernel) (by decide +kernel)
set_option maxRecDepth 20000 in
theorem gX4_cord_X0_tell_n115 : GoodIn wsX4_cord (wsX0_tell) := ggX4_cord_X0_tell
set_option maxRecDepth 20000 in
theorem ggX4_cord_X4_cordDetail : GoodIn wsX4_cord wsX4_cordDetail := goodIn_r _ [47, 1, 2, 39, 40, 41, 42, 43, 48, 14, 49, 50, 17, 25, 51, 52, 53, 6, 54, 55, 56, 57, 58, 59, 60, 61, 62, 63, 64, 65, 66, 67, 68, 69, 70, 71, 72] (by decide +kernel) (by decide +kernel)
set_option maxRecDepth 20000 in
theorem gX4_cord_X4_cordDetail : GoodIn wsX4_cord (wsV RX4 119 RX4 yX4_cordDetail wsX4_cordDetail) := goodIn_app (goodIn_of _ (by decide +kernel)) ggX4_cord_X4_cordDetail
theorem dX4_cord_0 : decode cX4_cord 0 = .ok (.aload_n 0, 1) := by decide +kernel
theorem dX4_cord_1 : decode cX4_cord 1 = .ok (.iload_n 1, 1) := by decide +kernel
theorem dX4_cord_2 : decode cX4_cord 2 = .ok (.invokevirtual 47, 3) := by decide +kernel
theorem dX4_cord_5 : decode cX4_cord 5 = .ok (.iload_n 2, 1) := by decide +kernel
theorem dX4_cord_6 : decode cX4_cord 6 = .ok (.bipush 8, 2) := by decide +kernel
theorem dX4_cord_8 : decode cX4_cord 8 = .ok (.invokestatic 112, 3) := by decide +kernel
theorem dX4_cord_11 : decode cX4_cord 11 = .ok (.aload_n 0, 1) := by decide +kernel
theorem dX4_cord_12 : decode cX4_cord 12 = .ok (.getfield 10, 3) := by decide +kernel
theorem dX4_cord_15 : decode cX4_cord 15 = .ok (.aload_n 0, 1) := by decide +kernel
theorem dX4_cord_16 : decode cX4_cord 16 = .ok (.getfield 19, 3) := by decide +kernel
theorem dX4_cord_19 : decode cX4_cord 19 = .ok (.invokevirtual 115, 3) := by decide +kernel
theorem dX4_cord_22 : decode cX4_cord 22 = .ok (.aload_n 0, 1) := by decide +kernel
theorem dX4_cord_23 : decode cX4_cord 23 = .ok (.iload_n 1, 1) := by decide +kernel
theorem dX4_cord_24 : decode cX4_cord 24 = .ok (.iload_n 2, 1) := by decide +kernel
theorem dX4_cord_25 : decode cX4_cord 25 = .ok (.invokevirtual 119, 3) := by decide +kernel
theorem dX4_cord_28 : decode cX4_cord 28 = .ok (.ireturn, 1) := by decide +kernel
set_option maxRecDepth 20000 in
theorem ggX4_place_X4_checkCord : GoodIn wsX4_place wsX4_checkCord := goodIn_ca (goodIn_r _ [6, 7, 8, 9, 16, 17, 18, 19, 20, 21, 22, 25, 26, 27, 28, 29] (by decide +kernel) (by decide +kernel)) (goodIn_sub (fun _ h => List.mem_cons_of_mem _ (List.mem_append_right _ h)) (by decide +kernel))
set_option maxRecDepth 20000 in
theorem gX4_place_X4_checkCord : GoodIn wsX4_place (wsV RX4 47 RX4 yX4_checkCord wsX4_checkCord) := goodIn_app (goodIn_of _ (by decide +kernel)) ggX4_place_X4_checkCord
set_option maxRecDepth 20000 in
theorem ggX4_place_X4_checkPlace : GoodIn wsX4_place wsX4_checkPlace := goodIn_ca (goodIn_r _ [12, 7, 8] (by decide +kernel) (by decide +kernel)) (goodIn_sub (fun _ h => List.mem_cons_of_mem _ (List.mem_append_right _ h)) (by decide +kernel))
set_option maxRecDepth 20000 in
theorem gX4_place_X4_checkPlace : GoodIn wsX4_place (va_wsS RX4 88 yX4_checkPlace wsX4_checkPlace) := goodIn_app (goodIn_of _ (by decide +kernel)) ggX4_place_X4_checkPlace
set_option maxRecDepth 20000 in
theorem ggX4_place_X4_checkWhat : GoodIn wsX4_place wsX4_checkWhat := goodIn_ca (goodIn_r _ [15, 7, 8] (by decide +kernel) (by decide +kernel)) (goodIn_sub (fun _ h => List.mem_cons_of_mem _ (List.mem_append_right _ h)) (by decide +kernel))
set_option maxRecDepth 20000 in
theorem gX4_place_X4_checkWhat : GoodIn wsX4_place (va_wsS RX4 112 yX4_checkWhat wsX4_checkWhat) := goodIn_app (goodIn_of _ (by decide +kernel)) ggX4_place_X4_checkWhat
theorem dX4_place_0 : decode cX4_place 0 = .ok (.aload_n 0, 1) := by decide +kernel
theorem dX4_place_1 : decode cX4_place 1 = .ok (.iload_n 1, 1) := by decide +kernel
theorem dX4_place_2 : decode cX4_place 2 = .ok (.invokevirtual 47, 3) := by decide +kernel
theorem dX4_place_5 : decode cX4_place 5 = .ok (.iload_n 2, 1) := by decide +kernel
theorem dX4_place_6 : decode cX4_place 6 = .ok (.invokestatic 88, 3) := by decide +kernel
theorem dX4_place_9 : decode cX4_place 9 = .ok (.iload_n 3, 1) := by decide +kernel
theorem dX4_place_10 : decode cX4_place 10 = .ok (.iconst 2, 1) := by decide +kernel
theorem dX4_place_11 : decode cX4_place 11 = .ok (.invokestatic 112, 3) := by decide +kernel
theorem dX4_place_14 : decode cX4_place 14 = .ok (.iload_n 3, 1) := by decide +kernel
theorem dX4_place_15 : decode cX4_place 15 = .ok (.ifCond .ne 17, 3) := by decide +kernel
theorem dX4_place_18 : decode cX4_place 18 = .ok (.aload_n 0, 1) := by decide +kernel
theorem dX4_place_19 : decode cX4_place 19 = .ok (.getfield 19, 3) := by decide +kernel
theorem dX4_place_22 : decode cX4_place 22 = .ok (.getfield 93, 3) := by decide +kernel
theorem dX4_place_25 : decode cX4_place 25 = .ok (.iload_n 1, 1) := by decide +kernel
theorem dX4_place_26 : decode cX4_place 26 = .ok (.aaload, 1) := by decide +kernel
theorem dX4_place_27 : decode cX4_place 27 = .ok (.iload_n 2, 1) := by decide +kernel
theorem dX4_place_28 : decode cX4_place 28 = .ok (.iaload, 1) := by decide +kernel
theorem dX4_place_29 : decode cX4_place 29 = .ok (.goto 14, 3) := by decide +kernel
theorem dX4_place_32 : decode cX4_place 32 = .ok (.aload_n 0, 1) := by decide +kernel
theorem dX4_place_33 : decode cX4_place 33 = .ok (.getfield 19, 3) := by decide +kernel
theorem dX4_place_36 : decode cX4_place 36 = .ok (.getfield 122, 3) := by decide +kernel
theorem dX4_place_39 : decode cX4_place 39 = .ok (.iload_n 1, 1) := by decide +kernel
theorem dX4_place_40 : decode cX4_place 40 = .ok (.aaload, 1) := by decide +kernel
theorem dX4_place_41 : decode cX4_place 41 = .ok (.iload_n 2, 1) := by decide +kernel
theorem dX4_place_42 : decode cX4_place 42 = .ok (.iaload, 1) := by decide +kernel
theorem dX4_place_43 : decode cX4_place 43 = .ok (.ireturn, 1) := by decide +kernel
set_option maxRecDepth 20000 in
theorem ggX4_call_X3_add : GoodIn wsX4_call wsX3_add := goodIn_r _ [7, 8, 9, 10, 11, 12, 5, 13, 14, 15, 23, 24, 25, 26] (by decide +kernel) (by decide +kernel)
set_option maxRecDepth 20000 in
theorem gX4_call_X3_add_n128 : GoodIn wsX4_call (wsX3_add) := ggX4_call_X3_add
theorem dX4_call_0 : decode cX4_call 0 = .ok (.aload_n 0, 1) := by decide +kernel
theorem dX4_call_1 : decode cX4_call 1 = .ok (.getfield 29, 3) := by decide +kernel
theorem dX4_call_4 : decode cX4_call 4 = .ok (.getfield 125, 3) := by decide +kernel
theorem dX4_call_7 : decode cX4_call 7 = .ok (.bipush 6, 2) := by decide +kernel
theorem dX4_call_9 : decode cX4_call 9 = .ok (.if_icmp .ne 13, 3) := by decide +kernel
theorem dX4_call_12 : decode cX4_call 12 = .ok (.new 61, 3) := by decide +kernel
theorem dX4_call_15 : decode cX4_call 15 = .ok (.dup, 1) := by decide +kernel
theorem dX4_call_16 : decode cX4_call 16 = .ok (.ldc 126, 2) := by decide +kernel
theorem dX4_call_18 : decode cX4_call 18 = .ok (.invokespecial 65, 3) := by decide +kernel
theorem dX4_call_21 : decode cX4_call 21 = .ok (.athrow, 1) := by decide +kernel
theorem dX4_call_22 : decode cX4_call 22 = .ok (.aload_n 0, 1) := by decide +kernel
theorem dX4_call_23 : decode cX4_call 23 = .ok (.getfield 29, 3) := by decide +kernel
theorem dX4_call_26 : decode cX4_call 26 = .ok (.invokevirtual 128, 3) := by decide +kernel
theorem dX4_call_29 : decode cX4_call 29 = .ok (.ireturn, 1) := by decide +kernel
set_option maxRecDepth 20000 in
theorem ggX4_read_X4_checkWitness : GoodIn wsX4_read wsX4_checkWitness := goodIn_ca (goodIn_r _ [9, 10, 11, 3, 53, 54, 55, 56, 57, 58, 59, 65, 66, 67, 68] (by decide +kernel) (by decide +kernel)) (goodIn_sub (fun _ h => List.mem_cons_of_mem _ (List.mem_append_right _ h)) (by decide +kernel))
set_option maxRecDepth 20000 in
theorem gX4_read_X4_checkWitness : GoodIn wsX4_read (wsV RX4 85 RX4 yX4_checkWitness wsX4_checkWitness) := goodIn_app (goodIn_of _ (by decide +kernel)) ggX4_read_X4_checkWitness
set_option maxRecDepth 20000 in
theorem ggX4_read_X4_checkCord : GoodIn wsX4_read wsX4_checkCord := goodIn_ca (goodIn_r _ [15, 10, 11, 1, 53, 54, 55, 56, 57, 58, 59, 60, 61, 62, 63, 64] (by decide +kernel) (by decide +kernel)) (goodIn_sub (fun _ h => List.mem_cons_of_mem _ (List.mem_append_right _ h)) (by decide +kernel))
set_option maxRecDepth 20000 in
theorem gX4_read_X4_checkCord : GoodIn wsX4_read (wsV RX4 47 RX4 yX4_checkCord wsX4_checkCord) := goodIn_app (goodIn_of _ (by decide +kernel)) ggX4_read_X4_checkCord
set_option maxRecDepth 20000 in
theorem ggX4_read_X0_tell : GoodIn wsX4_read wsX0_tell := goodIn_r _ [19, 20, 21, 22, 23, 24, 25, 17, 26, 27, 28, 29, 30, 31, 32, 33, 34, 35, 36, 37, 38, 39, 40, 41, 42, 43, 44, 45, 46, 60, 61, 62, 63, 64, 69, 70] (by decide +kernel) (by decide +kernel)
set_option maxRecDepth 20000 in
theorem gX4_read_X0_tell_n115 : GoodIn wsX4_read (wsX0_tell) := ggX4_read_X0_tell
set_option maxRecDepth 20000 in
theorem ggX4_read_X3_keep : GoodIn wsX4_read wsX3_keep := goodIn_r _ [50, 51, 52, 65, 66, 67, 68] (by decide +kernel) (by decide +kernel)
set_option maxRecDepth 20000 in
theorem gX4_read_X3_keep_n135 : GoodIn wsX4_read (wsX3_keep) := ggX4_read_X3_keep
theorem dX4_read_0 : decode cX4_read 0 = .ok (.aload_n 0, 1) := by decide +kernel
theorem dX4_read_1 : decode cX4_read 1 = .ok (.iload_n 1, 1) := by decide +kernel
theorem dX4_read_2 : decode cX4_read 2 = .ok (.invokevirtual 85, 3) := by decide +kernel
theorem dX4_read_5 : decode cX4_read 5 = .ok (.aload_n 0, 1) := by decide +kernel
theorem dX4_read_6 : decode cX4_read 6 = .ok (.iload_n 2, 1) := by decide +kernel
theorem dX4_read_7 : decode cX4_read 7 = .ok (.invokevirtual 47, 3) := by decide +kernel
theorem dX4_read_10 : decode cX4_read 10 = .ok (.aload_n 0, 1) := by decide +kernel
theorem dX4_read_11 : decode cX4_read 11 = .ok (.getfield 10, 3) := by decide +kernel
theorem dX4_read_14 : decode cX4_read 14 = .ok (.aload_n 0, 1) := by decide +kernel
theorem dX4_read_15 : decode cX4_read 15 = .ok (.getfield 19, 3) := by decide +kernel
theorem dX4_read_18 : decode cX4_read 18 = .ok (.invokevirtual 115, 3) := by decide +kernel
theorem dX4_read_21 : decode cX4_read 21 = .ok (.aload_n 0, 1) := by decide +kernel
theorem dX4_read_22 : decode cX4_read 22 = .ok (.getfield 10, 3) := by decide +kernel
theorem dX4_read_25 : decode cX4_read 25 = .ok (.getfield 131, 3) := by decide +kernel
theorem dX4_read_28 : decode cX4_read 28 = .ok (.iload_n 2, 1) := by decide +kernel
theorem dX4_read_29 : decode cX4_read 29 = .ok (.iaload, 1) := by decide +kernel
theorem dX4_read_30 : decode cX4_read 30 = .ok (.istore_n 3, 1) := by decide +kernel
theorem dX4_read_31 : decode cX4_read 31 = .ok (.aload_n 0, 1) := by decide +kernel
theorem dX4_read_32 : decode cX4_read 32 = .ok (.getfield 29, 3) := by decide +kernel
theorem dX4_read_35 : decode cX4_read 35 = .ok (.iload_n 1, 1) := by decide +kernel
theorem dX4_read_36 : decode cX4_read 36 = .ok (.iload_n 2, 1) := by decide +kernel
theorem dX4_read_37 : decode cX4_read 37 = .ok (.iload_n 3, 1) := by decide +kernel
theorem dX4_read_38 : decode cX4_read 38 = .ok (.aload_n 0, 1) := by decide +kernel
theorem dX4_read_39 : decode cX4_read 39 = .ok (.getfield 40, 3) := by decide +kernel
theorem dX4_read_42 : decode cX4_read 42 = .ok (.invokevirtual 135, 3) := by decide +kernel
theorem dX4_read_45 : decode cX4_read 45 = .ok (.iload_n 3, 1) := by decide +kernel
theorem dX4_read_46 : decode cX4_read 46 = .ok (.ireturn, 1) := by decide +kernel
set_option maxRecDepth 20000 in
theorem ggX4_remembers_X4_checkWitness : GoodIn wsX4_remembers wsX4_checkWitness := goodIn_ca (goodIn_r _ [6, 7, 8, 1, 27, 28, 29, 30, 31, 32, 33, 34, 35, 36, 37] (by decide +kernel) (by decide +kernel)) (goodIn_sub (fun _ h => List.mem_cons_of_mem _ (List.mem_append_right _ h)) (by decide +kernel))
set_option maxRecDepth 20000 in
theorem gX4_remembers_X4_checkWitness : GoodIn wsX4_remembers (wsV RX4 85 RX4 yX4_checkWitness wsX4_checkWitness) := goodIn_app (goodIn_of _ (by decide +kernel)) ggX4_remembers_X4_checkWitness
set_option maxRecDepth 20000 in
theorem ggX4_remembers_X4_checkCord : GoodIn wsX4_remembers wsX4_checkCord := goodIn_ca (goodIn_r _ [12, 7, 8, 13, 27, 28, 29, 30, 31, 32, 33, 38, 39, 40, 41, 42] (by decide +kernel) (by decide +kernel)) (goodIn_sub (fun _ h => List.mem_cons_of_mem _ (List.mem_append_right _ h)) (by decide +kernel))
set_option maxRecDepth 20000 in
theorem gX4_remembers_X4_checkCord : GoodIn wsX4_remembers (wsV RX4 47 RX4 yX4_checkCord wsX4_checkCord) := goodIn_app (goodIn_of _ (by decide +kernel)) ggX4_remembers_X4_checkCord
set_option maxRecDepth 20000 in
theorem ggX4_remembers_X4_checkWhat : GoodIn wsX4_remembers wsX4_checkWhat := goodIn_ca (goodIn_r _ [16, 7, 8] (by decide +kernel) (by decide +kernel)) (goodIn_sub (fun _ h => List.mem_cons_of_mem _ (List.mem_append_right _ h)) (by decide +kernel))
set_option maxRecDepth 20000 in
theorem gX4_remembers_X4_checkWhat : GoodIn wsX4_remembers (va_wsS RX4 112 yX4_checkWhat wsX4_checkWhat) := goodIn_app (goodIn_of _ (by decide +kernel)) ggX4_remembers_X4_checkWhat
set_option maxRecDepth 20000 in
theorem ggX4_remembers_X3_memory : GoodIn wsX4_remembers wsX3_memory := goodIn_r _ [20, 21, 22, 23, 24, 25, 18, 26, 34, 35, 36, 37] (by decide +kernel) (by decide +kernel)
set_option maxRecDepth 20000 in
theorem gX4_remembers_X3_memory_n139 : GoodIn wsX4_remembers (wsX3_memory) := ggX4_remembers_X3_memory
theorem dX4_remembers_0 : decode cX4_remembers 0 = .ok (.aload_n 0, 1) := by decide +kernel
theorem dX4_remembers_1 : decode cX4_remembers 1 = .ok (.iload_n 1, 1) := by decide +kernel
theorem dX4_remembers_2 : decode cX4_remembers 2 = .ok (.invokevirtual 85, 3) := by decide +kernel
theorem dX4_remembers_5 : decode cX4_remembers 5 = .ok (.aload_n 0, 1) := by decide +kernel
theorem dX4_remembers_6 : decode cX4_remembers 6 = .ok (.iload_n 2, 1) := by decide +kernel
theorem dX4_remembers_7 : decode cX4_remembers 7 = .ok (.invokevirtual 47, 3) := by decide +kernel
theorem dX4_remembers_10 : decode cX4_remembers 10 = .ok (.iload_n 3, 1) := by decide +kernel
theorem dX4_remembers_11 : decode cX4_remembers 11 = .ok (.iconst 3, 1) := by decide +kernel
theorem dX4_remembers_12 : decode cX4_remembers 12 = .ok (.invokestatic 112, 3) := by decide +kernel
theorem dX4_remembers_15 : decode cX4_remembers 15 = .ok (.aload_n 0, 1) := by decide +kernel
theorem dX4_remembers_16 : decode cX4_remembers 16 = .ok (.getfield 29, 3) := by decide +kernel
theorem dX4_remembers_19 : decode cX4_remembers 19 = .ok (.iload_n 1, 1) := by decide +kernel
theorem dX4_remembers_20 : decode cX4_remembers 20 = .ok (.iload_n 2, 1) := by decide +kernel
theorem dX4_remembers_21 : decode cX4_remembers 21 = .ok (.iload_n 3, 1) := by decide +kernel
theorem dX4_remembers_22 : decode cX4_remembers 22 = .ok (.invokevirtual 139, 3) := by decide +kernel
theorem dX4_remembers_25 : decode cX4_remembers 25 = .ok (.ireturn, 1) := by decide +kernel
set_option maxRecDepth 20000 in
theorem ggX4_trust_X4_checkWitness : GoodIn wsX4_trust wsX4_checkWitness := goodIn_ca (goodIn_r _ [6, 7, 8, 1, 9, 10, 11, 12, 13, 14, 15, 16, 17, 18, 19] (by decide +kernel) (by decide +kernel)) (goodIn_sub (fun _ h => List.mem_cons_of_mem _ (List.mem_append_right _ h)) (by decide +kernel))
set_option maxRecDepth 20000 in
theorem gX4_trust_X4_checkWitness : GoodIn wsX4_trust (wsV RX4 85 RX4 yX4_checkWitness wsX4_checkWitness) := goodIn_app (goodIn_of _ (by decide +kernel)) ggX4_trust_X4_checkWitness
theorem dX4_trust_0 : decode cX4_trust 0 = .ok (.aload_n 0, 1) := by decide +kernel
theorem dX4_trust_1 : decode cX4_trust 1 = .ok (.iload_n 1, 1) := by decide +kernel
theorem dX4_trust_2 : decode cX4_trust 2 = .ok (.invokevirtual 85, 3) := by decide +kernel
theorem dX4_trust_5 : decode cX4_trust 5 = .ok (.aload_n 0, 1) := by decide +kernel
theorem dX4_trust_6 : decode cX4_trust 6 = .ok (.getfield 29, 3) := by decide +kernel
theorem dX4_trust_9 : decode cX4_trust 9 = .ok (.getfield 143, 3) := by decide +kernel
theorem dX4_trust_12 : decode cX4_trust 12 = .ok (.iload_n 1, 1) := by decide +kernel
theorem dX4_trust_13 : decode cX4_trust 13 = .ok (.iaload, 1) := by decide +kernel
theorem dX4_trust_14 : decode cX4_trust 14 = .ok (.ireturn, 1) := by decide +kernel
set_option maxRecDepth 20000 in
theorem ggX4_dispute_X4_checkCord : GoodIn wsX4_dispute wsX4_checkCord := goodIn_ca (goodIn_r _ [8, 9, 10, 11, 54, 55, 56, 57, 58, 59, 60, 65, 66, 67, 68, 69] (by decide +kernel) (by decide +kernel)) (goodIn_sub (fun _ h => List.mem_cons_of_mem _ (List.mem_append_right _ h)) (by decide +kernel))
set_option maxRecDepth 20000 in
theorem gX4_dispute_X4_checkCord : GoodIn wsX4_dispute (wsV RX4 47 RX4 yX4_checkCord wsX4_checkCord) := goodIn_app (goodIn_of _ (by decide +kernel)) ggX4_dispute_X4_checkCord
set_option maxRecDepth 20000 in
theorem ggX4_dispute_X3_mostTrusted : GoodIn wsX4_dispute wsX3_mostTrusted := goodIn_r _ [15, 16, 17, 18, 19, 13, 20, 21, 22, 23, 24, 25, 26, 27, 28, 29, 30, 31, 32, 33, 34, 35, 36, 37, 38, 39, 40, 41, 42, 43, 44, 45, 46, 47, 61, 62, 63, 64] (by decide +kernel) (by decide +kernel)
set_option maxRecDepth 20000 in
theorem gX4_dispute_X3_mostTrusted_n146 : GoodIn wsX4_dispute (wsX3_mostTrusted) := ggX4_dispute_X3_mostTrusted
set_option maxRecDepth 20000 in
theorem ggX4_dispute_X3_judge : GoodIn wsX4_dispute wsX3_judge := goodIn_r _ [50, 16, 31, 51, 52, 46, 53, 44, 45, 47, 32, 33, 34, 13, 35, 26, 17, 18, 19, 20, 21, 61, 62, 63, 64] (by decide +kernel) (by decide +kernel)
set_option maxRecDepth 20000 in
theorem gX4_dispute_X3_judge_n154 : GoodIn wsX4_dispute (wsX3_judge) := ggX4_dispute_X3_judge
theorem dX4_dispute_0 : decode cX4_dispute 0 = .ok (.aload_n 0, 1) := by decide +kernel
theorem dX4_dispute_1 : decode cX4_dispute 1 = .ok (.iload_n 1, 1) := by decide +kernel
theorem dX4_dispute_2 : decode cX4_dispute 2 = .ok (.invokevirtual 47, 3) := by decide +kernel
theorem dX4_dispute_5 : decode cX4_dispute 5 = .ok (.aload_n 0, 1) := by decide +kernel
theorem dX4_dispute_6 : decode cX4_dispute 6 = .ok (.getfield 29, 3) := by decide +kernel
theorem dX4_dispute_9 : decode cX4_dispute 9 = .ok (.iload_n 1, 1) := by decide +kernel
theorem dX4_dispute_10 : decode cX4_dispute 10 = .ok (.invokevirtual 146, 3) := by decide +kernel
theorem dX4_dispute_13 : decode cX4_dispute 13 = .ok (.istore_n 2, 1) := by decide +kernel
theorem dX4_dispute_14 : decode cX4_dispute 14 = .ok (.iload_n 2, 1) := by decide +kernel
theorem dX4_dispute_15 : decode cX4_dispute 15 = .ok (.iconst (-1), 1) := by decide +kernel
theorem dX4_dispute_16 : decode cX4_dispute 16 = .ok (.if_icmp .ne 13, 3) := by decide +kernel
theorem dX4_dispute_19 : decode cX4_dispute 19 = .ok (.new 61, 3) := by decide +kernel
theorem dX4_dispute_22 : decode cX4_dispute 22 = .ok (.dup, 1) := by decide +kernel
theorem dX4_dispute_23 : decode cX4_dispute 23 = .ok (.ldc 149, 2) := by decide +kernel
theorem dX4_dispute_25 : decode cX4_dispute 25 = .ok (.invokespecial 65, 3) := by decide +kernel
theorem dX4_dispute_28 : decode cX4_dispute 28 = .ok (.athrow, 1) := by decide +kernel
theorem dX4_dispute_29 : decode cX4_dispute 29 = .ok (.aload_n 0, 1) := by decide +kernel
theorem dX4_dispute_30 : decode cX4_dispute 30 = .ok (.getfield 29, 3) := by decide +kernel
theorem dX4_dispute_33 : decode cX4_dispute 33 = .ok (.getfield 151, 3) := by decide +kernel
theorem dX4_dispute_36 : decode cX4_dispute 36 = .ok (.iload_n 2, 1) := by decide +kernel
theorem dX4_dispute_37 : decode cX4_dispute 37 = .ok (.aaload, 1) := by decide +kernel
theorem dX4_dispute_38 : decode cX4_dispute 38 = .ok (.iload_n 1, 1) := by decide +kernel
theorem dX4_dispute_39 : decode cX4_dispute 39 = .ok (.iaload, 1) := by decide +kernel
theorem dX4_dispute_40 : decode cX4_dispute 40 = .ok (.istore_n 3, 1) := by decide +kernel
theorem dX4_dispute_41 : decode cX4_dispute 41 = .ok (.aload_n 0, 1) := by decide +kernel
theorem dX4_dispute_42 : decode cX4_dispute 42 = .ok (.getfield 29, 3) := by decide +kernel
theorem dX4_dispute_45 : decode cX4_dispute 45 = .ok (.iload_n 1, 1) := by decide +kernel
theorem dX4_dispute_46 : decode cX4_dispute 46 = .ok (.iload_n 3, 1) := by decide +kernel
theorem dX4_dispute_47 : decode cX4_dispute 47 = .ok (.invokevirtual 154, 3) := by decide +kernel
theorem dX4_dispute_50 : decode cX4_dispute 50 = .ok (.iload_n 3, 1) := by decide +kernel
theorem dX4_dispute_51 : decode cX4_dispute 51 = .ok (.ireturn, 1) := by decide +kernel
set_option maxRecDepth 20000 in
theorem ggX4_untying_X4_checkWhat : GoodIn wsX4_untying wsX4_checkWhat := goodIn_ca (goodIn_r _ [7, 1, 2] (by decide +kernel) (by decide +kernel)) (goodIn_sub (fun _ h => List.mem_cons_of_mem _ (List.mem_append_right _ h)) (by decide +kernel))
set_option maxRecDepth 20000 in
theorem gX4_untying_X4_checkWhat : GoodIn wsX4_untying (va_wsS RX4 112 yX4_checkWhat wsX4_checkWhat) := goodIn_app (goodIn_of _ (by decide +kernel)) ggX4_untying_X4_checkWhat
theorem dX4_untying_0 : decode cX4_untying 0 = .ok (.iload_n 1, 1) := by decide +kernel
theorem dX4_untying_1 : decode cX4_untying 1 = .ok (.ifCond .lt 14, 3) := by decide +kernel
theorem dX4_untying_4 : decode cX4_untying 4 = .ok (.iload_n 1, 1) := by decide +kernel
theorem dX4_untying_5 : decode cX4_untying 5 = .ok (.aload_n 0, 1) := by decide +kernel
theorem dX4_untying_6 : decode cX4_untying 6 = .ok (.getfield 36, 3) := by decide +kernel
theorem dX4_untying_9 : decode cX4_untying 9 = .ok (.getfield 99, 3) := by decide +kernel
theorem dX4_untying_12 : decode cX4_untying 12 = .ok (.if_icmp .lt 13, 3) := by decide +kernel
theorem dX4_untying_15 : decode cX4_untying 15 = .ok (.new 157, 3) := by decide +kernel
theorem dX4_untying_18 : decode cX4_untying 18 = .ok (.dup, 1) := by decide +kernel
theorem dX4_untying_19 : decode cX4_untying 19 = .ok (.ldc 159, 2) := by decide +kernel
theorem dX4_untying_21 : decode cX4_untying 21 = .ok (.invokespecial 161, 3) := by decide +kernel
theorem dX4_untying_24 : decode cX4_untying 24 = .ok (.athrow, 1) := by decide +kernel
theorem dX4_untying_25 : decode cX4_untying 25 = .ok (.iload_n 2, 1) := by decide +kernel
theorem dX4_untying_26 : decode cX4_untying 26 = .ok (.iconst 5, 1) := by decide +kernel
theorem dX4_untying_27 : decode cX4_untying 27 = .ok (.invokestatic 112, 3) := by decide +kernel
theorem dX4_untying_30 : decode cX4_untying 30 = .ok (.aload_n 0, 1) := by decide +kernel
theorem dX4_untying_31 : decode cX4_untying 31 = .ok (.getfield 36, 3) := by decide +kernel
theorem dX4_untying_34 : decode cX4_untying 34 = .ok (.getfield 162, 3) := by decide +kernel
theorem dX4_untying_37 : decode cX4_untying 37 = .ok (.iload_n 1, 1) := by decide +kernel
theorem dX4_untying_38 : decode cX4_untying 38 = .ok (.aaload, 1) := by decide +kernel
theorem dX4_untying_39 : decode cX4_untying 39 = .ok (.iload_n 2, 1) := by decide +kernel
theorem dX4_untying_40 : decode cX4_untying 40 = .ok (.iaload, 1) := by decide +kernel
theorem dX4_untying_41 : decode cX4_untying 41 = .ok (.ireturn, 1) := by decide +kernel
set_option maxRecDepth 20000 in
theorem ggX4_pass_X4_checkYears : GoodIn wsX4_pass wsX4_checkYears := goodIn_ca (goodIn_r _ [8, 9, 10] (by decide +kernel) (by decide +kernel)) (goodIn_sub (fun _ h => List.mem_cons_of_mem _ (List.mem_append_right _ h)) (by decide +kernel))
set_option maxRecDepth 20000 in
theorem gX4_pass_X4_checkYears : GoodIn wsX4_pass (va_wsS RX4 165 yX4_checkYears wsX4_checkYears) := goodIn_app (goodIn_of _ (by decide +kernel)) ggX4_pass_X4_checkYears
set_option maxRecDepth 20000 in
theorem ggX4_pass_X1_fray : GoodIn wsX4_pass wsX1_fray := goodIn_r _ [14, 15, 16, 17, 12, 18, 19, 20, 28, 29, 30, 31, 32, 33, 34] (by decide +kernel) (by decide +kernel)
set_option maxRecDepth 20000 in
theorem gX4_pass_X1_fray_n168 : GoodIn wsX4_pass (wsX1_fray) := ggX4_pass_X1_fray
theorem dX4_pass_0 : decode cX4_pass 0 = .ok (.iload_n 1, 1) := by decide +kernel
theorem dX4_pass_1 : decode cX4_pass 1 = .ok (.invokestatic 165, 3) := by decide +kernel
theorem dX4_pass_4 : decode cX4_pass 4 = .ok (.aload_n 0, 1) := by decide +kernel
theorem dX4_pass_5 : decode cX4_pass 5 = .ok (.getfield 19, 3) := by decide +kernel
theorem dX4_pass_8 : decode cX4_pass 8 = .ok (.aload_n 0, 1) := by decide +kernel
theorem dX4_pass_9 : decode cX4_pass 9 = .ok (.getfield 10, 3) := by decide +kernel
theorem dX4_pass_12 : decode cX4_pass 12 = .ok (.iload_n 1, 1) := by decide +kernel
theorem dX4_pass_13 : decode cX4_pass 13 = .ok (.invokevirtual 168, 3) := by decide +kernel
theorem dX4_pass_16 : decode cX4_pass 16 = .ok (.istore_n 2, 1) := by decide +kernel
theorem dX4_pass_17 : decode cX4_pass 17 = .ok (.aload_n 0, 1) := by decide +kernel
theorem dX4_pass_18 : decode cX4_pass 18 = .ok (.dup, 1) := by decide +kernel
theorem dX4_pass_19 : decode cX4_pass 19 = .ok (.getfield 40, 3) := by decide +kernel
theorem dX4_pass_22 : decode cX4_pass 22 = .ok (.iload_n 1, 1) := by decide +kernel
theorem dX4_pass_23 : decode cX4_pass 23 = .ok (.iadd, 1) := by decide +kernel
theorem dX4_pass_24 : decode cX4_pass 24 = .ok (.putfield 40, 3) := by decide +kernel
theorem dX4_pass_27 : decode cX4_pass 27 = .ok (.aload_n 0, 1) := by decide +kernel
theorem dX4_pass_28 : decode cX4_pass 28 = .ok (.dup, 1) := by decide +kernel
theorem dX4_pass_29 : decode cX4_pass 29 = .ok (.getfield 44, 3) := by decide +kernel
theorem dX4_pass_32 : decode cX4_pass 32 = .ok (.iload_n 2, 1) := by decide +kernel
theorem dX4_pass_33 : decode cX4_pass 33 = .ok (.iadd, 1) := by decide +kernel
theorem dX4_pass_34 : decode cX4_pass 34 = .ok (.putfield 44, 3) := by decide +kernel
theorem dX4_pass_37 : decode cX4_pass 37 = .ok (.iload_n 2, 1) := by decide +kernel
theorem dX4_pass_38 : decode cX4_pass 38 = .ok (.ireturn, 1) := by decide +kernel
set_option maxRecDepth 20000 in
theorem ggX4_count_X4_checkWhat : GoodIn wsX4_count wsX4_checkWhat := goodIn_ca (goodIn_r _ [6, 7, 8] (by decide +kernel) (by decide +kernel)) (goodIn_sub (fun _ h => List.mem_cons_of_mem _ (List.mem_append_right _ h)) (by decide +kernel))
set_option maxRecDepth 20000 in
theorem gX4_count_X4_checkWhat : GoodIn wsX4_count (va_wsS RX4 112 yX4_checkWhat wsX4_checkWhat) := goodIn_app (goodIn_of _ (by decide +kernel)) ggX4_count_X4_checkWhat
